-- ThreadBank$Sheets.isSheet(I)Z
set_option maxRecDepth 100000 in
set_option maxHeartbeats 4000000 in
theorem ty_65 (X : qm_X) (h : qm_H) (a : Int32) (hp : True) (Q : qm_Q) (hq : ∀ r : Int32, ((r = 0 ∨ r = 1) ∧ ((r.toInt = 1 ∧ 0 ≤ a.toInt ∧ a.toInt < 4) ∨ (r.toInt = 0 ∧ ¬ (0 ≤ a.toInt ∧ a.toInt < 4)))) → Q (some (.int r)) h) : qm_PW X 65 [.int a] h Q := by
  refine qm_seg_ok (C := qc_65) (rt := some .boolean) rfl rfl (cuts := []) 400 _ _ _ _ ?_
  show (a.toInt < 0 → (((0 : Int32) = 0 ∨ (0 : Int32) = 1) ∧ Q (some (.int 0)) h)) ∧ (0 ≤ a.toInt → ((4 ≤ a.toInt → (((0 : Int32) = 0 ∨ (0 : Int32) = 1) ∧ Q (some (.int 0)) h)) ∧ (a.toInt < 4 → (((1 : Int32) = 0 ∨ (1 : Int32) = 1) ∧ Q (some (.int 1)) h))))
  refine ⟨fun c1 => ?_, fun c2 => ?_⟩
  · exact ⟨Or.inl rfl, hq 0 (by have : (0 : Int32).toInt = 0 := rfl; show ((0 : Int32) = 0 ∨ (0 : Int32) = 1) ∧ (((0 : Int32).toInt = 1 ∧ 0 ≤ a.toInt ∧ a.toInt < 4) ∨ ((0 : Int32).toInt = 0 ∧ ¬ (0 ≤ a.toInt ∧ a.toInt < 4))); first | exact ⟨Or.inr rfl, by omega⟩ | exact ⟨Or.inl rfl, by omega⟩)⟩
  · refine ⟨fun c3 => ?_, fun c4 => ?_⟩
    · exact ⟨Or.inl rfl, hq 0 (by have : (0 : Int32).toInt = 0 := rfl; show ((0 : Int32) = 0 ∨ (0 : Int32) = 1) ∧ (((0 : Int32).toInt = 1 ∧ 0 ≤ a.toInt ∧ a.toInt < 4) ∨ ((0 : Int32).toInt = 0 ∧ ¬ (0 ≤ a.toInt ∧ a.toInt < 4))); first | exact ⟨Or.inr rfl, by omega⟩ | exact ⟨Or.inl rfl, by omega⟩)⟩
    · exact ⟨Or.inr rfl, hq 1 (by have : (1 : Int32).toInt = 1 := rfl; show ((1 : Int32) = 0 ∨ (1 : Int32) = 1) ∧ (((1 : Int32).toInt = 1 ∧ 0 ≤ a.toInt ∧ a.toInt < 4) ∨ ((1 : Int32).toInt = 0 ∧ ¬ (0 ≤ a.toInt ∧ a.toInt < 4))); first | exact ⟨Or.inr rfl, by omega⟩ | exact ⟨Or.inl rfl, by omega⟩)⟩
-- ThreadBank$Sheets.isLane(I)Z
set_option maxRecDepth 100000 in
set_option maxHeartbeats 4000000 in
theorem ty_66 (X : qm_X) (h : qm_H) (a : Int32) (hp : True) (Q : qm_Q) (hq : ∀ r : Int32, ((r = 0 ∨ r = 1) ∧ ((r.toInt = 1 ∧ 0 ≤ a.toInt ∧ a.toInt < 3) ∨ (r.toInt = 0 ∧ ¬ (0 ≤ a.toInt ∧ a.toInt < 3)))) → Q (some (.int r)) h) : qm_PW X 66 [.int a] h Q := by
  refine qm_seg_ok (C := qc_66) (rt := some .boolean) rfl rfl (cuts := []) 400 _ _ _ _ ?_
  show (a.toInt < 0 → (((0 : Int32) = 0 ∨ (0 : Int32) = 1) ∧ Q (some (.int 0)) h)) ∧ (0 ≤ a.toInt → ((3 ≤ a.toInt → (((0 : Int32) = 0 ∨ (0 : Int32) = 1) ∧ Q (some (.int 0)) h)) ∧ (a.toInt < 3 → (((1 : Int32) = 0 ∨ (1 : Int32) = 1) ∧ Q (some (.int 1)) h))))
  refine ⟨fun c1 => ?_, fun c2 => ?_⟩
  · exact ⟨Or.inl rfl, hq 0 (by have : (0 : Int32).toInt = 0 := rfl; show ((0 : Int32) = 0 ∨ (0 : Int32) = 1) ∧ (((0 : Int32).toInt = 1 ∧ 0 ≤ a.toInt ∧ a.toInt < 3) ∨ ((0 : Int32).toInt = 0 ∧ ¬ (0 ≤ a.toInt ∧ a.toInt < 3))); first | exact ⟨Or.inr rfl, by omega⟩ | exact ⟨Or.inl rfl, by omega⟩)⟩
  · refine ⟨fun c3 => ?_, fun c4 => ?_⟩
    · exact ⟨Or.inl rfl, hq 0 (by have : (0 : Int32).toInt = 0 := rfl; show ((0 : Int32) = 0 ∨ (0 : Int32) = 1) ∧ (((0 : Int32).toInt = 1 ∧ 0 ≤ a.toInt ∧ a.toInt < 3) ∨ ((0 : Int32).toInt = 0 ∧ ¬ (0 ≤ a.toInt ∧ a.toInt < 3))); first | exact ⟨Or.inr rfl, by omega⟩ | exact ⟨Or.inl rfl, by omega⟩)⟩
    · exact ⟨Or.inr rfl, hq 1 (by have : (1 : Int32).toInt = 1 := rfl; show ((1 : Int32) = 0 ∨ (1 : Int32) = 1) ∧ (((1 : Int32).toInt = 1 ∧ 0 ≤ a.toInt ∧ a.toInt < 3) ∨ ((1 : Int32).toInt = 0 ∧ ¬ (0 ≤ a.toInt ∧ a.toInt < 3))); first | exact ⟨Or.inr rfl, by omega⟩ | exact ⟨Or.inl rfl, by omega⟩)⟩
-- ThreadBank$Sheets.isNothing(I)Z
set_option maxRecDepth 100000 in
set_option maxHeartbeats 4000000 in
theorem ty_67 (X : qm_X) (h : qm_H) (a : Int32) (hp : True) (Q : qm_Q) (hq : ∀ r : Int32, ((r = 0 ∨ r = 1) ∧ ((r.toInt = 1 ∧ (a.toInt < 0 ∨ 4 ≤ a.toInt ∨ (h 37 a.toInt.toNat).toInt = -4)) ∨ (r.toInt = 0 ∧ ¬ ((a.toInt < 0 ∨ 4 ≤ a.toInt ∨ (h 37 a.toInt.toNat).toInt = -4))))) → Q (some (.int r)) h) : qm_PW X 67 [.ref 34, .int a] h Q := by
  refine qm_seg_ok (C := qc_67) (rt := some .boolean) rfl rfl (cuts := []) 400 _ _ _ _ ?_
  show qm_PW X 65 [.int a] h _
  refine ty_65 X h a trivial _ (fun r1 p2 => ?_)
  have o3 : (r1 = 0 ∨ r1 = 1) ∧ ((r1.toInt = 1 ∧ 0 ≤ a.toInt ∧ a.toInt < 4) ∨ (r1.toInt = 0 ∧ ¬ (0 ≤ a.toInt ∧ a.toInt < 4))) := p2
  clear p2
  show (r1 = 0 → (((1 : Int32) = 0 ∨ (1 : Int32) = 1) ∧ Q (some (.int 1)) h)) ∧ (¬ r1 = 0 → ((0 ≤ a.toInt ∧ a.toInt < 4) ∧ ((¬ (h 37 a.toInt.toNat) = (-4 : Int32) → (((0 : Int32) = 0 ∨ (0 : Int32) = 1) ∧ Q (some (.int 0)) h)) ∧ ((h 37 a.toInt.toNat) = (-4 : Int32) → (((1 : Int32) = 0 ∨ (1 : Int32) = 1) ∧ Q (some (.int 1)) h)))))
  refine ⟨fun c4 => ?_, fun c5 => ?_⟩
  · have := ti_eqK 0 rfl c4
    exact ⟨Or.inr rfl, hq 1 (by have : (1 : Int32).toInt = 1 := rfl; show ((1 : Int32) = 0 ∨ (1 : Int32) = 1) ∧ (((1 : Int32).toInt = 1 ∧ (a.toInt < 0 ∨ 4 ≤ a.toInt ∨ (h 37 a.toInt.toNat).toInt = -4)) ∨ ((1 : Int32).toInt = 0 ∧ ¬ ((a.toInt < 0 ∨ 4 ≤ a.toInt ∨ (h 37 a.toInt.toNat).toInt = -4)))); first | exact ⟨Or.inr rfl, by omega⟩ | exact ⟨Or.inl rfl, by omega⟩)⟩
  · have := ti_neK 0 rfl c5
    refine ⟨(by omega), ?_⟩
    refine ⟨fun c6 => ?_, fun c7 => ?_⟩
    · have := ti_neK (-4) ti_n4 c6
      exact ⟨Or.inl rfl, hq 0 (by have : (0 : Int32).toInt = 0 := rfl; show ((0 : Int32) = 0 ∨ (0 : Int32) = 1) ∧ (((0 : Int32).toInt = 1 ∧ (a.toInt < 0 ∨ 4 ≤ a.toInt ∨ (h 37 a.toInt.toNat).toInt = -4)) ∨ ((0 : Int32).toInt = 0 ∧ ¬ ((a.toInt < 0 ∨ 4 ≤ a.toInt ∨ (h 37 a.toInt.toNat).toInt = -4)))); first | exact ⟨Or.inr rfl, by omega⟩ | exact ⟨Or.inl rfl, by omega⟩)⟩
    · have := ti_eqK (-4) ti_n4 c7
      exact ⟨Or.inr rfl, hq 1 (by have : (1 : Int32).toInt = 1 := rfl; show ((1 : Int32) = 0 ∨ (1 : Int32) = 1) ∧ (((1 : Int32).toInt = 1 ∧ (a.toInt < 0 ∨ 4 ≤ a.toInt ∨ (h 37 a.toInt.toNat).toInt = -4)) ∨ ((1 : Int32).toInt = 0 ∧ ¬ ((a.toInt < 0 ∨ 4 ≤ a.toInt ∨ (h 37 a.toInt.toNat).toInt = -4)))); first | exact ⟨Or.inr rfl, by omega⟩ | exact ⟨Or.inl rfl, by omega⟩)⟩
-- ThreadBank$Sheets.hasCell(II)Z
set_option maxRecDepth 100000 in
set_option maxHeartbeats 4000000 in
theorem ty_68 (X : qm_X) (h : qm_H) (a : Int32) (b : Int32) (hp : True) (Q : qm_Q) (hq : ∀ r : Int32, ((r = 0 ∨ r = 1) ∧ ((r.toInt = 1 ∧ (0 ≤ a.toInt ∧ a.toInt < 4) ∧ ¬ (h 37 a.toInt.toNat).toInt = -4 ∧ 0 ≤ b.toInt ∧ b.toInt < (h 37 a.toInt.toNat).toInt) ∨ (r.toInt = 0 ∧ ¬ ((0 ≤ a.toInt ∧ a.toInt < 4) ∧ ¬ (h 37 a.toInt.toNat).toInt = -4 ∧ 0 ≤ b.toInt ∧ b.toInt < (h 37 a.toInt.toNat).toInt)))) → Q (some (.int r)) h) : qm_PW X 68 [.ref 34, .int a, .int b] h Q := by
  refine qm_seg_ok (C := qc_68) (rt := some .boolean) rfl rfl (cuts := []) 400 _ _ _ _ ?_
  show qm_PW X 67 [.ref 34, .int a] h _
  refine ty_67 X h a trivial _ (fun r1 p2 => ?_)
  have o3 : (r1 = 0 ∨ r1 = 1) ∧ ((r1.toInt = 1 ∧ (a.toInt < 0 ∨ 4 ≤ a.toInt ∨ (h 37 a.toInt.toNat).toInt = -4)) ∨ (r1.toInt = 0 ∧ ¬ ((a.toInt < 0 ∨ 4 ≤ a.toInt ∨ (h 37 a.toInt.toNat).toInt = -4)))) := p2
  clear p2
  show (¬ r1 = 0 → (((0 : Int32) = 0 ∨ (0 : Int32) = 1) ∧ Q (some (.int 0)) h)) ∧ (r1 = 0 → ((b.toInt < 0 → (((0 : Int32) = 0 ∨ (0 : Int32) = 1) ∧ Q (some (.int 0)) h)) ∧ (0 ≤ b.toInt → ((0 ≤ a.toInt ∧ a.toInt < 4) ∧ (((h 37 a.toInt.toNat).toInt ≤ b.toInt → (((0 : Int32) = 0 ∨ (0 : Int32) = 1) ∧ Q (some (.int 0)) h)) ∧ (b.toInt < (h 37 a.toInt.toNat).toInt → (((1 : Int32) = 0 ∨ (1 : Int32) = 1) ∧ Q (some (.int 1)) h)))))))
  refine ⟨fun c4 => ?_, fun c5 => ?_⟩
  · have := ti_neK 0 rfl c4
    exact ⟨Or.inl rfl, hq 0 (by have : (0 : Int32).toInt = 0 := rfl; show ((0 : Int32) = 0 ∨ (0 : Int32) = 1) ∧ (((0 : Int32).toInt = 1 ∧ (0 ≤ a.toInt ∧ a.toInt < 4) ∧ ¬ (h 37 a.toInt.toNat).toInt = -4 ∧ 0 ≤ b.toInt ∧ b.toInt < (h 37 a.toInt.toNat).toInt) ∨ ((0 : Int32).toInt = 0 ∧ ¬ ((0 ≤ a.toInt ∧ a.toInt < 4) ∧ ¬ (h 37 a.toInt.toNat).toInt = -4 ∧ 0 ≤ b.toInt ∧ b.toInt < (h 37 a.toInt.toNat).toInt))); first | exact ⟨Or.inr rfl, by omega⟩ | exact ⟨Or.inl rfl, by omega⟩)⟩
  · have := ti_eqK 0 rfl c5
    refine ⟨fun c6 => ?_, fun c7 => ?_⟩
    · exact ⟨Or.inl rfl, hq 0 (by have : (0 : Int32).toInt = 0 := rfl; show ((0 : Int32) = 0 ∨ (0 : Int32) = 1) ∧ (((0 : Int32).toInt = 1 ∧ (0 ≤ a.toInt ∧ a.toInt < 4) ∧ ¬ (h 37 a.toInt.toNat).toInt = -4 ∧ 0 ≤ b.toInt ∧ b.toInt < (h 37 a.toInt.toNat).toInt) ∨ ((0 : Int32).toInt = 0 ∧ ¬ ((0 ≤ a.toInt ∧ a.toInt < 4) ∧ ¬ (h 37 a.toInt.toNat).toInt = -4 ∧ 0 ≤ b.toInt ∧ b.toInt < (h 37 a.toInt.toNat).toInt))); first | exact ⟨Or.inr rfl, by omega⟩ | exact ⟨Or.inl rfl, by omega⟩)⟩
    · refine ⟨(by omega), ?_⟩
      refine ⟨fun c8 => ?_, fun c9 => ?_⟩
      · exact ⟨Or.inl rfl, hq 0 (by have : (0 : Int32).toInt = 0 := rfl; show ((0 : Int32) = 0 ∨ (0 : Int32) = 1) ∧ (((0 : Int32).toInt = 1 ∧ (0 ≤ a.toInt ∧ a.toInt < 4) ∧ ¬ (h 37 a.toInt.toNat).toInt = -4 ∧ 0 ≤ b.toInt ∧ b.toInt < (h 37 a.toInt.toNat).toInt) ∨ ((0 : Int32).toInt = 0 ∧ ¬ ((0 ≤ a.toInt ∧ a.toInt < 4) ∧ ¬ (h 37 a.toInt.toNat).toInt = -4 ∧ 0 ≤ b.toInt ∧ b.toInt < (h 37 a.toInt.toNat).toInt))); first | exact ⟨Or.inr rfl, by omega⟩ | exact ⟨Or.inl rfl, by omega⟩)⟩
      · exact ⟨Or.inr rfl, hq 1 (by have : (1 : Int32).toInt = 1 := rfl; show ((1 : Int32) = 0 ∨ (1 : Int32) = 1) ∧ (((1 : Int32).toInt = 1 ∧ (0 ≤ a.toInt ∧ a.toInt < 4) ∧ ¬ (h 37 a.toInt.toNat).toInt = -4 ∧ 0 ≤ b.toInt ∧ b.toInt < (h 37 a.toInt.toNat).toInt) ∨ ((1 : Int32).toInt = 0 ∧ ¬ ((0 ≤ a.toInt ∧ a.toInt < 4) ∧ ¬ (h 37 a.toInt.toNat).toInt = -4 ∧ 0 ≤ b.toInt ∧ b.toInt < (h 37 a.toInt.toNat).toInt))); first | exact ⟨Or.inr rfl, by omega⟩ | exact ⟨Or.inl rfl, by omega⟩)⟩
-- ThreadBank$Sheets.cell(II)I
set_option maxRecDepth 100000 in
set_option maxHeartbeats 4000000 in
theorem ty_69 (X : qm_X) (h : qm_H) (a : Int32) (b : Int32) (hp : sq h) (Q : qm_Q) (hq : ∀ r : Int32, ((((0 ≤ a.toInt ∧ a.toInt < 4) ∧ ¬ (h 37 a.toInt.toNat).toInt = -4 ∧ 0 ≤ b.toInt ∧ b.toInt < (h 37 a.toInt.toNat).toInt) ∧ r.toInt = (h 35 (40 * a.toInt.toNat + b.toInt.toNat)).toInt) ∨ (¬ ((0 ≤ a.toInt ∧ a.toInt < 4) ∧ ¬ (h 37 a.toInt.toNat).toInt = -4 ∧ 0 ≤ b.toInt ∧ b.toInt < (h 37 a.toInt.toNat).toInt) ∧ r.toInt = 0)) → Q (some (.int r)) h) : qm_PW X 69 [.ref 34, .int a, .int b] h Q := by
  have hmsq : sq h := hp
  refine qm_seg_ok (C := qc_69) (rt := some .int) rfl rfl (cuts := []) 400 _ _ _ _ ?_
  show qm_PW X 68 [.ref 34, .int a, .int b] h _
  refine ty_68 X h a b trivial _ (fun r1 p2 => ?_)
  have o3 : (r1 = 0 ∨ r1 = 1) ∧ ((r1.toInt = 1 ∧ (0 ≤ a.toInt ∧ a.toInt < 4) ∧ ¬ (h 37 a.toInt.toNat).toInt = -4 ∧ 0 ≤ b.toInt ∧ b.toInt < (h 37 a.toInt.toNat).toInt) ∨ (r1.toInt = 0 ∧ ¬ ((0 ≤ a.toInt ∧ a.toInt < 4) ∧ ¬ (h 37 a.toInt.toNat).toInt = -4 ∧ 0 ≤ b.toInt ∧ b.toInt < (h 37 a.toInt.toNat).toInt))) := p2
  clear p2
  show (r1 = 0 → (Q (some (.int 0)) h)) ∧ (¬ r1 = 0 → ((0 ≤ ((40 * a) + b).toInt ∧ ((40 * a) + b).toInt < 160) ∧ (Q (some (.int (h 35 ((40 * a) + b).toInt.toNat))) h)))
  refine ⟨fun c4 => ?_, fun c5 => ?_⟩
  · have := ti_eqK 0 rfl c4
    exact hq 0 (by have := hmsq (a.toInt.toNat); have : (0 : Int32).toInt = 0 := rfl; show (((0 ≤ a.toInt ∧ a.toInt < 4) ∧ ¬ (h 37 a.toInt.toNat).toInt = -4 ∧ 0 ≤ b.toInt ∧ b.toInt < (h 37 a.toInt.toNat).toInt) ∧ (0 : Int32).toInt = (h 35 (40 * a.toInt.toNat + b.toInt.toNat)).toInt) ∨ (¬ ((0 ≤ a.toInt ∧ a.toInt < 4) ∧ ¬ (h 37 a.toInt.toNat).toInt = -4 ∧ 0 ≤ b.toInt ∧ b.toInt < (h 37 a.toInt.toNat).toInt) ∧ (0 : Int32).toInt = 0); exact Or.inr ⟨by omega, rfl⟩)
  · have := ti_neK 0 rfl c5
    refine ⟨(by have := hmsq (a.toInt.toNat); have := ti_mulL (40 : Int32) 40 rfl a; have := ti_add (40 * a) b; omega), ?_⟩
    exact hq (h 35 ((40 * a) + b).toInt.toNat) (by have := hmsq (a.toInt.toNat); have := ti_mulL (40 : Int32) 40 rfl a; have := ti_add (40 * a) b; show (((0 ≤ a.toInt ∧ a.toInt < 4) ∧ ¬ (h 37 a.toInt.toNat).toInt = -4 ∧ 0 ≤ b.toInt ∧ b.toInt < (h 37 a.toInt.toNat).toInt) ∧ (h 35 ((40 * a) + b).toInt.toNat).toInt = (h 35 (40 * a.toInt.toNat + b.toInt.toNat)).toInt) ∨ (¬ ((0 ≤ a.toInt ∧ a.toInt < 4) ∧ ¬ (h 37 a.toInt.toNat).toInt = -4 ∧ 0 ≤ b.toInt ∧ b.toInt < (h 37 a.toInt.toNat).toInt) ∧ (h 35 ((40 * a) + b).toInt.toNat).toInt = 0); have hsq := hmsq a.toInt.toNat; have q4 := ti_mulL (40 : Int32) 40 rfl a; have q5 := ti_add (40 * a) b; have hix : ((40 * a) + b).toInt.toNat = 40 * a.toInt.toNat + b.toInt.toNat := (by omega); exact Or.inl ⟨by omega, by rw [hix]⟩)
-- ThreadBank$Sheets.renew(III)V
set_option maxRecDepth 100000 in
set_option maxHeartbeats 4000000 in
theorem ty_70_c (X : qm_X) (h : qm_H) (a : Int32) (b : Int32) (c : Int32) (hp : sq h ∧ ((0 ≤ a.toInt ∧ a.toInt < 4) ∧ 0 ≤ c.toInt ∧ c.toInt ≤ 40)) (Q : qm_Q) (hq : ∀ h' : qm_H, (sq h' ∧ (∀ k, (k < 35 ∨ 37 < k) → h' k = h k) ∧ ((h' 37) = upd (h 37) a.toInt.toNat c ∧ (h' 36) = upd (h 36) a.toInt.toNat b ∧ zrQ a.toInt.toNat c.toInt (h 35) (h' 35))) → Q none h') : ∀ n : Nat, (∀ (l4 : Int32) (g : qm_H), ((((0 ≤ l4.toInt ∧ l4.toInt ≤ c.toInt) ∧ 0 ≤ a.toInt ∧ a.toInt < 4 ∧ 0 ≤ c.toInt ∧ c.toInt ≤ 40) ∧ zrQ a.toInt.toNat l4.toInt (h 35) (g 35) ∧ g 36 = h 36 ∧ g 37 = h 37) ∧ sq g ∧ ∀ k, (k < 35 ∨ 37 < k) → g k = h k) → (40 - l4.toInt).toNat < n → qm_PA X 70 20 [(0, .ref 34), (1, .int a), (2, .int b), (3, .int c), (4, .int l4)] [] g Q) := by
  have hmsq : sq h := hp.1
  have hp0 : (0 ≤ a.toInt ∧ a.toInt < 4) ∧ 0 ≤ c.toInt ∧ c.toInt ≤ 40 := hp.2
  intro n
  induction n with
  | zero => exact fun _ _ _ h0 => absurd h0 (Nat.not_lt_zero _)
  | succ n ih =>
    intro l4 g hi hr
    obtain ⟨hi0, hgsq, hgf⟩ := hi
    refine qm_seg_ok (C := qc_70) (rt := none) rfl rfl (cuts := [(20, [0, 1, 2, 3, 4])]) 400 _ _ _ _ ?_
    show (c.toInt ≤ l4.toInt → ((0 ≤ a.toInt ∧ a.toInt < 4) ∧ ((0 ≤ a.toInt ∧ a.toInt < 4) ∧ (Q none (qm_row (qm_row g 36 (upd (g 36) a.toInt.toNat b)) 37 (upd (g 37) a.toInt.toNat c)))))) ∧ (l4.toInt < c.toInt → ((0 ≤ ((40 * a) + l4).toInt ∧ ((40 * a) + l4).toInt < 160) ∧ (qm_PA X 70 20 [(0, .ref 34), (1, .int a), (2, .int b), (3, .int c), (4, .int (l4 + 1))] [] (qm_row g 35 (upd (g 35) ((40 * a) + l4).toInt.toNat 0)) Q)))
    refine ⟨fun c1 => ?_, fun c2 => ?_⟩
    · refine ⟨(by omega), ?_⟩
      refine ⟨(by omega), ?_⟩
      exact hq (qm_row (qm_row g 36 (upd (g 36) a.toInt.toNat b)) 37 (upd (g 37) a.toInt.toNat c)) ⟨(by intro j; show (upd _ _ _ j).toInt ≤ 40; unfold upd; (split <;> first | omega | exact hgsq j)), (fun k hk => by simp only [qm_row]; rw [if_neg (by omega)]; rw [if_neg (by omega)]; exact hgf k hk), (by show (upd (g 37) a.toInt.toNat c) = upd (h 37) a.toInt.toNat c ∧ (upd (g 36) a.toInt.toNat b) = upd (h 36) a.toInt.toNat b ∧ zrQ a.toInt.toNat c.toInt (h 35) (g 35); exact ⟨by rw [hi0.2.2.2], by rw [hi0.2.2.1], by rw [show c.toInt = l4.toInt by omega]; exact hi0.2.1⟩)⟩
    · refine ⟨(by have := ti_mulL (40 : Int32) 40 rfl a; have := ti_add (40 * a) l4; omega), ?_⟩
      exact ih (l4 + 1) (qm_row g 35 (upd (g 35) ((40 * a) + l4).toInt.toNat 0)) ⟨(by have := ti_addK l4 (1 : Int32) 1 rfl; have := ti_mulL (40 : Int32) 40 rfl a; have := ti_add (40 * a) l4; show ((0 ≤ (l4 + 1).toInt ∧ (l4 + 1).toInt ≤ c.toInt) ∧ 0 ≤ a.toInt ∧ a.toInt < 4 ∧ 0 ≤ c.toInt ∧ c.toInt ≤ 40) ∧ zrQ a.toInt.toNat (l4 + 1).toInt (h 35) ((qm_row g 35 (upd (g 35) ((40 * a) + l4).toInt.toNat 0)) 35) ∧ (qm_row g 35 (upd (g 35) ((40 * a) + l4).toInt.toNat 0)) 36 = h 36 ∧ (qm_row g 35 (upd (g 35) ((40 * a) + l4).toInt.toNat 0)) 37 = h 37; have q4 := ti_mulL (40 : Int32) 40 rfl a; have q5 := ti_add (40 * a) l4; have hix : ((40 * a) + l4).toInt.toNat = 40 * a.toInt.toNat + l4.toInt.toNat := (by omega); exact ⟨by omega, zr_s hi0.2.1 (by omega) (by omega) (by omega) (by omega) rfl, hi0.2.2.1, hi0.2.2.2⟩), (by exact hgsq), (fun k hk => by simp only [qm_row]; rw [if_neg (by omega)]; exact hgf k hk)⟩ (by have := ti_addK l4 (1 : Int32) 1 rfl; show (40 - (l4 + 1).toInt).toNat < n; omega)
set_option maxRecDepth 100000 in
set_option maxHeartbeats 4000000 in
theorem ty_70 (X : qm_X) (h : qm_H) (a : Int32) (b : Int32) (c : Int32) (hp : sq h ∧ ((0 ≤ a.toInt ∧ a.toInt < 4) ∧ 0 ≤ c.toInt ∧ c.toInt ≤ 40)) (Q : qm_Q) (hq : ∀ h' : qm_H, (sq h' ∧ (∀ k, (k < 35 ∨ 37 < k) → h' k = h k) ∧ ((h' 37) = upd (h 37) a.toInt.toNat c ∧ (h' 36) = upd (h 36) a.toInt.toNat b ∧ zrQ a.toInt.toNat c.toInt (h 35) (h' 35))) → Q none h') : qm_PW X 70 [.ref 34, .int a, .int b, .int c] h Q := by
  have hmsq : sq h := hp.1
  have hp0 : (0 ≤ a.toInt ∧ a.toInt < 4) ∧ 0 ≤ c.toInt ∧ c.toInt ≤ 40 := hp.2
  refine qm_seg_ok (C := qc_70) (rt := none) rfl rfl (cuts := [(20, [0, 1, 2, 3, 4])]) 400 _ _ _ _ ?_
  show qm_PW X 65 [.int a] h _
  refine ty_65 X h a trivial _ (fun r1 p2 => ?_)
  have o3 : (r1 = 0 ∨ r1 = 1) ∧ ((r1.toInt = 1 ∧ 0 ≤ a.toInt ∧ a.toInt < 4) ∨ (r1.toInt = 0 ∧ ¬ (0 ≤ a.toInt ∧ a.toInt < 4))) := p2
  clear p2
  show (r1 = 0 → (Q none h)) ∧ (¬ r1 = 0 → ((c.toInt < 0 → (Q none h)) ∧ (0 ≤ c.toInt → ((40 < c.toInt → (Q none h)) ∧ (c.toInt ≤ 40 → (qm_PA X 70 20 [(0, .ref 34), (1, .int a), (2, .int b), (3, .int c), (4, .int 0)] [] h Q))))))
  refine ⟨fun c4 => ?_, fun c5 => ?_⟩
  · have := ti_eqK 0 rfl c4
    exact hq h ⟨hmsq, (fun k hk => rfl), (by show (h 37) = upd (h 37) a.toInt.toNat c ∧ (h 36) = upd (h 36) a.toInt.toNat b ∧ zrQ a.toInt.toNat c.toInt (h 35) (h 35); exfalso; omega)⟩
  · have := ti_neK 0 rfl c5
    refine ⟨fun c6 => ?_, fun c7 => ?_⟩
    · exact hq h ⟨hmsq, (fun k hk => rfl), (by show (h 37) = upd (h 37) a.toInt.toNat c ∧ (h 36) = upd (h 36) a.toInt.toNat b ∧ zrQ a.toInt.toNat c.toInt (h 35) (h 35); exfalso; omega)⟩
    · refine ⟨fun c8 => ?_, fun c9 => ?_⟩
      · exact hq h ⟨hmsq, (fun k hk => rfl), (by show (h 37) = upd (h 37) a.toInt.toNat c ∧ (h 36) = upd (h 36) a.toInt.toNat b ∧ zrQ a.toInt.toNat c.toInt (h 35) (h 35); exfalso; omega)⟩
      · exact (ty_70_c X h a b c hp Q hq _) (0 : Int32) h ⟨(by have : (0 : Int32).toInt = 0 := rfl; show ((0 ≤ (0 : Int32).toInt ∧ (0 : Int32).toInt ≤ c.toInt) ∧ 0 ≤ a.toInt ∧ a.toInt < 4 ∧ 0 ≤ c.toInt ∧ c.toInt ≤ 40) ∧ zrQ a.toInt.toNat (0 : Int32).toInt (h 35) (h 35) ∧ h 36 = h 36 ∧ h 37 = h 37; exact ⟨by have : (0 : Int32).toInt = 0 := rfl; omega, zr_0 rfl, rfl, rfl⟩), hmsq, (fun k hk => rfl)⟩ (Nat.lt_succ_self _)
-- ThreadBank.sheet(III)I
set_option maxRecDepth 100000 in
set_option maxHeartbeats 4000000 in
theorem ty_125 (X : qm_X) (h : qm_H) (a : Int32) (b : Int32) (c : Int32) (hp : mq 1 h ∧ mq 8 h ∧ mq 15 h ∧ sq h) (Q : qm_Q) (hq : ∀ r : Int32, ∀ h' : qm_H, (mq 1 h' ∧ mq 8 h' ∧ mq 15 h' ∧ sq h' ∧ (∀ k, (k < 35 ∨ 37 < k) → h' k = h k) ∧ (svC h' = opSheet a b c (svC h))) → Q (some (.int r)) h') : qm_PW X 125 [.ref 0, .int a, .int b, .int c] h Q := by
  have hm1 : mq 1 h := hp.1
  have ⟨⟨_, _⟩, ⟨_, _⟩, _, _⟩ := hm1
  have hm8 : mq 8 h := hp.2.1
  have ⟨⟨_, _⟩, ⟨_, _⟩, _, _⟩ := hm8
  have hm15 : mq 15 h := hp.2.2.1
  have ⟨⟨_, _⟩, ⟨_, _⟩, _, _⟩ := hm15
  have hmsq : sq h := hp.2.2.2
  refine qm_seg_ok (C := qc_125) (rt := some .int) rfl rfl (cuts := []) 400 _ _ _ _ ?_
  show qm_PW X 65 [.int a] h _
  refine ty_65 X h a trivial _ (fun r1 p2 => ?_)
  have o3 : (r1 = 0 ∨ r1 = 1) ∧ ((r1.toInt = 1 ∧ 0 ≤ a.toInt ∧ a.toInt < 4) ∨ (r1.toInt = 0 ∧ ¬ (0 ≤ a.toInt ∧ a.toInt < 4))) := p2
  clear p2
  show (r1 = 0 → (Q (some (.int (-1 : Int32))) h)) ∧ (¬ r1 = 0 → (qm_PW X 66 [.int b] h _))
  refine ⟨fun c4 => ?_, fun c5 => ?_⟩
  · have := ti_eqK 0 rfl c4
    exact hq (-1 : Int32) h ⟨hm1, hm8, hm15, hmsq, (fun k hk => rfl), (by show svC h = opSheet a b c (svC h); exact (sheet_no (by omega)).symm)⟩
  · have := ti_neK 0 rfl c5
    refine ty_66 X h b trivial _ (fun r6 p7 => ?_)
    have o8 : (r6 = 0 ∨ r6 = 1) ∧ ((r6.toInt = 1 ∧ 0 ≤ b.toInt ∧ b.toInt < 3) ∨ (r6.toInt = 0 ∧ ¬ (0 ≤ b.toInt ∧ b.toInt < 3))) := p7
    clear p7
    show (r6 = 0 → (Q (some (.int (-1 : Int32))) h)) ∧ (¬ r6 = 0 → ((c.toInt ≤ 40 → ((0 ≤ c.toInt → (qm_PW X 70 [.ref 34, .int a, .int b, .int c] h _)) ∧ (c.toInt < 0 → (Q (some (.int (-14 : Int32))) h)))) ∧ (40 < c.toInt → (Q (some (.int (-1 : Int32))) h))))
    refine ⟨fun c9 => ?_, fun c10 => ?_⟩
    · have := ti_eqK 0 rfl c9
      exact hq (-1 : Int32) h ⟨hm1, hm8, hm15, hmsq, (fun k hk => rfl), (by show svC h = opSheet a b c (svC h); exact (sheet_no (by omega)).symm)⟩
    · have := ti_neK 0 rfl c10
      refine ⟨fun c11 => ?_, fun c12 => ?_⟩
      · refine ⟨fun c13 => ?_, fun c14 => ?_⟩
        · refine ty_70 X h a b c ⟨hmsq, (by omega)⟩ _ (fun g15 p16 => ?_)
          obtain ⟨p16_0, p16_1, p16_2⟩ := p16
          have f17 : ∀ k, (k < 35 ∨ 37 < k) → g15 k = h k := fun k hk => (p16_1 k (by omega)).trans (rfl)
          have k18 : mq 1 g15 := by unfold mq; rw [p16_1 1 (by omega)]; exact hm1
          have k19 : mq 8 g15 := by unfold mq; rw [p16_1 8 (by omega)]; exact hm8
          have k20 : mq 15 g15 := by unfold mq; rw [p16_1 15 (by omega)]; exact hm15
          have o21 : (g15 37) = upd (h 37) a.toInt.toNat c ∧ (g15 36) = upd (h 36) a.toInt.toNat b ∧ zrQ a.toInt.toNat c.toInt (h 35) (g15 35) := p16_2
          clear p16_2
          show Q (some (.int 1)) g15
          exact hq 1 g15 ⟨k18, k19, k20, p16_0, (fun k hk => f17 k hk), (by show svC g15 = opSheet a b c (svC h); exact svC_sheet hmsq ⟨by omega, by omega, by omega⟩ o21.1 o21.2.1 o21.2.2)⟩
        · exact hq (-14 : Int32) h ⟨hm1, hm8, hm15, hmsq, (fun k hk => rfl), (by show svC h = opSheet a b c (svC h); exact (sheet_no (by omega)).symm)⟩
      · exact hq (-1 : Int32) h ⟨hm1, hm8, hm15, hmsq, (fun k hk => rfl), (by show svC h = opSheet a b c (svC h); exact (sheet_no (by omega)).symm)⟩
-- ThreadBank$Sheets.lowestBits(II)I
set_option maxRecDepth 100000 in
set_option maxHeartbeats 4000000 in
theorem ty_72 (X : qm_X) (h : qm_H) (a : Int32) (b : Int32) (hp : True) (Q : qm_Q) (hq : ∀ r : Int32, (r = lowb a b) → Q (some (.int r)) h) : qm_PW X 72 [.int a, .int b] h Q := by
  refine qm_seg_ok (C := qc_72) (rt := some .int) rfl rfl (cuts := []) 400 _ _ _ _ ?_
  show ((a = 0 → (Q (some (.int ((Int32.toInt8 b).toInt32))) h)) ∧ (¬ a = 0 → ((a = 1 → (Q (some (.int ((Int32.toInt16 b).toInt32))) h)) ∧ (¬ a = 1 → (Q (some (.int b)) h)))))
  refine ⟨fun c1 => ?_, fun c2 => ?_⟩
  · have := ti_eqK 0 rfl c1
    exact hq ((Int32.toInt8 b).toInt32) (by show ((Int32.toInt8 b).toInt32) = lowb a b; exact low_0 (by omega))
  · have := ti_neK 0 rfl c2
    refine ⟨fun c3 => ?_, fun c4 => ?_⟩
    · have := ti_eqK 1 rfl c3
      exact hq ((Int32.toInt16 b).toInt32) (by show ((Int32.toInt16 b).toInt32) = lowb a b; exact low_1 (by omega))
    · have := ti_neK 1 rfl c4
      exact hq b (by show b = lowb a b; exact low_2 (by omega) (by omega))
-- ThreadBank$Sheets.write(III)V
set_option maxRecDepth 100000 in
set_option maxHeartbeats 4000000 in
theorem ty_71 (X : qm_X) (h : qm_H) (a : Int32) (b : Int32) (c : Int32) (hp : sq h ∧ ((0 ≤ a.toInt ∧ a.toInt < 4) ∧ ¬ (h 37 a.toInt.toNat).toInt = -4 ∧ 0 ≤ b.toInt ∧ b.toInt < (h 37 a.toInt.toNat).toInt)) (Q : qm_Q) (hq : ∀ h' : qm_H, ((∀ k, (k < 35 ∨ 35 < k) → h' k = h k) ∧ ((h' 35) = upd (h 35) (40 * a.toInt.toNat + b.toInt.toNat) (lowb (h 36 a.toInt.toNat) c))) → Q none h') : qm_PW X 71 [.ref 34, .int a, .int b, .int c] h Q := by
  have hmsq : sq h := hp.1
  have hp0 : (0 ≤ a.toInt ∧ a.toInt < 4) ∧ ¬ (h 37 a.toInt.toNat).toInt = -4 ∧ 0 ≤ b.toInt ∧ b.toInt < (h 37 a.toInt.toNat).toInt := hp.2
  refine qm_seg_ok (C := qc_71) (rt := none) rfl rfl (cuts := []) 400 _ _ _ _ ?_
  show qm_PW X 68 [.ref 34, .int a, .int b] h _
  refine ty_68 X h a b trivial _ (fun r1 p2 => ?_)
  have o3 : (r1 = 0 ∨ r1 = 1) ∧ ((r1.toInt = 1 ∧ (0 ≤ a.toInt ∧ a.toInt < 4) ∧ ¬ (h 37 a.toInt.toNat).toInt = -4 ∧ 0 ≤ b.toInt ∧ b.toInt < (h 37 a.toInt.toNat).toInt) ∨ (r1.toInt = 0 ∧ ¬ ((0 ≤ a.toInt ∧ a.toInt < 4) ∧ ¬ (h 37 a.toInt.toNat).toInt = -4 ∧ 0 ≤ b.toInt ∧ b.toInt < (h 37 a.toInt.toNat).toInt))) := p2
  clear p2
  show (r1 = 0 → (Q none h)) ∧ (¬ r1 = 0 → ((0 ≤ a.toInt ∧ a.toInt < 4) ∧ (qm_PW X 72 [.int (h 36 a.toInt.toNat), .int c] h _)))
  refine ⟨fun c4 => ?_, fun c5 => ?_⟩
  · have := ti_eqK 0 rfl c4
    exact hq h ⟨(fun k hk => rfl), (by have := hmsq (a.toInt.toNat); show (h 35) = upd (h 35) (40 * a.toInt.toNat + b.toInt.toNat) (lowb (h 36 a.toInt.toNat) c); exfalso; omega)⟩
  · have := ti_neK 0 rfl c5
    refine ⟨(by have := hmsq (a.toInt.toNat); omega), ?_⟩
    refine ty_72 X h (h 36 a.toInt.toNat) c trivial _ (fun r6 p7 => ?_)
    have o8 : r6 = lowb (h 36 a.toInt.toNat) c := p7
    clear p7
    show (0 ≤ ((40 * a) + b).toInt ∧ ((40 * a) + b).toInt < 160) ∧ (Q none (qm_row h 35 (upd (h 35) ((40 * a) + b).toInt.toNat r6)))
    refine ⟨(by have := hmsq (a.toInt.toNat); have := ti_mulL (40 : Int32) 40 rfl a; have := ti_add (40 * a) b; omega), ?_⟩
    exact hq (qm_row h 35 (upd (h 35) ((40 * a) + b).toInt.toNat r6)) ⟨(fun k hk => by simp only [qm_row]; rw [if_neg (by omega)]), (by have := hmsq (a.toInt.toNat); have := ti_mulL (40 : Int32) 40 rfl a; have := ti_add (40 * a) b; show (upd (h 35) ((40 * a) + b).toInt.toNat r6) = upd (h 35) (40 * a.toInt.toNat + b.toInt.toNat) (lowb (h 36 a.toInt.toNat) c); have hsq := hmsq a.toInt.toNat; have q4 := ti_mulL (40 : Int32) 40 rfl a; have q5 := ti_add (40 * a) b; have hix : ((40 * a) + b).toInt.toNat = 40 * a.toInt.toNat + b.toInt.toNat := (by omega); rw [hix, o8])⟩
-- ThreadBank.lay(III)I
set_option maxRecDepth 100000 in
set_option maxHeartbeats 4000000 in
theorem ty_126 (X : qm_X) (h : qm_H) (a : Int32) (b : Int32) (c : Int32) (hp : mq 1 h ∧ mq 8 h ∧ mq 15 h ∧ sq h) (Q : qm_Q) (hq : ∀ r : Int32, ∀ h' : qm_H, (mq 1 h' ∧ mq 8 h' ∧ mq 15 h' ∧ sq h' ∧ (∀ k, (k < 35 ∨ 35 < k) → h' k = h k) ∧ ((∀ k : Nat, k < 4 → svC h' k = opLay a b c (svC h) k))) → Q (some (.int r)) h') : qm_PW X 126 [.ref 0, .int a, .int b, .int c] h Q := by
  have hm1 : mq 1 h := hp.1
  have ⟨⟨_, _⟩, ⟨_, _⟩, _, _⟩ := hm1
  have hm8 : mq 8 h := hp.2.1
  have ⟨⟨_, _⟩, ⟨_, _⟩, _, _⟩ := hm8
  have hm15 : mq 15 h := hp.2.2.1
  have ⟨⟨_, _⟩, ⟨_, _⟩, _, _⟩ := hm15
  have hmsq : sq h := hp.2.2.2
  refine qm_seg_ok (C := qc_126) (rt := some .int) rfl rfl (cuts := []) 400 _ _ _ _ ?_
  show qm_PW X 65 [.int a] h _
  refine ty_65 X h a trivial _ (fun r1 p2 => ?_)
  have o3 : (r1 = 0 ∨ r1 = 1) ∧ ((r1.toInt = 1 ∧ 0 ≤ a.toInt ∧ a.toInt < 4) ∨ (r1.toInt = 0 ∧ ¬ (0 ≤ a.toInt ∧ a.toInt < 4))) := p2
  clear p2
  show (¬ r1 = 0 → (qm_PW X 67 [.ref 34, .int a] h _)) ∧ (r1 = 0 → (Q (some (.int (-1 : Int32))) h))
  refine ⟨fun c4 => ?_, fun c5 => ?_⟩
  · have := ti_neK 0 rfl c4
    refine ty_67 X h a trivial _ (fun r6 p7 => ?_)
    have o8 : (r6 = 0 ∨ r6 = 1) ∧ ((r6.toInt = 1 ∧ (a.toInt < 0 ∨ 4 ≤ a.toInt ∨ (h 37 a.toInt.toNat).toInt = -4)) ∨ (r6.toInt = 0 ∧ ¬ ((a.toInt < 0 ∨ 4 ≤ a.toInt ∨ (h 37 a.toInt.toNat).toInt = -4)))) := p7
    clear p7
    show (r6 = 0 → (qm_PW X 68 [.ref 34, .int a, .int b] h _)) ∧ (¬ r6 = 0 → (Q (some (.int (-11 : Int32))) h))
    refine ⟨fun c9 => ?_, fun c10 => ?_⟩
    · have := ti_eqK 0 rfl c9
      refine ty_68 X h a b trivial _ (fun r11 p12 => ?_)
      have o13 : (r11 = 0 ∨ r11 = 1) ∧ ((r11.toInt = 1 ∧ (0 ≤ a.toInt ∧ a.toInt < 4) ∧ ¬ (h 37 a.toInt.toNat).toInt = -4 ∧ 0 ≤ b.toInt ∧ b.toInt < (h 37 a.toInt.toNat).toInt) ∨ (r11.toInt = 0 ∧ ¬ ((0 ≤ a.toInt ∧ a.toInt < 4) ∧ ¬ (h 37 a.toInt.toNat).toInt = -4 ∧ 0 ≤ b.toInt ∧ b.toInt < (h 37 a.toInt.toNat).toInt))) := p12
      clear p12
      show (¬ r11 = 0 → (qm_PW X 71 [.ref 34, .int a, .int b, .int c] h _)) ∧ (r11 = 0 → (Q (some (.int (-12 : Int32))) h))
      refine ⟨fun c14 => ?_, fun c15 => ?_⟩
      · have := ti_neK 0 rfl c14
        refine ty_71 X h a b c ⟨hmsq, (by have := hmsq (a.toInt.toNat); show (0 ≤ a.toInt ∧ a.toInt < 4) ∧ ¬ (h 37 a.toInt.toNat).toInt = -4 ∧ 0 ≤ b.toInt ∧ b.toInt < (h 37 a.toInt.toNat).toInt; omega)⟩ _ (fun g16 p17 => ?_)
        obtain ⟨p17_0, p17_1⟩ := p17
        have f18 : ∀ k, (k < 35 ∨ 35 < k) → g16 k = h k := fun k hk => (p17_0 k (by omega)).trans (rfl)
        have k19 : mq 1 g16 := by unfold mq; rw [p17_0 1 (by omega)]; exact hm1
        have k20 : mq 8 g16 := by unfold mq; rw [p17_0 8 (by omega)]; exact hm8
        have k21 : mq 15 g16 := by unfold mq; rw [p17_0 15 (by omega)]; exact hm15
        have k22 : sq g16 := by unfold sq; rw [p17_0 37 (by omega)]; exact hmsq
        have o23 : (g16 35) = upd (h 35) (40 * a.toInt.toNat + b.toInt.toNat) (lowb (h 36 a.toInt.toNat) c) := p17_1
        clear p17_1
        have w36_g16 : g16 36 = h 36 := p17_0 36 (by omega)
        have w37_g16 : g16 37 = h 37 := p17_0 37 (by omega)
        show Q (some (.int 1)) g16
        exact hq 1 g16 ⟨k19, k20, k21, k22, (fun k hk => f18 k hk), (by have := hmsq (a.toInt.toNat); show (∀ k : Nat, k < 4 → svC g16 k = opLay a b c (svC h) k); have hsq := hmsq a.toInt.toNat; exact fun k hk => congrFun (svC_lay hmsq (by omega) (by omega) (by omega) (by omega) (w37_g16) (w36_g16) o23) k)⟩
      · have := ti_eqK 0 rfl c15
        exact hq (-12 : Int32) h ⟨hm1, hm8, hm15, hmsq, (fun k hk => rfl), (by have := hmsq (a.toInt.toNat); show (∀ k : Nat, k < 4 → svC h k = opLay a b c (svC h) k); exact layC_no (by omega))⟩
    · have := ti_neK 0 rfl c10
      exact hq (-11 : Int32) h ⟨hm1, hm8, hm15, hmsq, (fun k hk => rfl), (by have := hmsq (a.toInt.toNat); show (∀ k : Nat, k < 4 → svC h k = opLay a b c (svC h) k); exact layC_no (by omega))⟩
  · have := ti_eqK 0 rfl c5
    exact hq (-1 : Int32) h ⟨hm1, hm8, hm15, hmsq, (fun k hk => rfl), (by show (∀ k : Nat, k < 4 → svC h k = opLay a b c (svC h) k); exact layC_no (by omega))⟩
