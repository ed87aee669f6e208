-- java/lang/Math.min(II)I
set_option maxRecDepth 100000 in
set_option maxHeartbeats 4000000 in
theorem ty_2 (X : qm_X) (h : qm_H) (a : Int32) (b : Int32) (hp : True) (Q : qm_Q) (hq : ∀ r : Int32, ((a.toInt ≤ b.toInt ∧ r.toInt = a.toInt) ∨ (b.toInt < a.toInt ∧ r.toInt = b.toInt)) → Q (some (.int r)) h) : qm_PW X 2 [.int a, .int b] h Q := by
  refine qm_seg_ok (C := qc_2) (rt := some .int) rfl rfl (cuts := []) 400 _ _ _ _ ?_
  show (b.toInt < a.toInt → (Q (some (.int b)) h)) ∧ (a.toInt ≤ b.toInt → (Q (some (.int a)) h))
  refine ⟨fun c1 => ?_, fun c2 => ?_⟩
  · exact hq b (by show (a.toInt ≤ b.toInt ∧ b.toInt = a.toInt) ∨ (b.toInt < a.toInt ∧ b.toInt = b.toInt); first | exact Or.inl ⟨by omega, rfl⟩ | exact Or.inr ⟨by omega, rfl⟩)
  · exact hq a (by show (a.toInt ≤ b.toInt ∧ a.toInt = a.toInt) ∨ (b.toInt < a.toInt ∧ a.toInt = b.toInt); first | exact Or.inl ⟨by omega, rfl⟩ | exact Or.inr ⟨by omega, rfl⟩)
-- ThreadBank$Clearing.sizeOf(I)I
set_option maxRecDepth 100000 in
set_option maxHeartbeats 4000000 in
theorem ty_20 (X : qm_X) (h : qm_H) (a : Int32) (hp : (0 ≤ a.toInt ∧ a.toInt ≤ 95) ∧ a.toInt % 5 = 0) (Q : qm_Q) (hq : ∀ r : Int32, (r.toInt = ((szT (a.toInt / 5).toNat : Nat) : Int) ∧ (2 ≤ r.toInt ∧ r.toInt ≤ 4)) → Q (some (.int r)) h) : qm_PW X 20 [.int a] h Q := by
  have hp0 : (0 ≤ a.toInt ∧ a.toInt ≤ 95) ∧ a.toInt % 5 = 0 := hp
  refine qm_seg_ok (C := qc_20) (rt := some .int) rfl rfl (cuts := []) 400 _ _ _ _ ?_
  show (a.toInt < 0 → (Q (some (.int 0)) h)) ∧ (0 ≤ a.toInt → ((100 ≤ a.toInt → (Q (some (.int 0)) h)) ∧ (a.toInt < 100 → ((0 ≤ a.toInt ∧ a.toInt < 100) ∧ (Q (some (.int (qm_rings.getD a.toInt.toNat 0))) h)))))
  refine ⟨fun c1 => ?_, fun c2 => ?_⟩
  · exact hq 0 (by have : (0 : Int32).toInt = 0 := rfl; show (0 : Int32).toInt = ((szT (a.toInt / 5).toNat : Nat) : Int) ∧ (2 ≤ (0 : Int32).toInt ∧ (0 : Int32).toInt ≤ 4); exfalso; omega)
  · refine ⟨fun c3 => ?_, fun c4 => ?_⟩
    · exact hq 0 (by have : (0 : Int32).toInt = 0 := rfl; show (0 : Int32).toInt = ((szT (a.toInt / 5).toNat : Nat) : Int) ∧ (2 ≤ (0 : Int32).toInt ∧ (0 : Int32).toInt ≤ 4); exfalso; omega)
    · refine ⟨(by omega), ?_⟩
      exact hq (qm_rings.getD a.toInt.toNat 0) (by show (qm_rings.getD a.toInt.toNat 0).toInt = ((szT (a.toInt / 5).toNat : Nat) : Int) ∧ (2 ≤ (qm_rings.getD a.toInt.toNat 0).toInt ∧ (qm_rings.getD a.toInt.toNat 0).toInt ≤ 4); have e := sz_at (k := (a.toInt / 5).toNat) (x := a.toInt) (by omega); have z := szT_r (k := (a.toInt / 5).toNat) (by omega); exact ⟨e, by omega⟩)
-- ThreadBank$Clearing.clerkIn(II)I
set_option maxRecDepth 100000 in
set_option maxHeartbeats 4000000 in
theorem ty_21 (X : qm_X) (h : qm_H) (a : Int32) (b : Int32) (hp : ((0 ≤ a.toInt ∧ a.toInt ≤ 95) ∧ a.toInt % 5 = 0) ∧ (0 ≤ b.toInt ∧ b.toInt ≤ 4)) (Q : qm_Q) (hq : ∀ r : Int32, (r.toInt = ((ckT (a.toInt / 5).toNat b.toInt.toNat : Nat) : Int) ∧ (0 ≤ r.toInt ∧ r.toInt ≤ 3)) → Q (some (.int r)) h) : qm_PW X 21 [.int a, .int b] h Q := by
  have hp0 : ((0 ≤ a.toInt ∧ a.toInt ≤ 95) ∧ a.toInt % 5 = 0) ∧ (0 ≤ b.toInt ∧ b.toInt ≤ 4) := hp
  refine qm_seg_ok (C := qc_21) (rt := some .int) rfl rfl (cuts := []) 400 _ _ _ _ ?_
  show qm_PW X 20 [.int a] h _
  refine ty_20 X h a (by omega) _ (fun r1 p2 => ?_)
  have o3 : r1.toInt = ((szT (a.toInt / 5).toNat : Nat) : Int) ∧ (2 ≤ r1.toInt ∧ r1.toInt ≤ 4) := p2
  clear p2
  show (r1.toInt ≤ b.toInt → ((((a + 1) + 0).toInt < 0 → (Q (some (.int 0)) h)) ∧ (0 ≤ ((a + 1) + 0).toInt → ((100 ≤ ((a + 1) + 0).toInt → (Q (some (.int 0)) h)) ∧ (((a + 1) + 0).toInt < 100 → ((0 ≤ ((a + 1) + 0).toInt ∧ ((a + 1) + 0).toInt < 100) ∧ (Q (some (.int (qm_rings.getD ((a + 1) + 0).toInt.toNat 0))) h))))))) ∧ (b.toInt < r1.toInt → ((((a + 1) + b).toInt < 0 → (Q (some (.int 0)) h)) ∧ (0 ≤ ((a + 1) + b).toInt → ((100 ≤ ((a + 1) + b).toInt → (Q (some (.int 0)) h)) ∧ (((a + 1) + b).toInt < 100 → ((0 ≤ ((a + 1) + b).toInt ∧ ((a + 1) + b).toInt < 100) ∧ (Q (some (.int (qm_rings.getD ((a + 1) + b).toInt.toNat 0))) h)))))))
  refine ⟨fun c4 => ?_, fun c5 => ?_⟩
  · refine ⟨fun c6 => ?_, fun c7 => ?_⟩
    · exact hq 0 (by have : (0 : Int32).toInt = 0 := rfl; have := ti_addK a (1 : Int32) 1 rfl; have := ti_addK (a + 1) (0 : Int32) 0 rfl; show (0 : Int32).toInt = ((ckT (a.toInt / 5).toNat b.toInt.toNat : Nat) : Int) ∧ (0 ≤ (0 : Int32).toInt ∧ (0 : Int32).toInt ≤ 3); have q1 := ti_addK a (1 : Int32) 1 rfl (by omega); have q2 := ti_add (a + 1) b (by omega); have q3 := ti_addK (a + 1) (0 : Int32) 0 rfl (by omega); exfalso; omega)
    · refine ⟨fun c8 => ?_, fun c9 => ?_⟩
      · exact hq 0 (by have : (0 : Int32).toInt = 0 := rfl; have := ti_addK a (1 : Int32) 1 rfl; have := ti_addK (a + 1) (0 : Int32) 0 rfl; show (0 : Int32).toInt = ((ckT (a.toInt / 5).toNat b.toInt.toNat : Nat) : Int) ∧ (0 ≤ (0 : Int32).toInt ∧ (0 : Int32).toInt ≤ 3); have q1 := ti_addK a (1 : Int32) 1 rfl (by omega); have q2 := ti_add (a + 1) b (by omega); have q3 := ti_addK (a + 1) (0 : Int32) 0 rfl (by omega); exfalso; omega)
      · refine ⟨(by have := ti_addK a (1 : Int32) 1 rfl; have := ti_addK (a + 1) (0 : Int32) 0 rfl; omega), ?_⟩
        exact hq (qm_rings.getD ((a + 1) + 0).toInt.toNat 0) (by have := ti_addK a (1 : Int32) 1 rfl; have := ti_addK (a + 1) (0 : Int32) 0 rfl; show (qm_rings.getD ((a + 1) + 0).toInt.toNat 0).toInt = ((ckT (a.toInt / 5).toNat b.toInt.toNat : Nat) : Int) ∧ (0 ≤ (qm_rings.getD ((a + 1) + 0).toInt.toNat 0).toInt ∧ (qm_rings.getD ((a + 1) + 0).toInt.toNat 0).toInt ≤ 3); have q1 := ti_addK a (1 : Int32) 1 rfl (by omega); have q2 := ti_add (a + 1) b (by omega); have q3 := ti_addK (a + 1) (0 : Int32) 0 rfl (by omega); have z := ckT_lt (k := (a.toInt / 5).toNat) (i := b.toInt.toNat) (by omega) (by omega); have e := ck_n (k := (a.toInt / 5).toNat) (i := b.toInt.toNat) (x := ((a + 1) + 0).toInt) (by omega) (by omega); exact ⟨e, by omega⟩)
  · refine ⟨fun c10 => ?_, fun c11 => ?_⟩
    · exact hq 0 (by have : (0 : Int32).toInt = 0 := rfl; have := ti_addK a (1 : Int32) 1 rfl; have := ti_add (a + 1) b; show (0 : Int32).toInt = ((ckT (a.toInt / 5).toNat b.toInt.toNat : Nat) : Int) ∧ (0 ≤ (0 : Int32).toInt ∧ (0 : Int32).toInt ≤ 3); have q1 := ti_addK a (1 : Int32) 1 rfl (by omega); have q2 := ti_add (a + 1) b (by omega); have q3 := ti_addK (a + 1) (0 : Int32) 0 rfl (by omega); exfalso; omega)
    · refine ⟨fun c12 => ?_, fun c13 => ?_⟩
      · exact hq 0 (by have : (0 : Int32).toInt = 0 := rfl; have := ti_addK a (1 : Int32) 1 rfl; have := ti_add (a + 1) b; show (0 : Int32).toInt = ((ckT (a.toInt / 5).toNat b.toInt.toNat : Nat) : Int) ∧ (0 ≤ (0 : Int32).toInt ∧ (0 : Int32).toInt ≤ 3); have q1 := ti_addK a (1 : Int32) 1 rfl (by omega); have q2 := ti_add (a + 1) b (by omega); have q3 := ti_addK (a + 1) (0 : Int32) 0 rfl (by omega); exfalso; omega)
      · refine ⟨(by have := ti_addK a (1 : Int32) 1 rfl; have := ti_add (a + 1) b; omega), ?_⟩
        exact hq (qm_rings.getD ((a + 1) + b).toInt.toNat 0) (by have := ti_addK a (1 : Int32) 1 rfl; have := ti_add (a + 1) b; show (qm_rings.getD ((a + 1) + b).toInt.toNat 0).toInt = ((ckT (a.toInt / 5).toNat b.toInt.toNat : Nat) : Int) ∧ (0 ≤ (qm_rings.getD ((a + 1) + b).toInt.toNat 0).toInt ∧ (qm_rings.getD ((a + 1) + b).toInt.toNat 0).toInt ≤ 3); have q1 := ti_addK a (1 : Int32) 1 rfl (by omega); have q2 := ti_add (a + 1) b (by omega); have q3 := ti_addK (a + 1) (0 : Int32) 0 rfl (by omega); have z := ckT_lt (k := (a.toInt / 5).toNat) (i := b.toInt.toNat) (by omega) (by omega); have e := ck_y (k := (a.toInt / 5).toNat) (i := b.toInt.toNat) (x := ((a + 1) + b).toInt) (by omega) (by omega); exact ⟨e, by omega⟩)
-- ThreadBank$Clearing.owes(II)I
set_option maxRecDepth 100000 in
set_option maxHeartbeats 4000000 in
theorem ty_11 (X : qm_X) (h : qm_H) (a : Int32) (b : Int32) (hp : (0 ≤ a.toInt ∧ a.toInt ≤ 3) ∧ (0 ≤ b.toInt ∧ b.toInt ≤ 3)) (Q : qm_Q) (hq : ∀ r : Int32, (r.toInt = (h 33 (4 * a.toInt.toNat + b.toInt.toNat)).toInt) → Q (some (.int r)) h) : qm_PW X 11 [.ref 32, .int a, .int b] h Q := by
  have hp0 : (0 ≤ a.toInt ∧ a.toInt ≤ 3) ∧ (0 ≤ b.toInt ∧ b.toInt ≤ 3) := hp
  refine qm_seg_ok (C := qc_11) (rt := some .int) rfl rfl (cuts := []) 400 _ _ _ _ ?_
  show (((4 * a) + b).toInt < 0 → (Q (some (.int 0)) h)) ∧ (0 ≤ ((4 * a) + b).toInt → ((16 ≤ ((4 * a) + b).toInt → (Q (some (.int 0)) h)) ∧ (((4 * a) + b).toInt < 16 → ((0 ≤ ((4 * a) + b).toInt ∧ ((4 * a) + b).toInt < 16) ∧ (Q (some (.int (h 33 ((4 * a) + b).toInt.toNat))) h)))))
  refine ⟨fun c1 => ?_, fun c2 => ?_⟩
  · exact hq 0 (by have : (0 : Int32).toInt = 0 := rfl; have := ti_mulL (4 : Int32) 4 rfl a; have := ti_add (4 * a) b; show (0 : Int32).toInt = (h 33 (4 * a.toInt.toNat + b.toInt.toNat)).toInt; have q1 := ti_mulL (4 : Int32) 4 rfl a (by omega); have q2 := ti_add (4 * a) b (by omega); exfalso; omega)
  · refine ⟨fun c3 => ?_, fun c4 => ?_⟩
    · exact hq 0 (by have : (0 : Int32).toInt = 0 := rfl; have := ti_mulL (4 : Int32) 4 rfl a; have := ti_add (4 * a) b; show (0 : Int32).toInt = (h 33 (4 * a.toInt.toNat + b.toInt.toNat)).toInt; have q1 := ti_mulL (4 : Int32) 4 rfl a (by omega); have q2 := ti_add (4 * a) b (by omega); exfalso; omega)
    · refine ⟨(by have := ti_mulL (4 : Int32) 4 rfl a; have := ti_add (4 * a) b; omega), ?_⟩
      exact hq (h 33 ((4 * a) + b).toInt.toNat) (by have := ti_mulL (4 : Int32) 4 rfl a; have := ti_add (4 * a) b; show (h 33 ((4 * a) + b).toInt.toNat).toInt = (h 33 (4 * a.toInt.toNat + b.toInt.toNat)).toInt; have q1 := ti_mulL (4 : Int32) 4 rfl a (by omega); have q2 := ti_add (4 * a) b (by omega); rw [show 4 * a.toInt.toNat + b.toInt.toNat = ((4 * a) + b).toInt.toNat by omega])
-- ThreadBank$Clearing.owedStill()I
set_option maxRecDepth 100000 in
set_option maxHeartbeats 4000000 in
theorem ty_12_c (X : qm_X) (h : qm_H) (hp : okS (fI (h 33))) (Q : qm_Q) (hq : ∀ r : Int32, (r.toInt = sumI (fI (h 33)) 16) → Q (some (.int r)) h) : ∀ n : Nat, (∀ (l1 : Int32) (l2 : Int32), ((0 ≤ l2.toInt ∧ l2.toInt ≤ 16) ∧ l1.toInt = sumI (fI (h 33)) l2.toInt.toNat) → (16 - l2.toInt).toNat < n → qm_PA X 12 4 [(0, .ref 32), (1, .int l1), (2, .int l2)] [] h Q) := by
  have hp0 : okS (fI (h 33)) := hp
  intro n
  induction n with
  | zero => exact fun _ _ _ h0 => absurd h0 (Nat.not_lt_zero _)
  | succ n ih =>
    intro l1 l2 hi hr
    have ti_l2 := ti_rng l2
    have hr9 := sm_ok hp l2.toInt.toNat (by omega)
    refine qm_seg_ok (C := qc_12) (rt := some .int) rfl rfl (cuts := [(4, [0, 1, 2])]) 400 _ _ _ _ ?_
    show (16 ≤ l2.toInt → (Q (some (.int l1)) h)) ∧ (l2.toInt < 16 → ((0 ≤ l2.toInt ∧ l2.toInt < 16) ∧ (qm_PA X 12 4 [(0, .ref 32), (1, .int (l1 + (h 33 l2.toInt.toNat))), (2, .int (l2 + 1))] [] h Q)))
    refine ⟨fun c1 => ?_, fun c2 => ?_⟩
    · exact hq l1 (by show l1.toInt = sumI (fI (h 33)) 16; have hi2 := hi.2; rw [show l2.toInt.toNat = 16 by omega] at hi2; exact hi2)
    · refine ⟨(by omega), ?_⟩
      exact ih (l1 + (h 33 l2.toInt.toNat)) (l2 + 1) (by have := ti_addK l2 (1 : Int32) 1 rfl; have := ti_add l1 (h 33 l2.toInt.toNat); have b1 := hp (l2.toInt.toNat) (by omega); have b2 : fI (h 33) l2.toInt.toNat = (h 33 l2.toInt.toNat).toInt := rfl; have q6 := ti_add l1 (h 33 l2.toInt.toNat) (by omega); exact ⟨by omega, by rw [show (l2 + 1).toInt.toNat = l2.toInt.toNat + 1 by omega, sumI_s]; omega⟩) (by have := ti_addK l2 (1 : Int32) 1 rfl; omega)
set_option maxRecDepth 100000 in
set_option maxHeartbeats 4000000 in
theorem ty_12 (X : qm_X) (h : qm_H) (hp : okS (fI (h 33))) (Q : qm_Q) (hq : ∀ r : Int32, (r.toInt = sumI (fI (h 33)) 16) → Q (some (.int r)) h) : qm_PW X 12 [.ref 32] h Q := by
  have hp0 : okS (fI (h 33)) := hp
  refine qm_seg_ok (C := qc_12) (rt := some .int) rfl rfl (cuts := [(4, [0, 1, 2])]) 400 _ _ _ _ ?_
  show qm_PA X 12 4 [(0, .ref 32), (1, .int 0), (2, .int 0)] [] h Q
  exact (ty_12_c X h hp Q hq _) (0 : Int32) (0 : Int32) (by have : (0 : Int32).toInt = 0 := rfl; have : (0 : Int32).toInt = 0 := rfl; exact ⟨by omega, rfl⟩) (Nat.lt_succ_self _)
-- ThreadBank$Clearing.leastIn(I)I
set_option maxRecDepth 100000 in
set_option maxHeartbeats 4000000 in
theorem ty_19_c (X : qm_X) (h : qm_H) (a : Int32) (hp : (0 ≤ a.toInt ∧ a.toInt ≤ 95) ∧ a.toInt % 5 = 0) (Q : qm_Q) (hq : ∀ r : Int32, (r.toInt = lsT (fI (h 33)) (a.toInt / 5).toNat) → Q (some (.int r)) h) : ∀ n : Nat, (∀ (l2 : Int32) (l3 : Int32), ((1 ≤ l3.toInt ∧ l3.toInt ≤ ((szT (a.toInt / 5).toNat : Nat) : Int)) ∧ l2.toInt = lsK (fI (h 33)) (a.toInt / 5).toNat (l3.toInt.toNat - 1)) → (4 - l3.toInt).toNat < n → qm_PA X 19 17 [(0, .ref 32), (1, .int a), (2, .int l2), (3, .int l3)] [] h Q) := by
  have hp0 : (0 ≤ a.toInt ∧ a.toInt ≤ 95) ∧ a.toInt % 5 = 0 := hp
  have hsz0 := szT_r (k := (a.toInt / 5).toNat) (by omega)
  intro n
  induction n with
  | zero => exact fun _ _ _ h0 => absurd h0 (Nat.not_lt_zero _)
  | succ n ih =>
    intro l2 l3 hi hr
    have ti_l3 := ti_rng l3
    have hsz := szT_r (k := (a.toInt / 5).toNat) (by omega)
    refine qm_seg_ok (C := qc_19) (rt := some .int) rfl rfl (cuts := [(17, [0, 1, 2, 3])]) 400 _ _ _ _ ?_
    show qm_PW X 20 [.int a] h _
    refine ty_20 X h a (by omega) _ (fun r1 p2 => ?_)
    have o3 : r1.toInt = ((szT (a.toInt / 5).toNat : Nat) : Int) ∧ (2 ≤ r1.toInt ∧ r1.toInt ≤ 4) := p2
    clear p2
    show (r1.toInt ≤ l3.toInt → (Q (some (.int l2)) h)) ∧ (l3.toInt < r1.toInt → (qm_PW X 21 [.int a, .int l3] h _))
    refine ⟨fun c4 => ?_, fun c5 => ?_⟩
    · exact hq l2 (by show l2.toInt = lsT (fI (h 33)) (a.toInt / 5).toNat; have hi2 := hi.2; rw [show l3.toInt.toNat - 1 = szT (a.toInt / 5).toNat - 1 by omega] at hi2; exact hi2)
    · refine ty_21 X h a l3 (by omega) _ (fun r6 p7 => ?_)
      have o8 : r6.toInt = ((ckT (a.toInt / 5).toNat l3.toInt.toNat : Nat) : Int) ∧ (0 ≤ r6.toInt ∧ r6.toInt ≤ 3) := p7
      clear p7
      show qm_PW X 21 [.int a, .int (l3 + 1)] h _
      refine ty_21 X h a (l3 + 1) (by have := ti_addK l3 (1 : Int32) 1 rfl; omega) _ (fun r9 p10 => ?_)
      have o11 : r9.toInt = ((ckT (a.toInt / 5).toNat (l3 + 1).toInt.toNat : Nat) : Int) ∧ (0 ≤ r9.toInt ∧ r9.toInt ≤ 3) := p10
      clear p10
      show qm_PW X 11 [.ref 32, .int r6, .int r9] h _
      refine ty_11 X h r6 r9 (by have := ti_addK l3 (1 : Int32) 1 rfl; omega) _ (fun r12 p13 => ?_)
      have o14 : r12.toInt = (h 33 (4 * r6.toInt.toNat + r9.toInt.toNat)).toInt := p13
      clear p13
      show qm_PW X 2 [.int l2, .int r12] h _
      refine ty_2 X h l2 r12 trivial _ (fun r15 p16 => ?_)
      have o17 : (l2.toInt ≤ r12.toInt ∧ r15.toInt = l2.toInt) ∨ (r12.toInt < l2.toInt ∧ r15.toInt = r12.toInt) := p16
      clear p16
      show qm_PA X 19 17 [(0, .ref 32), (1, .int a), (2, .int r15), (3, .int (l3 + 1))] [] h Q
      exact ih r15 (l3 + 1) (by have := ti_addK l3 (1 : Int32) 1 rfl; have e9 : (l3 + 1).toInt.toNat = l3.toInt.toNat + 1 := (by omega); obtain ⟨n, hn⟩ : ∃ n : Nat, l3.toInt.toNat = n + 1 := ⟨l3.toInt.toNat - 1, by omega⟩; have c1 := o8.1; have c2 := o11.1; rw [e9] at c2; have e := ed_x (k := (a.toInt / 5).toNat) (i := l3.toInt.toNat) c1 c2; have oy9 := o14; rw [e, hn] at oy9; have hi2 := hi.2; rw [hn, Nat.add_sub_cancel] at hi2; exact ⟨by omega, by rw [e9, hn, Nat.add_sub_cancel]; exact lsK_m hi2 (show r12.toInt = fI (h 33) _ from oy9) (by omega)⟩) (by have := ti_addK l3 (1 : Int32) 1 rfl; omega)
set_option maxRecDepth 100000 in
set_option maxHeartbeats 4000000 in
theorem ty_19 (X : qm_X) (h : qm_H) (a : Int32) (hp : (0 ≤ a.toInt ∧ a.toInt ≤ 95) ∧ a.toInt % 5 = 0) (Q : qm_Q) (hq : ∀ r : Int32, (r.toInt = lsT (fI (h 33)) (a.toInt / 5).toNat) → Q (some (.int r)) h) : qm_PW X 19 [.ref 32, .int a] h Q := by
  have hp0 : (0 ≤ a.toInt ∧ a.toInt ≤ 95) ∧ a.toInt % 5 = 0 := hp
  have hsz0 := szT_r (k := (a.toInt / 5).toNat) (by omega)
  refine qm_seg_ok (C := qc_19) (rt := some .int) rfl rfl (cuts := [(17, [0, 1, 2, 3])]) 400 _ _ _ _ ?_
  show qm_PW X 21 [.int a, .int 0] h _
  refine ty_21 X h a (0 : Int32) (by have : (0 : Int32).toInt = 0 := rfl; omega) _ (fun r1 p2 => ?_)
  have o3 : r1.toInt = ((ckT (a.toInt / 5).toNat (0 : Int32).toInt.toNat : Nat) : Int) ∧ (0 ≤ r1.toInt ∧ r1.toInt ≤ 3) := p2
  clear p2
  show qm_PW X 21 [.int a, .int 1] h _
  refine ty_21 X h a (1 : Int32) (by have : (1 : Int32).toInt = 1 := rfl; have : (0 : Int32).toInt = 0 := rfl; omega) _ (fun r4 p5 => ?_)
  have o6 : r4.toInt = ((ckT (a.toInt / 5).toNat (1 : Int32).toInt.toNat : Nat) : Int) ∧ (0 ≤ r4.toInt ∧ r4.toInt ≤ 3) := p5
  clear p5
  show qm_PW X 11 [.ref 32, .int r1, .int r4] h _
  refine ty_11 X h r1 r4 (by have : (1 : Int32).toInt = 1 := rfl; have : (0 : Int32).toInt = 0 := rfl; omega) _ (fun r7 p8 => ?_)
  have o9 : r7.toInt = (h 33 (4 * r1.toInt.toNat + r4.toInt.toNat)).toInt := p8
  clear p8
  show qm_PA X 19 17 [(0, .ref 32), (1, .int a), (2, .int r7), (3, .int 1)] [] h Q
  exact (ty_19_c X h a hp Q hq _) r7 (1 : Int32) (by have : (1 : Int32).toInt = 1 := rfl; have : (0 : Int32).toInt = 0 := rfl; have : (1 : Int32).toInt = 1 := rfl; have e := ed_x (k := (a.toInt / 5).toNat) (i := 0) o3.1 o6.1; have oy9 := o9; rw [e] at oy9; exact ⟨by omega, oy9⟩) (Nat.lt_succ_self _)
-- ThreadBank$Clearing.findBest()Z
set_option maxRecDepth 100000 in
set_option maxHeartbeats 4000000 in
theorem ty_13_c (X : qm_X) (h : qm_H) (hp : okS (fI (h 33))) (Q : qm_Q) (hq : ∀ r : Int32, ∀ h' : qm_H, ((∀ k, (k < 32 ∨ 32 < k) → h' k = h k) ∧ ((r = 0 ∨ r = 1) ∧ (r.toInt = 1 → 0 < (bgT (fI (h 33)) 20).2) ∧ (r.toInt = 0 → ¬ 0 < (bgT (fI (h 33)) 20).2) ∧ ((h' 32 1).toInt = 5 * (((bgT (fI (h 33)) 20).1 : Nat) : Int) ∧ (h' 32 2).toInt = (bgT (fI (h 33)) 20).2))) → Q (some (.int r)) h') : ∀ n : Nat, (∀ (l1 : Int32) (g : qm_H), ((((0 ≤ l1.toInt ∧ l1.toInt ≤ 100) ∧ l1.toInt % 5 = 0) ∧ ((g 32 1).toInt = 5 * (((bgT (fI (h 33)) (l1.toInt / 5).toNat).1 : Nat) : Int) ∧ (g 32 2).toInt = (bgT (fI (h 33)) (l1.toInt / 5).toNat).2)) ∧ ∀ k, (k < 32 ∨ 32 < k) → g k = h k) → (104 - l1.toInt).toNat < n → qm_PA X 13 12 [(0, .ref 32), (1, .int l1)] [] g Q) := by
  have hp0 : okS (fI (h 33)) := hp
  intro n
  induction n with
  | zero => exact fun _ _ _ h0 => absurd h0 (Nat.not_lt_zero _)
  | succ n ih =>
    intro l1 g hi hr
    obtain ⟨hi0, hgf⟩ := hi
    have ti_l1 := ti_rng l1
    have w33_g : g 33 = h 33 := hgf 33 (by omega)
    refine qm_seg_ok (C := qc_13) (rt := some .boolean) rfl rfl (cuts := [(12, [0, 1])]) 400 _ _ _ _ ?_
    show (100 ≤ l1.toInt → (((g 32 2).toInt ≤ 0 → (((0 : Int32) = 0 ∨ (0 : Int32) = 1) ∧ Q (some (.int 0)) g)) ∧ (0 < (g 32 2).toInt → (((1 : Int32) = 0 ∨ (1 : Int32) = 1) ∧ Q (some (.int 1)) g)))) ∧ (l1.toInt < 100 → (qm_PW X 19 [.ref 32, .int l1] g _))
    refine ⟨fun c1 => ?_, fun c2 => ?_⟩
    · refine ⟨fun c3 => ?_, fun c4 => ?_⟩
      · exact ⟨Or.inl rfl, hq 0 g ⟨(fun k hk => hgf k hk), (by have : (0 : Int32).toInt = 0 := rfl; show ((0 : Int32) = 0 ∨ (0 : Int32) = 1) ∧ ((0 : Int32).toInt = 1 → 0 < (bgT (fI (h 33)) 20).2) ∧ ((0 : Int32).toInt = 0 → ¬ 0 < (bgT (fI (h 33)) 20).2) ∧ ((g 32 1).toInt = 5 * (((bgT (fI (h 33)) 20).1 : Nat) : Int) ∧ (g 32 2).toInt = (bgT (fI (h 33)) 20).2); have hz := bg_20 (k := (l1.toInt / 5).toNat) (by omega) hi0.2; exact ⟨Or.inl rfl, by omega, by omega, hz⟩)⟩⟩
      · exact ⟨Or.inr rfl, hq 1 g ⟨(fun k hk => hgf k hk), (by have : (1 : Int32).toInt = 1 := rfl; show ((1 : Int32) = 0 ∨ (1 : Int32) = 1) ∧ ((1 : Int32).toInt = 1 → 0 < (bgT (fI (h 33)) 20).2) ∧ ((1 : Int32).toInt = 0 → ¬ 0 < (bgT (fI (h 33)) 20).2) ∧ ((g 32 1).toInt = 5 * (((bgT (fI (h 33)) 20).1 : Nat) : Int) ∧ (g 32 2).toInt = (bgT (fI (h 33)) 20).2); have hz := bg_20 (k := (l1.toInt / 5).toNat) (by omega) hi0.2; exact ⟨Or.inr rfl, by omega, by omega, hz⟩)⟩⟩
    · refine ty_19 X g l1 (by omega) _ (fun r5 p6 => ?_)
      have o7 : r5.toInt = lsT (fI (g 33)) (l1.toInt / 5).toNat := p6
      clear p6
      show qm_PW X 20 [.int l1] g _
      refine ty_20 X g l1 (by omega) _ (fun r8 p9 => ?_)
      have o10 : r8.toInt = ((szT (l1.toInt / 5).toNat : Nat) : Int) ∧ (2 ≤ r8.toInt ∧ r8.toInt ≤ 4) := p9
      clear p9
      show ((r5 * r8).toInt ≤ (g 32 2).toInt → (qm_PA X 13 12 [(0, .ref 32), (1, .int (l1 + 5))] [] g Q)) ∧ ((g 32 2).toInt < (r5 * r8).toInt → (qm_PA X 13 12 [(0, .ref 32), (1, .int (l1 + 5))] [] (qm_row (qm_row g 32 (upd (g 32) 2 (r5 * r8))) 32 (upd (upd (g 32) 2 (r5 * r8)) 1 l1)) Q))
      refine ⟨fun c11 => ?_, fun c12 => ?_⟩
      · exact ih (l1 + 5) g ⟨(by have := ti_addK l1 (5 : Int32) 5 rfl; show ((0 ≤ (l1 + 5).toInt ∧ (l1 + 5).toInt ≤ 100) ∧ (l1 + 5).toInt % 5 = 0) ∧ ((g 32 1).toInt = 5 * (((bgT (fI (h 33)) ((l1 + 5).toInt / 5).toNat).1 : Nat) : Int) ∧ (g 32 2).toInt = (bgT (fI (h 33)) ((l1 + 5).toInt / 5).toNat).2); have e5 := ti_addK l1 (5 : Int32) 5 rfl (by omega); have hm := gnT_mul (k := (l1.toInt / 5).toNat) (by omega) hp (show r5.toInt = lsT (fI (h 33)) (l1.toInt / 5).toNat by rw [← w33_g]; exact o7) o10.1; have e9 : ((l1 + 5).toInt / 5).toNat = (l1.toInt / 5).toNat + 1 := (by omega); exact ⟨by omega, bg_n e9 (z := (r5 * r8).toInt) (by omega) hm hi0.2.1 hi0.2.2⟩), (fun k hk => hgf k hk)⟩ (by have := ti_addK l1 (5 : Int32) 5 rfl; show (104 - (l1 + 5).toInt).toNat < n; omega)
      · exact ih (l1 + 5) (qm_row (qm_row g 32 (upd (g 32) 2 (r5 * r8))) 32 (upd (upd (g 32) 2 (r5 * r8)) 1 l1)) ⟨(by have := ti_addK l1 (5 : Int32) 5 rfl; show ((0 ≤ (l1 + 5).toInt ∧ (l1 + 5).toInt ≤ 100) ∧ (l1 + 5).toInt % 5 = 0) ∧ (l1.toInt = 5 * (((bgT (fI (h 33)) ((l1 + 5).toInt / 5).toNat).1 : Nat) : Int) ∧ (r5 * r8).toInt = (bgT (fI (h 33)) ((l1 + 5).toInt / 5).toNat).2); have e5 := ti_addK l1 (5 : Int32) 5 rfl (by omega); have hm := gnT_mul (k := (l1.toInt / 5).toNat) (by omega) hp (show r5.toInt = lsT (fI (h 33)) (l1.toInt / 5).toNat by rw [← w33_g]; exact o7) o10.1; have e9 : ((l1 + 5).toInt / 5).toNat = (l1.toInt / 5).toNat + 1 := (by omega); exact ⟨by omega, bg_y e9 (by omega) hm (by omega)⟩), (fun k hk => by simp only [qm_row]; rw [if_neg (by omega)]; rw [if_neg (by omega)]; exact hgf k hk)⟩ (by have := ti_addK l1 (5 : Int32) 5 rfl; show (104 - (l1 + 5).toInt).toNat < n; omega)
set_option maxRecDepth 100000 in
set_option maxHeartbeats 4000000 in
theorem ty_13 (X : qm_X) (h : qm_H) (hp : okS (fI (h 33))) (Q : qm_Q) (hq : ∀ r : Int32, ∀ h' : qm_H, ((∀ k, (k < 32 ∨ 32 < k) → h' k = h k) ∧ ((r = 0 ∨ r = 1) ∧ (r.toInt = 1 → 0 < (bgT (fI (h 33)) 20).2) ∧ (r.toInt = 0 → ¬ 0 < (bgT (fI (h 33)) 20).2) ∧ ((h' 32 1).toInt = 5 * (((bgT (fI (h 33)) 20).1 : Nat) : Int) ∧ (h' 32 2).toInt = (bgT (fI (h 33)) 20).2))) → Q (some (.int r)) h') : qm_PW X 13 [.ref 32] h Q := by
  have hp0 : okS (fI (h 33)) := hp
  refine qm_seg_ok (C := qc_13) (rt := some .boolean) rfl rfl (cuts := [(12, [0, 1])]) 400 _ _ _ _ ?_
  show qm_PA X 13 12 [(0, .ref 32), (1, .int 0)] [] (qm_row (qm_row h 32 (upd (h 32) 1 0)) 32 (upd (upd (h 32) 1 0) 2 0)) Q
  exact (ty_13_c X h hp Q hq _) (0 : Int32) (qm_row (qm_row h 32 (upd (h 32) 1 0)) 32 (upd (upd (h 32) 1 0) 2 0)) ⟨(by have : (0 : Int32).toInt = 0 := rfl; show ((0 ≤ (0 : Int32).toInt ∧ (0 : Int32).toInt ≤ 100) ∧ (0 : Int32).toInt % 5 = 0) ∧ ((0 : Int32).toInt = 5 * (((bgT (fI (h 33)) ((0 : Int32).toInt / 5).toNat).1 : Nat) : Int) ∧ (0 : Int32).toInt = (bgT (fI (h 33)) ((0 : Int32).toInt / 5).toNat).2); have : (0 : Int32).toInt = 0 := rfl; exact ⟨by omega, bg_0 (by omega)⟩), (fun k hk => by simp only [qm_row]; rw [if_neg (by omega)]; rw [if_neg (by omega)])⟩ (Nat.lt_succ_self _)
-- ThreadBank$Clearing.takeBest()V
set_option maxRecDepth 100000 in
set_option maxHeartbeats 4000000 in
theorem ty_18_c (X : qm_X) (h : qm_H) (hp : okS (fI (h 33)) ∧ ((0 ≤ (h 32 1).toInt ∧ (h 32 1).toInt ≤ 95) ∧ (h 32 1).toInt % 5 = 0)) (Q : qm_Q) (hq : ∀ h' : qm_H, ((∀ k, (k < 33 ∨ 33 < k) → h' k = h k) ∧ (tkI (fI (h 33)) ((h 32 1).toInt / 5).toNat (szT ((h 32 1).toInt / 5).toNat) (h' 33))) → Q none h') : ∀ n : Nat, (∀ (l1 : Int32) (l2 : Int32) (g : qm_H), (((0 ≤ l2.toInt ∧ l2.toInt ≤ ((szT ((h 32 1).toInt / 5).toNat : Nat) : Int)) ∧ l1.toInt = lsT (fI (h 33)) ((h 32 1).toInt / 5).toNat ∧ tkI (fI (h 33)) ((h 32 1).toInt / 5).toNat l2.toInt.toNat (g 33)) ∧ ∀ k, (k < 33 ∨ 33 < k) → g k = h k) → (4 - l2.toInt).toNat < n → qm_PA X 18 11 [(0, .ref 32), (1, .int l1), (2, .int l2)] [] g Q) := by
  have hp0 : okS (fI (h 33)) ∧ ((0 ≤ (h 32 1).toInt ∧ (h 32 1).toInt ≤ 95) ∧ (h 32 1).toInt % 5 = 0) := hp
  intro n
  induction n with
  | zero => exact fun _ _ _ _ h0 => absurd h0 (Nat.not_lt_zero _)
  | succ n ih =>
    intro l1 l2 g hi hr
    obtain ⟨hi0, hgf⟩ := hi
    have ti_l2 := ti_rng l2
    have hsz := szT_r (k := ((h 32 1).toInt / 5).toNat) (by omega)
    have e32_g : (g 32 1).toInt = (h 32 1).toInt := by rw [hgf 32 (by omega)]
    have ek_g : ((g 32 1).toInt / 5).toNat = ((h 32 1).toInt / 5).toNat := by rw [e32_g]
    have esz_g : szT ((g 32 1).toInt / 5).toNat = szT ((h 32 1).toInt / 5).toNat := by rw [ek_g]
    refine qm_seg_ok (C := qc_18) (rt := none) rfl rfl (cuts := [(11, [0, 1, 2])]) 400 _ _ _ _ ?_
    show qm_PW X 20 [.int (g 32 1)] g _
    refine ty_20 X g (g 32 1) (by omega) _ (fun r1 p2 => ?_)
    have o3 : r1.toInt = ((szT ((g 32 1).toInt / 5).toNat : Nat) : Int) ∧ (2 ≤ r1.toInt ∧ r1.toInt ≤ 4) := p2
    clear p2
    show (r1.toInt ≤ l2.toInt → (Q none g)) ∧ (l2.toInt < r1.toInt → (qm_PW X 21 [.int (g 32 1), .int l2] g _))
    refine ⟨fun c4 => ?_, fun c5 => ?_⟩
    · exact hq g ⟨(fun k hk => hgf k hk), (by show tkI (fI (h 33)) ((h 32 1).toInt / 5).toNat (szT ((h 32 1).toInt / 5).toNat) (g 33); have hz := hi0.2.2; rw [show l2.toInt.toNat = szT ((h 32 1).toInt / 5).toNat by omega] at hz; exact hz)⟩
    · refine ty_21 X g (g 32 1) l2 (by omega) _ (fun r6 p7 => ?_)
      have o8 : r6.toInt = ((ckT ((g 32 1).toInt / 5).toNat l2.toInt.toNat : Nat) : Int) ∧ (0 ≤ r6.toInt ∧ r6.toInt ≤ 3) := p7
      clear p7
      show qm_PW X 21 [.int (g 32 1), .int (l2 + 1)] g _
      refine ty_21 X g (g 32 1) (l2 + 1) (by have := ti_addK l2 (1 : Int32) 1 rfl; omega) _ (fun r9 p10 => ?_)
      have o11 : r9.toInt = ((ckT ((g 32 1).toInt / 5).toNat (l2 + 1).toInt.toNat : Nat) : Int) ∧ (0 ≤ r9.toInt ∧ r9.toInt ≤ 3) := p10
      clear p10
      show (((4 * r6) + r9).toInt < 0 → (qm_PA X 18 11 [(0, .ref 32), (1, .int l1), (2, .int (l2 + 1))] [] g Q)) ∧ (0 ≤ ((4 * r6) + r9).toInt → ((16 ≤ ((4 * r6) + r9).toInt → (qm_PA X 18 11 [(0, .ref 32), (1, .int l1), (2, .int (l2 + 1))] [] g Q)) ∧ (((4 * r6) + r9).toInt < 16 → ((0 ≤ ((4 * r6) + r9).toInt ∧ ((4 * r6) + r9).toInt < 16) ∧ ((0 ≤ ((4 * r6) + r9).toInt ∧ ((4 * r6) + r9).toInt < 16) ∧ (qm_PA X 18 11 [(0, .ref 32), (1, .int l1), (2, .int (l2 + 1))] [] (qm_row g 33 (upd (g 33) ((4 * r6) + r9).toInt.toNat ((g 33 ((4 * r6) + r9).toInt.toNat) - l1))) Q))))))
      refine ⟨fun c12 => ?_, fun c13 => ?_⟩
      · exact ih l1 (l2 + 1) g ⟨(by have := ti_addK l2 (1 : Int32) 1 rfl; have := ti_mulL (4 : Int32) 4 rfl r6; have := ti_add (4 * r6) r9; show (0 ≤ (l2 + 1).toInt ∧ (l2 + 1).toInt ≤ ((szT ((h 32 1).toInt / 5).toNat : Nat) : Int)) ∧ l1.toInt = lsT (fI (h 33)) ((h 32 1).toInt / 5).toNat ∧ tkI (fI (h 33)) ((h 32 1).toInt / 5).toNat (l2 + 1).toInt.toNat (g 33); have w32_g : g 32 = h 32 := hgf 32 (by omega); have e9 : (l2 + 1).toInt.toNat = l2.toInt.toNat + 1 := (by omega); have c1 := o8.1; have c2 := o11.1; rw [w32_g] at c1 c2; rw [e9] at c2; have e := ed_x (k := ((h 32 1).toInt / 5).toNat) (i := l2.toInt.toNat) c1 c2; have el := edT_lt (k := ((h 32 1).toInt / 5).toNat) (i := l2.toInt.toNat) (by omega) (by omega); have q1 := ti_mulL (4 : Int32) 4 rfl r6 (by omega); have q2 := ti_add (4 * r6) r9 (by omega); exfalso; omega), (fun k hk => hgf k hk)⟩ (by have := ti_addK l2 (1 : Int32) 1 rfl; have := ti_mulL (4 : Int32) 4 rfl r6; have := ti_add (4 * r6) r9; show (4 - (l2 + 1).toInt).toNat < n; omega)
      · refine ⟨fun c14 => ?_, fun c15 => ?_⟩
        · exact ih l1 (l2 + 1) g ⟨(by have := ti_addK l2 (1 : Int32) 1 rfl; have := ti_mulL (4 : Int32) 4 rfl r6; have := ti_add (4 * r6) r9; show (0 ≤ (l2 + 1).toInt ∧ (l2 + 1).toInt ≤ ((szT ((h 32 1).toInt / 5).toNat : Nat) : Int)) ∧ l1.toInt = lsT (fI (h 33)) ((h 32 1).toInt / 5).toNat ∧ tkI (fI (h 33)) ((h 32 1).toInt / 5).toNat (l2 + 1).toInt.toNat (g 33); have w32_g : g 32 = h 32 := hgf 32 (by omega); have e9 : (l2 + 1).toInt.toNat = l2.toInt.toNat + 1 := (by omega); have c1 := o8.1; have c2 := o11.1; rw [w32_g] at c1 c2; rw [e9] at c2; have e := ed_x (k := ((h 32 1).toInt / 5).toNat) (i := l2.toInt.toNat) c1 c2; have el := edT_lt (k := ((h 32 1).toInt / 5).toNat) (i := l2.toInt.toNat) (by omega) (by omega); have q1 := ti_mulL (4 : Int32) 4 rfl r6 (by omega); have q2 := ti_add (4 * r6) r9 (by omega); exfalso; omega), (fun k hk => hgf k hk)⟩ (by have := ti_addK l2 (1 : Int32) 1 rfl; have := ti_mulL (4 : Int32) 4 rfl r6; have := ti_add (4 * r6) r9; show (4 - (l2 + 1).toInt).toNat < n; omega)
        · refine ⟨(by have := ti_mulL (4 : Int32) 4 rfl r6; have := ti_add (4 * r6) r9; have := ti_addK l2 (1 : Int32) 1 rfl; omega), ?_⟩
          refine ⟨(by have := ti_mulL (4 : Int32) 4 rfl r6; have := ti_add (4 * r6) r9; have := ti_addK l2 (1 : Int32) 1 rfl; omega), ?_⟩
          exact ih l1 (l2 + 1) (qm_row g 33 (upd (g 33) ((4 * r6) + r9).toInt.toNat ((g 33 ((4 * r6) + r9).toInt.toNat) - l1))) ⟨(by have := ti_addK l2 (1 : Int32) 1 rfl; have := ti_mulL (4 : Int32) 4 rfl r6; have := ti_add (4 * r6) r9; show (0 ≤ (l2 + 1).toInt ∧ (l2 + 1).toInt ≤ ((szT ((h 32 1).toInt / 5).toNat : Nat) : Int)) ∧ l1.toInt = lsT (fI (h 33)) ((h 32 1).toInt / 5).toNat ∧ tkI (fI (h 33)) ((h 32 1).toInt / 5).toNat (l2 + 1).toInt.toNat ((qm_row g 33 (upd (g 33) ((4 * r6) + r9).toInt.toNat ((g 33 ((4 * r6) + r9).toInt.toNat) - l1))) 33); have w32_g : g 32 = h 32 := hgf 32 (by omega); have e9 : (l2 + 1).toInt.toNat = l2.toInt.toNat + 1 := (by omega); have c1 := o8.1; have c2 := o11.1; rw [w32_g] at c1 c2; rw [e9] at c2; have e := ed_x (k := ((h 32 1).toInt / 5).toNat) (i := l2.toInt.toNat) c1 c2; have el := edT_lt (k := ((h 32 1).toInt / 5).toNat) (i := l2.toInt.toNat) (by omega) (by omega); have q1 := ti_mulL (4 : Int32) 4 rfl r6 (by omega); have q2 := ti_add (4 * r6) r9 (by omega); exact ⟨by omega, hi0.2.1, tkI_s hp.1 (by omega) (by omega) e9 hi0.2.2 (show ((4 * r6) + r9).toInt.toNat = edT ((h 32 1).toInt / 5).toNat l2.toInt.toNat by omega) hi0.2.1 rfl⟩), (fun k hk => by simp only [qm_row]; rw [if_neg (by omega)]; exact hgf k hk)⟩ (by have := ti_addK l2 (1 : Int32) 1 rfl; have := ti_mulL (4 : Int32) 4 rfl r6; have := ti_add (4 * r6) r9; show (4 - (l2 + 1).toInt).toNat < n; omega)
set_option maxRecDepth 100000 in
set_option maxHeartbeats 4000000 in
theorem ty_18 (X : qm_X) (h : qm_H) (hp : okS (fI (h 33)) ∧ ((0 ≤ (h 32 1).toInt ∧ (h 32 1).toInt ≤ 95) ∧ (h 32 1).toInt % 5 = 0)) (Q : qm_Q) (hq : ∀ h' : qm_H, ((∀ k, (k < 33 ∨ 33 < k) → h' k = h k) ∧ (tkI (fI (h 33)) ((h 32 1).toInt / 5).toNat (szT ((h 32 1).toInt / 5).toNat) (h' 33))) → Q none h') : qm_PW X 18 [.ref 32] h Q := by
  have hp0 : okS (fI (h 33)) ∧ ((0 ≤ (h 32 1).toInt ∧ (h 32 1).toInt ≤ 95) ∧ (h 32 1).toInt % 5 = 0) := hp
  refine qm_seg_ok (C := qc_18) (rt := none) rfl rfl (cuts := [(11, [0, 1, 2])]) 400 _ _ _ _ ?_
  show qm_PW X 19 [.ref 32, .int (h 32 1)] h _
  refine ty_19 X h (h 32 1) (by show (0 ≤ (h 32 1).toInt ∧ (h 32 1).toInt ≤ 95) ∧ (h 32 1).toInt % 5 = 0; omega) _ (fun r1 p2 => ?_)
  have o3 : r1.toInt = lsT (fI (h 33)) ((h 32 1).toInt / 5).toNat := p2
  clear p2
  show qm_PA X 18 11 [(0, .ref 32), (1, .int r1), (2, .int 0)] [] h Q
  exact (ty_18_c X h hp Q hq _) r1 (0 : Int32) h ⟨(by have : (0 : Int32).toInt = 0 := rfl; show (0 ≤ (0 : Int32).toInt ∧ (0 : Int32).toInt ≤ ((szT ((h 32 1).toInt / 5).toNat : Nat) : Int)) ∧ r1.toInt = lsT (fI (h 33)) ((h 32 1).toInt / 5).toNat ∧ tkI (fI (h 33)) ((h 32 1).toInt / 5).toNat (0 : Int32).toInt.toNat (h 33); exact ⟨by have : (0 : Int32).toInt = 0 := rfl; omega, o3, tkI_0 rfl⟩), (fun k hk => rfl)⟩ (Nat.lt_succ_self _)
-- ThreadBank$Clearing.takeAll()I
set_option maxRecDepth 100000 in
set_option maxHeartbeats 4000000 in
theorem ty_17_c (X : qm_X) (h : qm_H) (hp : okS (fI (h 33))) (Q : qm_Q) (hq : ∀ r : Int32, ∀ h' : qm_H, ((∀ k, (k < 32 ∨ 33 < k) → h' k = h k) ∧ (r.toInt = (rnT 12 (fI (h 33))).1 ∧ ∀ j : Nat, j < 16 → ((h' 33) j).toInt = (rnT 12 (fI (h 33))).2 j)) → Q (some (.int r)) h') : ∀ n : Nat, (∀ (l1 : Int32) (g : qm_H), (((0 ≤ l1.toInt ∧ l1.toInt ≤ 12) ∧ rnI (fI (g 33)) (rnT 12 (fI (h 33))) (12 - l1.toInt.toNat) l1.toInt) ∧ ∀ k, (k < 32 ∨ 33 < k) → g k = h k) → (12 - l1.toInt).toNat < n → qm_PA X 17 2 [(0, .ref 32), (1, .int l1)] [] g Q) := by
  have hp0 : okS (fI (h 33)) := hp
  intro n
  induction n with
  | zero => exact fun _ _ _ h0 => absurd h0 (Nat.not_lt_zero _)
  | succ n ih =>
    intro l1 g hi hr
    obtain ⟨hi0, hgf⟩ := hi
    have ti_l1 := ti_rng l1
    have okf_g : okS (fI (g 33)) := hi0.2.1
    refine qm_seg_ok (C := qc_17) (rt := some .int) rfl rfl (cuts := [(2, [0, 1])]) 400 _ _ _ _ ?_
    show (12 ≤ l1.toInt → (Q (some (.int l1)) g)) ∧ (l1.toInt < 12 → (qm_PW X 13 [.ref 32] g _))
    refine ⟨fun c1 => ?_, fun c2 => ?_⟩
    · exact hq l1 g ⟨(fun k hk => hgf k hk), (by show l1.toInt = (rnT 12 (fI (h 33))).1 ∧ ∀ j : Nat, j < 16 → ((g 33) j).toInt = (rnT 12 (fI (h 33))).2 j; exact rnI_z hi0.2 (Or.inl (by omega)))⟩
    · refine ty_13 X g  okf_g _ (fun r3 g4 p5 => ?_)
      obtain ⟨p5_0, p5_1⟩ := p5
      have f6 : ∀ k, (k < 32 ∨ 33 < k) → g4 k = h k := fun k hk => (p5_0 k (by omega)).trans (hgf k hk)
      have o7 : (r3 = 0 ∨ r3 = 1) ∧ (r3.toInt = 1 → 0 < (bgT (fI (g 33)) 20).2) ∧ (r3.toInt = 0 → ¬ 0 < (bgT (fI (g 33)) 20).2) ∧ ((g4 32 1).toInt = 5 * (((bgT (fI (g 33)) 20).1 : Nat) : Int) ∧ (g4 32 2).toInt = (bgT (fI (g 33)) 20).2) := p5_1
      clear p5_1
      have okf_g4 : okS (fI (g4 33)) := by rw [show g4 33 = g 33 from p5_0 33 (by omega)]; exact okf_g
      have hbr_g4 := (bgT_rg okf_g 20 (Nat.le_refl _)).1.1
      have w33_g4 : g4 33 = g 33 := p5_0 33 (by omega)
      show (r3 = 0 → (Q (some (.int l1)) g4)) ∧ (¬ r3 = 0 → (qm_PW X 18 [.ref 32] g4 _))
      refine ⟨fun c8 => ?_, fun c9 => ?_⟩
      · exact hq l1 g4 ⟨(fun k hk => f6 k hk), (by show l1.toInt = (rnT 12 (fI (h 33))).1 ∧ ∀ j : Nat, j < 16 → ((g4 33) j).toInt = (rnT 12 (fI (h 33))).2 j; have hz := rnI_z hi0.2 (Or.inr (o7.2.2.1 (congrArg Int32.toInt (show r3 = 0 from by assumption)))); rw [← w33_g4] at hz; exact hz)⟩
      · refine ty_18 X g4  ⟨okf_g4, (by omega)⟩ _ (fun g10 p11 => ?_)
        obtain ⟨p11_0, p11_1⟩ := p11
        have f12 : ∀ k, (k < 32 ∨ 33 < k) → g10 k = h k := fun k hk => (p11_0 k (by omega)).trans (f6 k hk)
        have o13 : tkI (fI (g4 33)) ((g4 32 1).toInt / 5).toNat (szT ((g4 32 1).toInt / 5).toNat) (g10 33) := p11_1
        clear p11_1
        show qm_PA X 17 2 [(0, .ref 32), (1, .int (l1 + 1))] [] g10 Q
        exact ih (l1 + 1) g10 ⟨(by have := ti_addK l1 (1 : Int32) 1 rfl; show (0 ≤ (l1 + 1).toInt ∧ (l1 + 1).toInt ≤ 12) ∧ rnI (fI (g10 33)) (rnT 12 (fI (h 33))) (12 - (l1 + 1).toInt.toNat) (l1 + 1).toInt; have e1 := ti_addK l1 (1 : Int32) 1 rfl (by omega); have hb9 : r3.toInt = 1 := (bool_i o7.1).resolve_left (fun w => absurd (Int32.toInt_inj.mp (w.trans (show (0 : Int) = (0 : Int32).toInt from rfl)) : r3 = 0) (by assumption)); have hk9 := o13; rw [w33_g4] at hk9; exact ⟨by omega, rnI_s hi0.2 (o7.2.1 hb9) (show 12 - l1.toInt.toNat = (12 - (l1 + 1).toInt.toNat) + 1 by omega) e1 (show ((g4 32 1).toInt / 5).toNat = (bgT (fI (g 33)) 20).1 by omega) hk9 rfl⟩), (fun k hk => f12 k hk)⟩ (by have := ti_addK l1 (1 : Int32) 1 rfl; show (12 - (l1 + 1).toInt).toNat < n; omega)
set_option maxRecDepth 100000 in
set_option maxHeartbeats 4000000 in
theorem ty_17 (X : qm_X) (h : qm_H) (hp : okS (fI (h 33))) (Q : qm_Q) (hq : ∀ r : Int32, ∀ h' : qm_H, ((∀ k, (k < 32 ∨ 33 < k) → h' k = h k) ∧ (r.toInt = (rnT 12 (fI (h 33))).1 ∧ ∀ j : Nat, j < 16 → ((h' 33) j).toInt = (rnT 12 (fI (h 33))).2 j)) → Q (some (.int r)) h') : qm_PW X 17 [.ref 32] h Q := by
  have hp0 : okS (fI (h 33)) := hp
  refine qm_seg_ok (C := qc_17) (rt := some .int) rfl rfl (cuts := [(2, [0, 1])]) 400 _ _ _ _ ?_
  show qm_PA X 17 2 [(0, .ref 32), (1, .int 0)] [] h Q
  exact (ty_17_c X h hp Q hq _) (0 : Int32) h ⟨(by have : (0 : Int32).toInt = 0 := rfl; show (0 ≤ (0 : Int32).toInt ∧ (0 : Int32).toInt ≤ 12) ∧ rnI (fI (h 33)) (rnT 12 (fI (h 33))) (12 - (0 : Int32).toInt.toNat) (0 : Int32).toInt; have : (0 : Int32).toInt = 0 := rfl; exact ⟨by omega, rnI_0 hp (by omega) (by omega)⟩), (fun k hk => rfl)⟩ (Nat.lt_succ_self _)
-- ThreadBank$Clearing.begin(LThreadBank$Memory;)V
set_option maxRecDepth 100000 in
set_option maxHeartbeats 4000000 in
theorem ty_10_c (X : qm_X) (h : qm_H) (hp : mq 1 h ∧ wc h) (Q : qm_Q) (hq : ∀ h' : qm_H, ((∀ k, (k < 33 ∨ 33 < k) → h' k = h k) ∧ (bgI (h 3) (h 4) (h 5) (h 1 7).toInt.toNat 16 (h' 33))) → Q none h') : ∀ n : Nat, (∀ (l2 : Int32) (g : qm_H), (((0 ≤ l2.toInt ∧ l2.toInt ≤ 4) ∧ bgI (h 3) (h 4) (h 5) (h 1 7).toInt.toNat (4 * l2.toInt) (g 33)) ∧ mq 1 g ∧ wc g ∧ ∀ k, (k < 33 ∨ 33 < k) → g k = h k) → ((4 - l2.toInt) * 100 + 50).toNat < n → qm_PA X 10 2 [(0, .ref 32), (1, .ref 1), (2, .int l2)] [] g Q) ∧ (∀ (l2 : Int32) (l3 : Int32) (g : qm_H), ((((0 ≤ l2.toInt ∧ l2.toInt ≤ 3) ∧ 0 ≤ l3.toInt ∧ l3.toInt ≤ 4) ∧ bgI (h 3) (h 4) (h 5) (h 1 7).toInt.toNat (4 * l2.toInt + l3.toInt) (g 33)) ∧ mq 1 g ∧ wc g ∧ ∀ k, (k < 33 ∨ 33 < k) → g k = h k) → ((4 - l2.toInt) * 100 + 40 - l3.toInt).toNat < n → qm_PA X 10 9 [(0, .ref 32), (1, .ref 1), (2, .int l2), (3, .int l3)] [] g Q) := by
  have hm1 : mq 1 h := hp.1
  have ⟨⟨_, _⟩, ⟨_, _⟩, _, _⟩ := hm1
  have hmwc : wc h := hp.2
  intro n
  induction n with
  | zero => exact ⟨fun _ _ _ h0 => absurd h0 (Nat.not_lt_zero _), fun _ _ _ _ h0 => absurd h0 (Nat.not_lt_zero _)⟩
  | succ n ih =>
    refine ⟨?_, ?_⟩
    · intro l2 g hi hr
      obtain ⟨hi0, hg1, hgwc, hgf⟩ := hi
      have ⟨⟨_, _⟩, ⟨_, _⟩, _, _⟩ := hg1
      have ti_l2 := ti_rng l2
      refine qm_seg_ok (C := qc_10) (rt := none) rfl rfl (cuts := [(2, [0, 1, 2]), (9, [0, 1, 2, 3])]) 400 _ _ _ _ ?_
      show (4 ≤ l2.toInt → (Q none g)) ∧ (l2.toInt < 4 → (qm_PA X 10 9 [(0, .ref 32), (1, .ref 1), (2, .int l2), (3, .int 0)] [] g Q))
      refine ⟨fun c1 => ?_, fun c2 => ?_⟩
      · exact hq g ⟨(fun k hk => hgf k hk), (by show bgI (h 3) (h 4) (h 5) (h 1 7).toInt.toNat 16 (g 33); have hz := hi0.2; rw [show 4 * l2.toInt = 16 by omega] at hz; exact hz)⟩
      · exact ih.2 l2 (0 : Int32) g ⟨(by have : (0 : Int32).toInt = 0 := rfl; show ((0 ≤ l2.toInt ∧ l2.toInt ≤ 3) ∧ 0 ≤ (0 : Int32).toInt ∧ (0 : Int32).toInt ≤ 4) ∧ bgI (h 3) (h 4) (h 5) (h 1 7).toInt.toNat (4 * l2.toInt + (0 : Int32).toInt) (g 33); have : (0 : Int32).toInt = 0 := rfl; have hz := hi0.2; rw [show 4 * l2.toInt = 4 * l2.toInt + (0 : Int32).toInt by omega] at hz; exact ⟨by omega, hz⟩), hg1, hgwc, (fun k hk => hgf k hk)⟩ (by have : (0 : Int32).toInt = 0 := rfl; show ((4 - l2.toInt) * 100 + 40 - (0 : Int32).toInt).toNat < n; omega)
    · intro l2 l3 g hi hr
      obtain ⟨hi0, hg1, hgwc, hgf⟩ := hi
      have ⟨⟨_, _⟩, ⟨_, _⟩, _, _⟩ := hg1
      have ti_l3 := ti_rng l3
      have w3_g : g 3 = h 3 := hgf 3 (by omega)
      have w4_g : g 4 = h 4 := hgf 4 (by omega)
      have w5_g : g 5 = h 5 := hgf 5 (by omega)
      have w1_g : g 1 = h 1 := hgf 1 (by omega)
      refine qm_seg_ok (C := qc_10) (rt := none) rfl rfl (cuts := [(2, [0, 1, 2]), (9, [0, 1, 2, 3])]) 400 _ _ _ _ ?_
      show (4 ≤ l3.toInt → (qm_PA X 10 2 [(0, .ref 32), (1, .ref 1), (2, .int (l2 + 1))] [] g Q)) ∧ (l3.toInt < 4 → (qm_PW X 53 [.ref 1, .int ((10 * l2) + l3), .int 9] g _))
      refine ⟨fun c1 => ?_, fun c2 => ?_⟩
      · exact ih.1 (l2 + 1) g ⟨(by have := ti_addK l2 (1 : Int32) 1 rfl; show (0 ≤ (l2 + 1).toInt ∧ (l2 + 1).toInt ≤ 4) ∧ bgI (h 3) (h 4) (h 5) (h 1 7).toInt.toNat (4 * (l2 + 1).toInt) (g 33); have e1 := ti_addK l2 (1 : Int32) 1 rfl (by omega); have hz := hi0.2; rw [show 4 * l2.toInt + l3.toInt = 4 * (l2 + 1).toInt by omega] at hz; exact ⟨by omega, hz⟩), hg1, hgwc, (fun k hk => hgf k hk)⟩ (by have := ti_addK l2 (1 : Int32) 1 rfl; show ((4 - (l2 + 1).toInt) * 100 + 50).toNat < n; omega)
      · refine ty_53 X g ((10 * l2) + l3) (9 : Int32) ⟨hg1, hgwc⟩ _ (fun r3 p4 => ?_)
        have o5 : r3.toInt = owS (g 3) (g 4) (g 5) ((10 * l2) + l3).toInt (9 : Int32).toInt (g 1 7).toInt.toNat ∧ (0 ≤ r3.toInt ∧ r3.toInt ≤ 90) := p4
        clear p4
        show (0 ≤ ((4 * l2) + l3).toInt ∧ ((4 * l2) + l3).toInt < 16) ∧ (qm_PA X 10 9 [(0, .ref 32), (1, .ref 1), (2, .int l2), (3, .int (l3 + 1))] [] (qm_row g 33 (upd (g 33) ((4 * l2) + l3).toInt.toNat r3)) Q)
        refine ⟨(by have : (9 : Int32).toInt = 9 := rfl; have := ti_mulL (4 : Int32) 4 rfl l2; have := ti_add (4 * l2) l3; have := ti_mulL (10 : Int32) 10 rfl l2; have := ti_add (10 * l2) l3; omega), ?_⟩
        exact ih.2 l2 (l3 + 1) (qm_row g 33 (upd (g 33) ((4 * l2) + l3).toInt.toNat r3)) ⟨(by have : (9 : Int32).toInt = 9 := rfl; have := ti_addK l3 (1 : Int32) 1 rfl; have := ti_mulL (4 : Int32) 4 rfl l2; have := ti_add (4 * l2) l3; have := ti_mulL (10 : Int32) 10 rfl l2; have := ti_add (10 * l2) l3; show ((0 ≤ l2.toInt ∧ l2.toInt ≤ 3) ∧ 0 ≤ (l3 + 1).toInt ∧ (l3 + 1).toInt ≤ 4) ∧ bgI (h 3) (h 4) (h 5) (h 1 7).toInt.toNat (4 * l2.toInt + (l3 + 1).toInt) ((qm_row g 33 (upd (g 33) ((4 * l2) + l3).toInt.toNat r3)) 33); have e1 := ti_addK l3 (1 : Int32) 1 rfl (by omega); have q1 := ti_mulL (4 : Int32) 4 rfl l2 (by omega); have q2 := ti_add (4 * l2) l3 (by omega); have q3 := ti_mulL (10 : Int32) 10 rfl l2 (by omega); have q4 := ti_add (10 * l2) l3 (by omega); have oy9 := o5.1; rw [w3_g, w4_g, w5_g, w1_g, show (9 : Int32).toInt = 9 from rfl] at oy9; exact ⟨by omega, bgI_s (x := l2.toInt.toNat) (y := l3.toInt.toNat) hi0.2 (by omega) (by omega) (show ((((4 * l2) + l3).toInt.toNat : Nat) : Int) = _ by omega) (by omega) (by omega) oy9 rfl⟩), (by exact hg1), (by exact hgwc), (fun k hk => by simp only [qm_row]; rw [if_neg (by omega)]; exact hgf k hk)⟩ (by have : (9 : Int32).toInt = 9 := rfl; have := ti_addK l3 (1 : Int32) 1 rfl; have := ti_mulL (10 : Int32) 10 rfl l2; have := ti_add (10 * l2) l3; show ((4 - l2.toInt) * 100 + 40 - (l3 + 1).toInt).toNat < n; omega)
set_option maxRecDepth 100000 in
set_option maxHeartbeats 4000000 in
theorem ty_10 (X : qm_X) (h : qm_H) (hp : mq 1 h ∧ wc h) (Q : qm_Q) (hq : ∀ h' : qm_H, ((∀ k, (k < 33 ∨ 33 < k) → h' k = h k) ∧ (bgI (h 3) (h 4) (h 5) (h 1 7).toInt.toNat 16 (h' 33))) → Q none h') : qm_PW X 10 [.ref 32, .ref 1] h Q := by
  have hm1 : mq 1 h := hp.1
  have ⟨⟨_, _⟩, ⟨_, _⟩, _, _⟩ := hm1
  have hmwc : wc h := hp.2
  refine qm_seg_ok (C := qc_10) (rt := none) rfl rfl (cuts := [(2, [0, 1, 2]), (9, [0, 1, 2, 3])]) 400 _ _ _ _ ?_
  show qm_PA X 10 2 [(0, .ref 32), (1, .ref 1), (2, .int 0)] [] h Q
  exact (ty_10_c X h hp Q hq _).1 (0 : Int32) h ⟨(by have : (0 : Int32).toInt = 0 := rfl; show (0 ≤ (0 : Int32).toInt ∧ (0 : Int32).toInt ≤ 4) ∧ bgI (h 3) (h 4) (h 5) (h 1 7).toInt.toNat (4 * (0 : Int32).toInt) (h 33); have : (0 : Int32).toInt = 0 := rfl; exact ⟨by omega, bgI_0 (by omega)⟩), hm1, hmwc, (fun k hk => rfl)⟩ (Nat.lt_succ_self _)
-- ThreadBank.clear(I)I
set_option maxRecDepth 100000 in
set_option maxHeartbeats 4000000 in
theorem ty_107 (X : qm_X) (h : qm_H) (a : Int32) (hp : mq 1 h ∧ mq 8 h ∧ mq 15 h ∧ sq h ∧ wc h) (Q : qm_Q) (hq : ∀ r : Int32, ∀ h' : qm_H, (mq 1 h' ∧ mq 8 h' ∧ mq 15 h' ∧ sq h' ∧ (∀ k, (k < 32 ∨ 33 < k) → h' k = h k) ∧ (r.toInt = qClear a.toInt (mC h))) → Q (some (.int r)) h') : qm_PW X 107 [.ref 0, .int a] h Q := by
  have hm1 : mq 1 h := hp.1
  have ⟨⟨_, _⟩, ⟨_, _⟩, _, _⟩ := hm1
  have hm8 : mq 8 h := hp.2.1
  have ⟨⟨_, _⟩, ⟨_, _⟩, _, _⟩ := hm8
  have hm15 : mq 15 h := hp.2.2.1
  have ⟨⟨_, _⟩, ⟨_, _⟩, _, _⟩ := hm15
  have hmsq : sq h := hp.2.2.2.1
  have hmwc : wc h := hp.2.2.2.2
  have hok : okS (s0S (h 3) (h 4) (h 5) (h 1 7).toInt.toNat) := s0S_ok (by omega) (fun j q => wf_kn (show wfM (mC h) from hmwc) j (by omega))
  refine qm_seg_ok (C := qc_107) (rt := some .int) rfl rfl (cuts := []) 400 _ _ _ _ ?_
  show (a.toInt < 0 → (Q (some (.int (-1 : Int32))) h)) ∧ (0 ≤ a.toInt → ((a.toInt ≤ 1 → (qm_PW X 10 [.ref 32, .ref 1] h _)) ∧ (1 < a.toInt → (Q (some (.int (-1 : Int32))) h))))
  refine ⟨fun c1 => ?_, fun c2 => ?_⟩
  · exact hq (-1 : Int32) h ⟨hm1, hm8, hm15, hmsq, (fun k hk => rfl), (by show (-1 : Int32).toInt = qClear a.toInt (mC h); rw [ti_n1]; exact (show qClear a.toInt (mC h) = _ from clear_no (by omega)).symm)⟩
  · refine ⟨fun c3 => ?_, fun c4 => ?_⟩
    · refine ty_10 X h  ⟨hm1, hmwc⟩ _ (fun g5 p6 => ?_)
      obtain ⟨p6_0, p6_1⟩ := p6
      have f7 : ∀ k, (k < 32 ∨ 33 < k) → g5 k = h k := fun k hk => (p6_0 k (by omega)).trans (rfl)
      have k8 : mq 1 g5 := by unfold mq; rw [p6_0 1 (by omega)]; exact hm1
      have k9 : mq 8 g5 := by unfold mq; rw [p6_0 8 (by omega)]; exact hm8
      have k10 : mq 15 g5 := by unfold mq; rw [p6_0 15 (by omega)]; exact hm15
      have k11 : sq g5 := by unfold sq; rw [p6_0 37 (by omega)]; exact hmsq
      have k12 : wc g5 := wf_tr2 hmwc (mC_of (fun k h1 h2 => p6_0 k (by omega)))
      have o13 : bgI (h 3) (h 4) (h 5) (h 1 7).toInt.toNat 16 (g5 33) := p6_1
      clear p6_1
      have okf_g5 : okS (fI (g5 33)) := bgI_ok o13 rfl hok
      show qm_PW X 17 [.ref 32] g5 _
      refine ty_17 X g5  okf_g5 _ (fun r14 g15 p16 => ?_)
      obtain ⟨p16_0, p16_1⟩ := p16
      have f17 : ∀ k, (k < 32 ∨ 33 < k) → g15 k = h k := fun k hk => (p16_0 k (by omega)).trans (f7 k hk)
      have k18 : mq 1 g15 := by unfold mq; rw [p16_0 1 (by omega)]; exact k8
      have k19 : mq 8 g15 := by unfold mq; rw [p16_0 8 (by omega)]; exact k9
      have k20 : mq 15 g15 := by unfold mq; rw [p16_0 15 (by omega)]; exact k10
      have k21 : sq g15 := by unfold sq; rw [p16_0 37 (by omega)]; exact k11
      have k22 : wc g15 := wf_tr2 k12 (mC_of (fun k h1 h2 => p16_0 k (by omega)))
      have o23 : r14.toInt = (rnT 12 (fI (g5 33))).1 ∧ ∀ j : Nat, j < 16 → ((g15 33) j).toInt = (rnT 12 (fI (g5 33))).2 j := p16_1
      clear p16_1
      have okf_g15 : okS (fI (g15 33)) := rn_okf okf_g5 o23.2
      have rns_g15 := rn_s0 o13 hok o23
      show (¬ a = 0 → (Q (some (.int r14)) g15)) ∧ (a = 0 → (qm_PW X 12 [.ref 32] g15 _))
      refine ⟨fun c24 => ?_, fun c25 => ?_⟩
      · have := ti_neK 0 rfl c24
        exact hq r14 g15 ⟨k18, k19, k20, k21, (fun k hk => f17 k hk), (by show r14.toInt = qClear a.toInt (mC h); exact rns_g15.1.trans (show qClear a.toInt (mC h) = _ from clear_1 (by omega)).symm)⟩
      · have := ti_eqK 0 rfl c25
        refine ty_12 X g15  okf_g15 _ (fun r26 p27 => ?_)
        have o28 : r26.toInt = sumI (fI (g15 33)) 16 := p27
        clear p27
        show Q (some (.int r26)) g15
        exact hq r26 g15 ⟨k18, k19, k20, k21, (fun k hk => f17 k hk), (by show r26.toInt = qClear a.toInt (mC h); exact o28.trans ((sumI_eq (fun j q => rns_g15.2 j q)).trans (show qClear a.toInt (mC h) = _ from clear_0 (by omega)).symm))⟩
    · exact hq (-1 : Int32) h ⟨hm1, hm8, hm15, hmsq, (fun k hk => rfl), (by show (-1 : Int32).toInt = qClear a.toInt (mC h); rw [ti_n1]; exact (show qClear a.toInt (mC h) = _ from clear_no (by omega)).symm)⟩
-- ThreadBank.left(I)I
set_option maxRecDepth 100000 in
set_option maxHeartbeats 4000000 in
theorem ty_108 (X : qm_X) (h : qm_H) (a : Int32) (hp : mq 1 h ∧ mq 8 h ∧ mq 15 h ∧ sq h ∧ wc h) (Q : qm_Q) (hq : ∀ r : Int32, ∀ h' : qm_H, (mq 1 h' ∧ mq 8 h' ∧ mq 15 h' ∧ sq h' ∧ (∀ k, (k < 32 ∨ 33 < k) → h' k = h k) ∧ (r.toInt = qLeft a.toInt (mC h))) → Q (some (.int r)) h') : qm_PW X 108 [.ref 0, .int a] h Q := by
  have hm1 : mq 1 h := hp.1
  have ⟨⟨_, _⟩, ⟨_, _⟩, _, _⟩ := hm1
  have hm8 : mq 8 h := hp.2.1
  have ⟨⟨_, _⟩, ⟨_, _⟩, _, _⟩ := hm8
  have hm15 : mq 15 h := hp.2.2.1
  have ⟨⟨_, _⟩, ⟨_, _⟩, _, _⟩ := hm15
  have hmsq : sq h := hp.2.2.2.1
  have hmwc : wc h := hp.2.2.2.2
  have hok : okS (s0S (h 3) (h 4) (h 5) (h 1 7).toInt.toNat) := s0S_ok (by omega) (fun j q => wf_kn (show wfM (mC h) from hmwc) j (by omega))
  refine qm_seg_ok (C := qc_108) (rt := some .int) rfl rfl (cuts := []) 400 _ _ _ _ ?_
  show qm_PW X 31 [.ref 1, .int a] h _
  refine ty_31 X h a trivial _ (fun r1 p2 => ?_)
  have o3 : (r1 = 0 ∨ r1 = 1) ∧ ((r1.toInt = 1 ∧ 0 ≤ a.toInt ∧ a.toInt / 10 < (h 1 6).toInt ∧ a.toInt % 10 < (h 1 6).toInt ∧ ¬ a.toInt / 10 = a.toInt % 10) ∨ (r1.toInt = 0 ∧ ¬ (0 ≤ a.toInt ∧ a.toInt / 10 < (h 1 6).toInt ∧ a.toInt % 10 < (h 1 6).toInt ∧ ¬ a.toInt / 10 = a.toInt % 10))) := p2
  clear p2
  show (¬ r1 = 0 → (qm_PW X 10 [.ref 32, .ref 1] h _)) ∧ (r1 = 0 → (Q (some (.int (-1 : Int32))) h))
  refine ⟨fun c4 => ?_, fun c5 => ?_⟩
  · have := ti_neK 0 rfl c4
    refine ty_10 X h  ⟨hm1, hmwc⟩ _ (fun g6 p7 => ?_)
    obtain ⟨p7_0, p7_1⟩ := p7
    have f8 : ∀ k, (k < 32 ∨ 33 < k) → g6 k = h k := fun k hk => (p7_0 k (by omega)).trans (rfl)
    have k9 : mq 1 g6 := by unfold mq; rw [p7_0 1 (by omega)]; exact hm1
    have k10 : mq 8 g6 := by unfold mq; rw [p7_0 8 (by omega)]; exact hm8
    have k11 : mq 15 g6 := by unfold mq; rw [p7_0 15 (by omega)]; exact hm15
    have k12 : sq g6 := by unfold sq; rw [p7_0 37 (by omega)]; exact hmsq
    have k13 : wc g6 := wf_tr2 hmwc (mC_of (fun k h1 h2 => p7_0 k (by omega)))
    have o14 : bgI (h 3) (h 4) (h 5) (h 1 7).toInt.toNat 16 (g6 33) := p7_1
    clear p7_1
    have okf_g6 : okS (fI (g6 33)) := bgI_ok o14 rfl hok
    show qm_PW X 17 [.ref 32] g6 _
    refine ty_17 X g6  okf_g6 _ (fun r15 g16 p17 => ?_)
    obtain ⟨p17_0, p17_1⟩ := p17
    have f18 : ∀ k, (k < 32 ∨ 33 < k) → g16 k = h k := fun k hk => (p17_0 k (by omega)).trans (f8 k hk)
    have k19 : mq 1 g16 := by unfold mq; rw [p17_0 1 (by omega)]; exact k9
    have k20 : mq 8 g16 := by unfold mq; rw [p17_0 8 (by omega)]; exact k10
    have k21 : mq 15 g16 := by unfold mq; rw [p17_0 15 (by omega)]; exact k11
    have k22 : sq g16 := by unfold sq; rw [p17_0 37 (by omega)]; exact k12
    have k23 : wc g16 := wf_tr2 k13 (mC_of (fun k h1 h2 => p17_0 k (by omega)))
    have o24 : r15.toInt = (rnT 12 (fI (g6 33))).1 ∧ ∀ j : Nat, j < 16 → ((g16 33) j).toInt = (rnT 12 (fI (g6 33))).2 j := p17_1
    clear p17_1
    have okf_g16 : okS (fI (g16 33)) := rn_okf okf_g6 o24.2
    have rns_g16 := rn_s0 o14 hok o24
    show ¬ (10 : Int32) = 0 ∧ (¬ (10 : Int32) = 0 ∧ (qm_PW X 11 [.ref 32, .int (a / 10), .int (a - a / 10 * 10)] g16 _))
    refine ⟨by decide, ?_⟩
    refine ⟨by decide, ?_⟩
    refine ty_11 X g16 (a / 10) (a - a / 10 * 10) (by have := ti_div (10 : Int32) 10 rfl a (by decide); have := ti_rem (10 : Int32) 10 rfl a (by decide); omega) _ (fun r25 p26 => ?_)
    have o27 : r25.toInt = (g16 33 (4 * (a / 10).toInt.toNat + (a - a / 10 * 10).toInt.toNat)).toInt := p26
    clear p26
    show Q (some (.int r25)) g16
    exact hq r25 g16 ⟨k19, k20, k21, k22, (fun k hk => f18 k hk), (by have := ti_div (10 : Int32) 10 rfl a (by decide); have := ti_rem (10 : Int32) 10 rfl a (by decide); show r25.toInt = qLeft a.toInt (mC h); have q1 := ti_div (10 : Int32) 10 rfl a (by decide) (by omega); have q2 := ti_rem (10 : Int32) 10 rfl a (by decide) (by omega); have oy9 := o27; rw [show 4 * (a / 10).toInt.toNat + (a - a / 10 * 10).toInt.toNat = 4 * (a.toInt / 10).toNat + (a.toInt % 10).toNat by omega] at oy9; exact oy9.trans ((rns_g16.2 _ (by omega)).trans (show qLeft a.toInt (mC h) = _ from left_ok (by omega)).symm))⟩
  · have := ti_eqK 0 rfl c5
    exact hq (-1 : Int32) h ⟨hm1, hm8, hm15, hmsq, (fun k hk => rfl), (by show (-1 : Int32).toInt = qLeft a.toInt (mC h); rw [ti_n1]; exact (show qLeft a.toInt (mC h) = _ from left_no (by omega)).symm)⟩
