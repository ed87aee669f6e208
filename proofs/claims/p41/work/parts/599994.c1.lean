-- ThreadBank$Memory.isFirstOfDebt(I)Z
set_option maxRecDepth 100000 in
set_option maxHeartbeats 4000000 in
theorem ty_59_c (X : qm_X) (h : qm_H) (a : Int32) (hp : mq 1 h ∧ (0 ≤ a.toInt ∧ a.toInt < (h 1 7).toInt)) (Q : qm_Q) (hq : ∀ r : Int32, ((r = 0 ∨ r = 1) ∧ ((r.toInt = 1 ∧ fsA (h 4) (h 5) a.toInt.toNat) ∨ (r.toInt = 0 ∧ ¬ fsA (h 4) (h 5) a.toInt.toNat))) → Q (some (.int r)) h) : ∀ n : Nat, (∀ (l2 : Int32), ((0 ≤ l2.toInt ∧ l2.toInt ≤ a.toInt) ∧ ∀ u : Nat, (u : Int) < l2.toInt → ¬ sdF (h 4) (h 5) a.toInt.toNat u) → (10 - l2.toInt).toNat < n → qm_PA X 59 2 [(0, .ref 1), (1, .int a), (2, .int l2)] [] h Q) := by
  have hm1 : mq 1 h := hp.1
  have ⟨⟨_, _⟩, ⟨_, _⟩, _, _⟩ := hm1
  have hp0 : 0 ≤ a.toInt ∧ a.toInt < (h 1 7).toInt := hp.2
  intro n
  induction n with
  | zero => exact fun _ _ h0 => absurd h0 (Nat.not_lt_zero _)
  | succ n ih =>
    intro l2 hi hr
    have ti_l2 := ti_rng l2
    refine qm_seg_ok (C := qc_59) (rt := some .boolean) rfl rfl (cuts := [(2, [0, 1, 2])]) 400 _ _ _ _ ?_
    show (a.toInt ≤ l2.toInt → (((1 : Int32) = 0 ∨ (1 : Int32) = 1) ∧ Q (some (.int 1)) h)) ∧ (l2.toInt < a.toInt → (qm_PW X 49 [.ref 1, .int a, .int l2] h _))
    refine ⟨fun c1 => ?_, fun c2 => ?_⟩
    · exact ⟨Or.inr rfl, hq 1 (by have : (1 : Int32).toInt = 1 := rfl; show ((1 : Int32) = 0 ∨ (1 : Int32) = 1) ∧ (((1 : Int32).toInt = 1 ∧ fsA (h 4) (h 5) a.toInt.toNat) ∨ ((1 : Int32).toInt = 0 ∧ ¬ fsA (h 4) (h 5) a.toInt.toNat)); exact ⟨Or.inr rfl, Or.inl ⟨rfl, fun w => w.elim fun u z => hi.2 u (by omega) z.2⟩⟩)⟩
    · refine ty_49 X h a l2 hm1 _ (fun r3 p4 => ?_)
      have o5 : (r3 = 0 ∨ r3 = 1) ∧ ((r3.toInt = 1 ∧ (0 ≤ a.toInt ∧ a.toInt < (h 1 7).toInt) ∧ (0 ≤ l2.toInt ∧ l2.toInt < (h 1 7).toInt) ∧ (h 4 a.toInt.toNat).toInt = (h 4 l2.toInt.toNat).toInt ∧ (h 5 a.toInt.toNat).toInt = (h 5 l2.toInt.toNat).toInt) ∨ (r3.toInt = 0 ∧ ¬ ((0 ≤ a.toInt ∧ a.toInt < (h 1 7).toInt) ∧ (0 ≤ l2.toInt ∧ l2.toInt < (h 1 7).toInt) ∧ (h 4 a.toInt.toNat).toInt = (h 4 l2.toInt.toNat).toInt ∧ (h 5 a.toInt.toNat).toInt = (h 5 l2.toInt.toNat).toInt))) := p4
      clear p4
      show (r3 = 0 → (qm_PA X 59 2 [(0, .ref 1), (1, .int a), (2, .int (l2 + 1))] [] h Q)) ∧ (¬ r3 = 0 → (((0 : Int32) = 0 ∨ (0 : Int32) = 1) ∧ Q (some (.int 0)) h))
      refine ⟨fun c6 => ?_, fun c7 => ?_⟩
      · have := ti_eqK 0 rfl c6
        exact ih (l2 + 1) (by have := ti_addK l2 (1 : Int32) 1 rfl; exact ⟨by omega, fun u hu => if w : (u : Int) < l2.toInt then hi.2 u w else (by rw [show u = l2.toInt.toNat by omega]; intro z; unfold sdF at z; omega)⟩) (by have := ti_addK l2 (1 : Int32) 1 rfl; omega)
      · have := ti_neK 0 rfl c7
        exact ⟨Or.inl rfl, hq 0 (by have : (0 : Int32).toInt = 0 := rfl; show ((0 : Int32) = 0 ∨ (0 : Int32) = 1) ∧ (((0 : Int32).toInt = 1 ∧ fsA (h 4) (h 5) a.toInt.toNat) ∨ ((0 : Int32).toInt = 0 ∧ ¬ fsA (h 4) (h 5) a.toInt.toNat)); exact ⟨Or.inl rfl, Or.inr ⟨rfl, fun w => w ⟨l2.toInt.toNat, by omega, by unfold sdF; omega⟩⟩⟩)⟩
set_option maxRecDepth 100000 in
set_option maxHeartbeats 4000000 in
theorem ty_59 (X : qm_X) (h : qm_H) (a : Int32) (hp : mq 1 h ∧ (0 ≤ a.toInt ∧ a.toInt < (h 1 7).toInt)) (Q : qm_Q) (hq : ∀ r : Int32, ((r = 0 ∨ r = 1) ∧ ((r.toInt = 1 ∧ fsA (h 4) (h 5) a.toInt.toNat) ∨ (r.toInt = 0 ∧ ¬ fsA (h 4) (h 5) a.toInt.toNat))) → Q (some (.int r)) h) : qm_PW X 59 [.ref 1, .int a] h Q := by
  have hm1 : mq 1 h := hp.1
  have ⟨⟨_, _⟩, ⟨_, _⟩, _, _⟩ := hm1
  have hp0 : 0 ≤ a.toInt ∧ a.toInt < (h 1 7).toInt := hp.2
  refine qm_seg_ok (C := qc_59) (rt := some .boolean) rfl rfl (cuts := [(2, [0, 1, 2])]) 400 _ _ _ _ ?_
  show qm_PA X 59 2 [(0, .ref 1), (1, .int a), (2, .int 0)] [] h Q
  exact (ty_59_c X h a hp Q hq _) (0 : Int32) (by have : (0 : Int32).toInt = 0 := rfl; exact ⟨by have : (0 : Int32).toInt = 0 := rfl; omega, fun u hu => absurd hu (by have : (0 : Int32).toInt = 0 := rfl; omega)⟩) (Nat.lt_succ_self _)
-- ThreadBank$Memory.debts()I
set_option maxRecDepth 100000 in
set_option maxHeartbeats 4000000 in
theorem ty_60_c (X : qm_X) (h : qm_H) (hp : mq 1 h) (Q : qm_Q) (hq : ∀ r : Int32, (r.toInt = cntP (fsA (h 4) (h 5)) (h 1 7).toInt.toNat) → Q (some (.int r)) h) : ∀ n : Nat, (∀ (l1 : Int32) (l2 : Int32), ((0 ≤ l2.toInt ∧ l2.toInt ≤ (h 1 7).toInt) ∧ l1.toInt = cntP (fsA (h 4) (h 5)) l2.toInt.toNat) → (10 - l2.toInt).toNat < n → qm_PA X 60 4 [(0, .ref 1), (1, .int l1), (2, .int l2)] [] h Q) := by
  have hm1 : mq 1 h := hp
  have ⟨⟨_, _⟩, ⟨_, _⟩, _, _⟩ := hm1
  intro n
  induction n with
  | zero => exact fun _ _ _ h0 => absurd h0 (Nat.not_lt_zero _)
  | succ n ih =>
    intro l1 l2 hi hr
    have ti_l2 := ti_rng l2
    have hcr := cntP_rng (P := fsA (h 4) (h 5)) (n := l2.toInt.toNat)
    refine qm_seg_ok (C := qc_60) (rt := some .int) rfl rfl (cuts := [(4, [0, 1, 2])]) 400 _ _ _ _ ?_
    show ((h 1 7).toInt ≤ l2.toInt → (Q (some (.int l1)) h)) ∧ (l2.toInt < (h 1 7).toInt → (qm_PW X 59 [.ref 1, .int l2] h _))
    refine ⟨fun c1 => ?_, fun c2 => ?_⟩
    · exact hq l1 (by show l1.toInt = cntP (fsA (h 4) (h 5)) (h 1 7).toInt.toNat; rw [show (h 1 7).toInt.toNat = l2.toInt.toNat by omega]; exact hi.2)
    · refine ty_59 X h l2 ⟨hm1, (by show 0 ≤ l2.toInt ∧ l2.toInt < (h 1 7).toInt; omega)⟩ _ (fun r3 p4 => ?_)
      have o5 : (r3 = 0 ∨ r3 = 1) ∧ ((r3.toInt = 1 ∧ fsA (h 4) (h 5) l2.toInt.toNat) ∨ (r3.toInt = 0 ∧ ¬ fsA (h 4) (h 5) l2.toInt.toNat)) := p4
      clear p4
      show (r3 = 0 → (qm_PA X 60 4 [(0, .ref 1), (1, .int l1), (2, .int (l2 + 1))] [] h Q)) ∧ (¬ r3 = 0 → (qm_PA X 60 4 [(0, .ref 1), (1, .int (l1 + 1)), (2, .int (l2 + 1))] [] h Q))
      refine ⟨fun c6 => ?_, fun c7 => ?_⟩
      · have := ti_eqK 0 rfl c6
        exact ih l1 (l2 + 1) (by have := ti_addK l2 (1 : Int32) 1 rfl; have hP := (o5.2.resolve_left (fun w => absurd w.1 (by omega))).2; exact ⟨by omega, by rw [show (l2 + 1).toInt.toNat = l2.toInt.toNat + 1 by omega, cntP_f hP]; omega⟩) (by have := ti_addK l2 (1 : Int32) 1 rfl; omega)
      · have := ti_neK 0 rfl c7
        exact ih (l1 + 1) (l2 + 1) (by have := ti_addK l2 (1 : Int32) 1 rfl; have := ti_addK l1 (1 : Int32) 1 rfl; have hP := (o5.2.resolve_right (fun w => absurd w.1 (by omega))).2; exact ⟨by omega, by rw [show (l2 + 1).toInt.toNat = l2.toInt.toNat + 1 by omega, cntP_t hP]; omega⟩) (by have := ti_addK l2 (1 : Int32) 1 rfl; omega)
set_option maxRecDepth 100000 in
set_option maxHeartbeats 4000000 in
theorem ty_60 (X : qm_X) (h : qm_H) (hp : mq 1 h) (Q : qm_Q) (hq : ∀ r : Int32, (r.toInt = cntP (fsA (h 4) (h 5)) (h 1 7).toInt.toNat) → Q (some (.int r)) h) : qm_PW X 60 [.ref 1] h Q := by
  have hm1 : mq 1 h := hp
  have ⟨⟨_, _⟩, ⟨_, _⟩, _, _⟩ := hm1
  refine qm_seg_ok (C := qc_60) (rt := some .int) rfl rfl (cuts := [(4, [0, 1, 2])]) 400 _ _ _ _ ?_
  show qm_PA X 60 4 [(0, .ref 1), (1, .int 0), (2, .int 0)] [] h Q
  exact (ty_60_c X h hp Q hq _) (0 : Int32) (0 : Int32) (by have : (0 : Int32).toInt = 0 := rfl; exact ⟨by have : (0 : Int32).toInt = 0 := rfl; omega, rfl⟩) (Nat.lt_succ_self _)
-- ThreadBank$Memory.copiesTied()I
set_option maxRecDepth 100000 in
set_option maxHeartbeats 4000000 in
theorem ty_52_c (X : qm_X) (h : qm_H) (hp : mq 1 h) (Q : qm_Q) (hq : ∀ r : Int32, (r.toInt = cntP (icA (h 3) (h 4) (h 5)) (h 1 7).toInt.toNat) → Q (some (.int r)) h) : ∀ n : Nat, (∀ (l1 : Int32) (l2 : Int32), ((0 ≤ l2.toInt ∧ l2.toInt ≤ (h 1 7).toInt) ∧ l1.toInt = cntP (icA (h 3) (h 4) (h 5)) l2.toInt.toNat) → (10 - l2.toInt).toNat < n → qm_PA X 52 4 [(0, .ref 1), (1, .int l1), (2, .int l2)] [] h Q) := by
  have hm1 : mq 1 h := hp
  have ⟨⟨_, _⟩, ⟨_, _⟩, _, _⟩ := hm1
  intro n
  induction n with
  | zero => exact fun _ _ _ h0 => absurd h0 (Nat.not_lt_zero _)
  | succ n ih =>
    intro l1 l2 hi hr
    have ti_l2 := ti_rng l2
    have hcr := cntP_rng (P := icA (h 3) (h 4) (h 5)) (n := l2.toInt.toNat)
    refine qm_seg_ok (C := qc_52) (rt := some .int) rfl rfl (cuts := [(4, [0, 1, 2])]) 400 _ _ _ _ ?_
    show ((h 1 7).toInt ≤ l2.toInt → (Q (some (.int l1)) h)) ∧ (l2.toInt < (h 1 7).toInt → (qm_PW X 51 [.ref 1, .int l2] h _))
    refine ⟨fun c1 => ?_, fun c2 => ?_⟩
    · exact hq l1 (by show l1.toInt = cntP (icA (h 3) (h 4) (h 5)) (h 1 7).toInt.toNat; rw [show (h 1 7).toInt.toNat = l2.toInt.toNat by omega]; exact hi.2)
    · refine ty_51 X h l2 ⟨hm1, (by show 0 ≤ l2.toInt ∧ l2.toInt < (h 1 7).toInt; omega)⟩ _ (fun r3 p4 => ?_)
      have o5 : (r3 = 0 ∨ r3 = 1) ∧ ((r3.toInt = 1 ∧ icA (h 3) (h 4) (h 5) l2.toInt.toNat) ∨ (r3.toInt = 0 ∧ ¬ icA (h 3) (h 4) (h 5) l2.toInt.toNat)) := p4
      clear p4
      show (r3 = 0 → (qm_PA X 52 4 [(0, .ref 1), (1, .int l1), (2, .int (l2 + 1))] [] h Q)) ∧ (¬ r3 = 0 → (qm_PA X 52 4 [(0, .ref 1), (1, .int (l1 + 1)), (2, .int (l2 + 1))] [] h Q))
      refine ⟨fun c6 => ?_, fun c7 => ?_⟩
      · have := ti_eqK 0 rfl c6
        exact ih l1 (l2 + 1) (by have := ti_addK l2 (1 : Int32) 1 rfl; have hP := (o5.2.resolve_left (fun w => absurd w.1 (by omega))).2; exact ⟨by omega, by rw [show (l2 + 1).toInt.toNat = l2.toInt.toNat + 1 by omega, cntP_f hP]; omega⟩) (by have := ti_addK l2 (1 : Int32) 1 rfl; omega)
      · have := ti_neK 0 rfl c7
        exact ih (l1 + 1) (l2 + 1) (by have := ti_addK l2 (1 : Int32) 1 rfl; have := ti_addK l1 (1 : Int32) 1 rfl; have hP := (o5.2.resolve_right (fun w => absurd w.1 (by omega))).2; exact ⟨by omega, by rw [show (l2 + 1).toInt.toNat = l2.toInt.toNat + 1 by omega, cntP_t hP]; omega⟩) (by have := ti_addK l2 (1 : Int32) 1 rfl; omega)
set_option maxRecDepth 100000 in
set_option maxHeartbeats 4000000 in
theorem ty_52 (X : qm_X) (h : qm_H) (hp : mq 1 h) (Q : qm_Q) (hq : ∀ r : Int32, (r.toInt = cntP (icA (h 3) (h 4) (h 5)) (h 1 7).toInt.toNat) → Q (some (.int r)) h) : qm_PW X 52 [.ref 1] h Q := by
  have hm1 : mq 1 h := hp
  have ⟨⟨_, _⟩, ⟨_, _⟩, _, _⟩ := hm1
  refine qm_seg_ok (C := qc_52) (rt := some .int) rfl rfl (cuts := [(4, [0, 1, 2])]) 400 _ _ _ _ ?_
  show qm_PA X 52 4 [(0, .ref 1), (1, .int 0), (2, .int 0)] [] h Q
  exact (ty_52_c X h hp Q hq _) (0 : Int32) (0 : Int32) (by have : (0 : Int32).toInt = 0 := rfl; exact ⟨by have : (0 : Int32).toInt = 0 := rfl; omega, rfl⟩) (Nat.lt_succ_self _)
-- ThreadBank.count(I)I
set_option maxRecDepth 100000 in
set_option maxHeartbeats 4000000 in
theorem ty_129 (X : qm_X) (h : qm_H) (a : Int32) (hp : mq 1 h) (Q : qm_Q) (hq : ∀ r : Int32, (r.toInt = qCount a.toInt (mC h) (h 22) (h 23 2).toInt (svC h 0)) → Q (some (.int r)) h) : qm_PW X 129 [.ref 0, .int a] h Q := by
  have hm1 : mq 1 h := hp
  have ⟨⟨_, _⟩, ⟨_, _⟩, _, _⟩ := hm1
  refine qm_seg_ok (C := qc_129) (rt := some .int) rfl rfl (cuts := []) 400 _ _ _ _ ?_
  show ((a = 0 → (qm_PW X 60 [.ref 1] h _)) ∧ (¬ a = 0 → ((a = 1 → (qm_PW X 52 [.ref 1] h _)) ∧ (¬ a = 1 → ((a = 2 → (Q (some (.int (h 1 9))) h)) ∧ (¬ a = 2 → ((a = 3 → ((0 ≤ (0 : Int) ∧ (0 : Int) < 2) ∧ (((h 22 0) = 0 → ((0 ≤ (1 : Int) ∧ (1 : Int) < 2) ∧ (((h 22 1) = 0 → (Q (some (.int (0 + 0))) h)) ∧ (¬ (h 22 1) = 0 → (Q (some (.int (0 + 1))) h))))) ∧ (¬ (h 22 0) = 0 → ((0 ≤ (1 : Int) ∧ (1 : Int) < 2) ∧ (((h 22 1) = 0 → (Q (some (.int (1 + 0))) h)) ∧ (¬ (h 22 1) = 0 → (Q (some (.int (1 + 1))) h)))))))) ∧ (¬ a = 3 → ((a = 4 → (Q (some (.int (h 23 2))) h)) ∧ (¬ a = 4 → ((a = 5 → (qm_PW X 67 [.ref 34, .int 0] h _)) ∧ (¬ a = 5 → (Q (some (.int (-1 : Int32))) h)))))))))))))
  refine ⟨fun c1 => ?_, fun c2 => ?_⟩
  · have := ti_eqK 0 rfl c1
    refine ty_60 X h  hm1 _ (fun r3 p4 => ?_)
    have o5 : r3.toInt = cntP (fsA (h 4) (h 5)) (h 1 7).toInt.toNat := p4
    clear p4
    show Q (some (.int r3)) h
    exact hq r3 (by show r3.toInt = qCount a.toInt (mC h) (h 22) (h 23 2).toInt (svC h 0); exact (o5).trans (show qCount a.toInt (mC h) (h 22) (h 23 2).toInt (svC h 0) = _ from count_0 (by omega)).symm)
  · have := ti_neK 0 rfl c2
    refine ⟨fun c6 => ?_, fun c7 => ?_⟩
    · have := ti_eqK 1 rfl c6
      refine ty_52 X h  hm1 _ (fun r8 p9 => ?_)
      have o10 : r8.toInt = cntP (icA (h 3) (h 4) (h 5)) (h 1 7).toInt.toNat := p9
      clear p9
      show Q (some (.int r8)) h
      exact hq r8 (by show r8.toInt = qCount a.toInt (mC h) (h 22) (h 23 2).toInt (svC h 0); exact (o10).trans (show qCount a.toInt (mC h) (h 22) (h 23 2).toInt (svC h 0) = _ from count_1 (by omega)).symm)
    · have := ti_neK 1 rfl c7
      refine ⟨fun c11 => ?_, fun c12 => ?_⟩
      · have := ti_eqK 2 rfl c11
        exact hq (h 1 9) (by show (h 1 9).toInt = qCount a.toInt (mC h) (h 22) (h 23 2).toInt (svC h 0); exact (show qCount a.toInt (mC h) (h 22) (h 23 2).toInt (svC h 0) = _ from count_2 (M := mC h) (by omega)).symm)
      · have := ti_neK 2 rfl c12
        refine ⟨fun c13 => ?_, fun c14 => ?_⟩
        · have := ti_eqK 3 rfl c13
          refine ⟨by decide, ?_⟩
          refine ⟨fun c15 => ?_, fun c16 => ?_⟩
          · have := ti_eqK 0 rfl c15
            refine ⟨by decide, ?_⟩
            refine ⟨fun c17 => ?_, fun c18 => ?_⟩
            · have := ti_eqK 0 rfl c17
              exact hq (0 + 0) (by show ((0 + 0) : Int32).toInt = qCount a.toInt (mC h) (h 22) (h 23 2).toInt (svC h 0); exact (show _ = ifP (h 22 0 = 0) 0 1 + ifP (h 22 1 = 0) 0 1 by rw [ifP_t (show h 22 0 = 0 from by assumption), ifP_t (show h 22 1 = 0 from by assumption)]; decide).trans (show qCount a.toInt (mC h) (h 22) (h 23 2).toInt (svC h 0) = _ from count_3 (by omega)).symm)
            · have := ti_neK 0 rfl c18
              exact hq (0 + 1) (by show ((0 + 1) : Int32).toInt = qCount a.toInt (mC h) (h 22) (h 23 2).toInt (svC h 0); exact (show _ = ifP (h 22 0 = 0) 0 1 + ifP (h 22 1 = 0) 0 1 by rw [ifP_t (show h 22 0 = 0 from by assumption), ifP_f (show ¬ h 22 1 = 0 from by assumption)]; decide).trans (show qCount a.toInt (mC h) (h 22) (h 23 2).toInt (svC h 0) = _ from count_3 (by omega)).symm)
          · have := ti_neK 0 rfl c16
            refine ⟨by decide, ?_⟩
            refine ⟨fun c19 => ?_, fun c20 => ?_⟩
            · have := ti_eqK 0 rfl c19
              exact hq (1 + 0) (by show ((1 + 0) : Int32).toInt = qCount a.toInt (mC h) (h 22) (h 23 2).toInt (svC h 0); exact (show _ = ifP (h 22 0 = 0) 0 1 + ifP (h 22 1 = 0) 0 1 by rw [ifP_f (show ¬ h 22 0 = 0 from by assumption), ifP_t (show h 22 1 = 0 from by assumption)]; decide).trans (show qCount a.toInt (mC h) (h 22) (h 23 2).toInt (svC h 0) = _ from count_3 (by omega)).symm)
            · have := ti_neK 0 rfl c20
              exact hq (1 + 1) (by show ((1 + 1) : Int32).toInt = qCount a.toInt (mC h) (h 22) (h 23 2).toInt (svC h 0); exact (show _ = ifP (h 22 0 = 0) 0 1 + ifP (h 22 1 = 0) 0 1 by rw [ifP_f (show ¬ h 22 0 = 0 from by assumption), ifP_f (show ¬ h 22 1 = 0 from by assumption)]; decide).trans (show qCount a.toInt (mC h) (h 22) (h 23 2).toInt (svC h 0) = _ from count_3 (by omega)).symm)
        · have := ti_neK 3 rfl c14
          refine ⟨fun c21 => ?_, fun c22 => ?_⟩
          · have := ti_eqK 4 rfl c21
            exact hq (h 23 2) (by show (h 23 2).toInt = qCount a.toInt (mC h) (h 22) (h 23 2).toInt (svC h 0); exact (show qCount a.toInt (mC h) (h 22) (h 23 2).toInt (svC h 0) = _ from count_4 (by omega)).symm)
          · have := ti_neK 4 rfl c22
            refine ⟨fun c23 => ?_, fun c24 => ?_⟩
            · have := ti_eqK 5 rfl c23
              refine ty_67 X h (0 : Int32) trivial _ (fun r25 p26 => ?_)
              have o27 : (r25 = 0 ∨ r25 = 1) ∧ ((r25.toInt = 1 ∧ ((0 : Int32).toInt < 0 ∨ 4 ≤ (0 : Int32).toInt ∨ (h 37 (0 : Int32).toInt.toNat).toInt = -4)) ∨ (r25.toInt = 0 ∧ ¬ (((0 : Int32).toInt < 0 ∨ 4 ≤ (0 : Int32).toInt ∨ (h 37 (0 : Int32).toInt.toNat).toInt = -4)))) := p26
              clear p26
              show (r25 = 0 → ((0 ≤ (0 : Int) ∧ (0 : Int) < 4) ∧ (Q (some (.int (h 37 0))) h))) ∧ (¬ r25 = 0 → (Q (some (.int (-4 : Int32))) h))
              refine ⟨fun c28 => ?_, fun c29 => ?_⟩
              · have := ti_eqK 0 rfl c28
                refine ⟨by decide, ?_⟩
                exact hq (h 37 0) (by have : (0 : Int32).toInt = 0 := rfl; show (h 37 0).toInt = qCount a.toInt (mC h) (h 22) (h 23 2).toInt (svC h 0); have h00 : (0 : Int32).toInt = 0 := rfl; exact (svC_sz (h := h) (k := 0) (Or.inr ⟨(show ¬ (h 37 0).toInt = -4 by have z := o27.2; rw [show (0 : Int32).toInt.toNat = 0 from rfl] at z; omega), rfl⟩)).trans (show qCount a.toInt (mC h) (h 22) (h 23 2).toInt (svC h 0) = _ from count_5 (by omega)).symm)
              · have := ti_neK 0 rfl c29
                exact hq (-4 : Int32) (by have : (0 : Int32).toInt = 0 := rfl; show (-4 : Int32).toInt = qCount a.toInt (mC h) (h 22) (h 23 2).toInt (svC h 0); rw [ti_n4]; have h00 : (0 : Int32).toInt = 0 := rfl; exact (svC_sz (h := h) (k := 0) (Or.inl ⟨(show (h 37 0).toInt = -4 by have z := o27.2; rw [show (0 : Int32).toInt.toNat = 0 from rfl] at z; omega), rfl⟩)).trans (show qCount a.toInt (mC h) (h 22) (h 23 2).toInt (svC h 0) = _ from count_5 (by omega)).symm)
            · have := ti_neK 5 rfl c24
              exact hq (-1 : Int32) (by show (-1 : Int32).toInt = qCount a.toInt (mC h) (h 22) (h 23 2).toInt (svC h 0); rw [ti_n1]; exact (show qCount a.toInt (mC h) (h 22) (h 23 2).toInt (svC h 0) = _ from count_d (by omega)).symm)
