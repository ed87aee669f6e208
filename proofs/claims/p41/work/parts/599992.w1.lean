-- ThreadBank$Memory.sameDebt(II)Z
set_option maxRecDepth 100000 in
set_option maxHeartbeats 4000000 in
theorem ty_49 (X : qm_X) (h : qm_H) (a : Int32) (b : Int32) (hp : mq 1 h) (Q : qm_Q) (hq : ∀ r : Int32, ((r = 0 ∨ r = 1) ∧ ((r.toInt = 1 ∧ (0 ≤ a.toInt ∧ a.toInt < (h 1 7).toInt) ∧ (0 ≤ b.toInt ∧ b.toInt < (h 1 7).toInt) ∧ (h 4 a.toInt.toNat).toInt = (h 4 b.toInt.toNat).toInt ∧ (h 5 a.toInt.toNat).toInt = (h 5 b.toInt.toNat).toInt) ∨ (r.toInt = 0 ∧ ¬ ((0 ≤ a.toInt ∧ a.toInt < (h 1 7).toInt) ∧ (0 ≤ b.toInt ∧ b.toInt < (h 1 7).toInt) ∧ (h 4 a.toInt.toNat).toInt = (h 4 b.toInt.toNat).toInt ∧ (h 5 a.toInt.toNat).toInt = (h 5 b.toInt.toNat).toInt)))) → Q (some (.int r)) h) : qm_PW X 49 [.ref 1, .int a, .int b] h Q := by
  have hm1 : mq 1 h := hp
  have ⟨⟨_, _⟩, ⟨_, _⟩, _, _⟩ := hm1
  refine qm_seg_ok (C := qc_49) (rt := some .boolean) rfl rfl (cuts := []) 400 _ _ _ _ ?_
  show qm_PW X 29 [.ref 1, .int a] h _
  refine ty_29 X h a trivial _ (fun r1 p2 => ?_)
  have o3 : (r1 = 0 ∨ r1 = 1) ∧ ((r1.toInt = 1 ∧ 0 ≤ a.toInt ∧ a.toInt < (h 1 7).toInt) ∨ (r1.toInt = 0 ∧ ¬ (0 ≤ a.toInt ∧ a.toInt < (h 1 7).toInt))) := p2
  clear p2
  show (r1 = 0 → (((0 : Int32) = 0 ∨ (0 : Int32) = 1) ∧ Q (some (.int 0)) h)) ∧ (¬ r1 = 0 → (qm_PW X 29 [.ref 1, .int b] h _))
  refine ⟨fun c4 => ?_, fun c5 => ?_⟩
  · have := ti_eqK 0 rfl c4
    exact ⟨Or.inl rfl, hq 0 (by have : (0 : Int32).toInt = 0 := rfl; show ((0 : Int32) = 0 ∨ (0 : Int32) = 1) ∧ (((0 : Int32).toInt = 1 ∧ (0 ≤ a.toInt ∧ a.toInt < (h 1 7).toInt) ∧ (0 ≤ b.toInt ∧ b.toInt < (h 1 7).toInt) ∧ (h 4 a.toInt.toNat).toInt = (h 4 b.toInt.toNat).toInt ∧ (h 5 a.toInt.toNat).toInt = (h 5 b.toInt.toNat).toInt) ∨ ((0 : Int32).toInt = 0 ∧ ¬ ((0 ≤ a.toInt ∧ a.toInt < (h 1 7).toInt) ∧ (0 ≤ b.toInt ∧ b.toInt < (h 1 7).toInt) ∧ (h 4 a.toInt.toNat).toInt = (h 4 b.toInt.toNat).toInt ∧ (h 5 a.toInt.toNat).toInt = (h 5 b.toInt.toNat).toInt))); first | exact ⟨Or.inr rfl, by omega⟩ | exact ⟨Or.inl rfl, by omega⟩)⟩
  · have := ti_neK 0 rfl c5
    refine ty_29 X h b trivial _ (fun r6 p7 => ?_)
    have o8 : (r6 = 0 ∨ r6 = 1) ∧ ((r6.toInt = 1 ∧ 0 ≤ b.toInt ∧ b.toInt < (h 1 7).toInt) ∨ (r6.toInt = 0 ∧ ¬ (0 ≤ b.toInt ∧ b.toInt < (h 1 7).toInt))) := p7
    clear p7
    show (r6 = 0 → (((0 : Int32) = 0 ∨ (0 : Int32) = 1) ∧ Q (some (.int 0)) h)) ∧ (¬ r6 = 0 → ((0 ≤ a.toInt ∧ a.toInt < 10) ∧ ((0 ≤ b.toInt ∧ b.toInt < 10) ∧ ((¬ (h 4 a.toInt.toNat) = (h 4 b.toInt.toNat) → (((0 : Int32) = 0 ∨ (0 : Int32) = 1) ∧ Q (some (.int 0)) h)) ∧ ((h 4 a.toInt.toNat) = (h 4 b.toInt.toNat) → ((0 ≤ a.toInt ∧ a.toInt < 10) ∧ ((0 ≤ b.toInt ∧ b.toInt < 10) ∧ ((¬ (h 5 a.toInt.toNat) = (h 5 b.toInt.toNat) → (((0 : Int32) = 0 ∨ (0 : Int32) = 1) ∧ Q (some (.int 0)) h)) ∧ ((h 5 a.toInt.toNat) = (h 5 b.toInt.toNat) → (((1 : Int32) = 0 ∨ (1 : Int32) = 1) ∧ Q (some (.int 1)) h))))))))))
    refine ⟨fun c9 => ?_, fun c10 => ?_⟩
    · have := ti_eqK 0 rfl c9
      exact ⟨Or.inl rfl, hq 0 (by have : (0 : Int32).toInt = 0 := rfl; show ((0 : Int32) = 0 ∨ (0 : Int32) = 1) ∧ (((0 : Int32).toInt = 1 ∧ (0 ≤ a.toInt ∧ a.toInt < (h 1 7).toInt) ∧ (0 ≤ b.toInt ∧ b.toInt < (h 1 7).toInt) ∧ (h 4 a.toInt.toNat).toInt = (h 4 b.toInt.toNat).toInt ∧ (h 5 a.toInt.toNat).toInt = (h 5 b.toInt.toNat).toInt) ∨ ((0 : Int32).toInt = 0 ∧ ¬ ((0 ≤ a.toInt ∧ a.toInt < (h 1 7).toInt) ∧ (0 ≤ b.toInt ∧ b.toInt < (h 1 7).toInt) ∧ (h 4 a.toInt.toNat).toInt = (h 4 b.toInt.toNat).toInt ∧ (h 5 a.toInt.toNat).toInt = (h 5 b.toInt.toNat).toInt))); first | exact ⟨Or.inr rfl, by omega⟩ | exact ⟨Or.inl rfl, by omega⟩)⟩
    · have := ti_neK 0 rfl c10
      refine ⟨(by omega), ?_⟩
      refine ⟨(by omega), ?_⟩
      refine ⟨fun c11 => ?_, fun c12 => ?_⟩
      · have : ¬ (h 4 a.toInt.toNat).toInt = (h 4 b.toInt.toNat).toInt := fun q => c11 (Int32.toInt_inj.mp q)
        exact ⟨Or.inl rfl, hq 0 (by have : (0 : Int32).toInt = 0 := rfl; show ((0 : Int32) = 0 ∨ (0 : Int32) = 1) ∧ (((0 : Int32).toInt = 1 ∧ (0 ≤ a.toInt ∧ a.toInt < (h 1 7).toInt) ∧ (0 ≤ b.toInt ∧ b.toInt < (h 1 7).toInt) ∧ (h 4 a.toInt.toNat).toInt = (h 4 b.toInt.toNat).toInt ∧ (h 5 a.toInt.toNat).toInt = (h 5 b.toInt.toNat).toInt) ∨ ((0 : Int32).toInt = 0 ∧ ¬ ((0 ≤ a.toInt ∧ a.toInt < (h 1 7).toInt) ∧ (0 ≤ b.toInt ∧ b.toInt < (h 1 7).toInt) ∧ (h 4 a.toInt.toNat).toInt = (h 4 b.toInt.toNat).toInt ∧ (h 5 a.toInt.toNat).toInt = (h 5 b.toInt.toNat).toInt))); first | exact ⟨Or.inr rfl, by omega⟩ | exact ⟨Or.inl rfl, by omega⟩)⟩
      · have : (h 4 a.toInt.toNat).toInt = (h 4 b.toInt.toNat).toInt := congrArg Int32.toInt c12
        refine ⟨(by omega), ?_⟩
        refine ⟨(by omega), ?_⟩
        refine ⟨fun c13 => ?_, fun c14 => ?_⟩
        · have : ¬ (h 5 a.toInt.toNat).toInt = (h 5 b.toInt.toNat).toInt := fun q => c13 (Int32.toInt_inj.mp q)
          exact ⟨Or.inl rfl, hq 0 (by have : (0 : Int32).toInt = 0 := rfl; show ((0 : Int32) = 0 ∨ (0 : Int32) = 1) ∧ (((0 : Int32).toInt = 1 ∧ (0 ≤ a.toInt ∧ a.toInt < (h 1 7).toInt) ∧ (0 ≤ b.toInt ∧ b.toInt < (h 1 7).toInt) ∧ (h 4 a.toInt.toNat).toInt = (h 4 b.toInt.toNat).toInt ∧ (h 5 a.toInt.toNat).toInt = (h 5 b.toInt.toNat).toInt) ∨ ((0 : Int32).toInt = 0 ∧ ¬ ((0 ≤ a.toInt ∧ a.toInt < (h 1 7).toInt) ∧ (0 ≤ b.toInt ∧ b.toInt < (h 1 7).toInt) ∧ (h 4 a.toInt.toNat).toInt = (h 4 b.toInt.toNat).toInt ∧ (h 5 a.toInt.toNat).toInt = (h 5 b.toInt.toNat).toInt))); first | exact ⟨Or.inr rfl, by omega⟩ | exact ⟨Or.inl rfl, by omega⟩)⟩
        · have : (h 5 a.toInt.toNat).toInt = (h 5 b.toInt.toNat).toInt := congrArg Int32.toInt c14
          exact ⟨Or.inr rfl, hq 1 (by have : (1 : Int32).toInt = 1 := rfl; show ((1 : Int32) = 0 ∨ (1 : Int32) = 1) ∧ (((1 : Int32).toInt = 1 ∧ (0 ≤ a.toInt ∧ a.toInt < (h 1 7).toInt) ∧ (0 ≤ b.toInt ∧ b.toInt < (h 1 7).toInt) ∧ (h 4 a.toInt.toNat).toInt = (h 4 b.toInt.toNat).toInt ∧ (h 5 a.toInt.toNat).toInt = (h 5 b.toInt.toNat).toInt) ∨ ((1 : Int32).toInt = 0 ∧ ¬ ((0 ≤ a.toInt ∧ a.toInt < (h 1 7).toInt) ∧ (0 ≤ b.toInt ∧ b.toInt < (h 1 7).toInt) ∧ (h 4 a.toInt.toNat).toInt = (h 4 b.toInt.toNat).toInt ∧ (h 5 a.toInt.toNat).toInt = (h 5 b.toInt.toNat).toInt))); first | exact ⟨Or.inr rfl, by omega⟩ | exact ⟨Or.inl rfl, by omega⟩)⟩
-- ThreadBank$Memory.originalsOf(I)I
set_option maxRecDepth 100000 in
set_option maxHeartbeats 4000000 in
theorem ty_50_c (X : qm_X) (h : qm_H) (a : Int32) (hp : mq 1 h ∧ (0 ≤ a.toInt ∧ a.toInt < (h 1 7).toInt)) (Q : qm_Q) (hq : ∀ r : Int32, (orI r (icF (h 3) (h 4) (h 5) a.toInt.toNat) a.toInt.toNat) → Q (some (.int r)) h) : ∀ n : Nat, (∀ (l2 : Int32) (l3 : Int32), ((0 ≤ l3.toInt ∧ l3.toInt ≤ a.toInt) ∧ orI l2 (icF (h 3) (h 4) (h 5) a.toInt.toNat) l3.toInt.toNat) → (10 - l3.toInt).toNat < n → qm_PA X 50 4 [(0, .ref 1), (1, .int a), (2, .int l2), (3, .int l3)] [] h Q) := by
  have hm1 : mq 1 h := hp.1
  have ⟨⟨_, _⟩, ⟨_, _⟩, _, _⟩ := hm1
  have hp0 : 0 ≤ a.toInt ∧ a.toInt < (h 1 7).toInt := hp.2
  intro n
  induction n with
  | zero => exact fun _ _ _ h0 => absurd h0 (Nat.not_lt_zero _)
  | succ n ih =>
    intro l2 l3 hi hr
    have ti_l3 := ti_rng l3
    refine qm_seg_ok (C := qc_50) (rt := some .int) rfl rfl (cuts := [(4, [0, 1, 2, 3])]) 400 _ _ _ _ ?_
    show (a.toInt ≤ l3.toInt → (Q (some (.int l2)) h)) ∧ (l3.toInt < a.toInt → (qm_PW X 49 [.ref 1, .int a, .int l3] h _))
    refine ⟨fun c1 => ?_, fun c2 => ?_⟩
    · exact hq l2 (by show orI l2 (icF (h 3) (h 4) (h 5) a.toInt.toNat) a.toInt.toNat; exact orI_to hi.2 (by omega))
    · refine ty_49 X h a l3 hm1 _ (fun r3 p4 => ?_)
      have o5 : (r3 = 0 ∨ r3 = 1) ∧ ((r3.toInt = 1 ∧ (0 ≤ a.toInt ∧ a.toInt < (h 1 7).toInt) ∧ (0 ≤ l3.toInt ∧ l3.toInt < (h 1 7).toInt) ∧ (h 4 a.toInt.toNat).toInt = (h 4 l3.toInt.toNat).toInt ∧ (h 5 a.toInt.toNat).toInt = (h 5 l3.toInt.toNat).toInt) ∨ (r3.toInt = 0 ∧ ¬ ((0 ≤ a.toInt ∧ a.toInt < (h 1 7).toInt) ∧ (0 ≤ l3.toInt ∧ l3.toInt < (h 1 7).toInt) ∧ (h 4 a.toInt.toNat).toInt = (h 4 l3.toInt.toNat).toInt ∧ (h 5 a.toInt.toNat).toInt = (h 5 l3.toInt.toNat).toInt))) := p4
      clear p4
      show (r3 = 0 → (qm_PA X 50 4 [(0, .ref 1), (1, .int a), (2, .int l2), (3, .int (l3 + 1))] [] h Q)) ∧ (¬ r3 = 0 → (qm_PW X 33 [.ref 1, .int a] h _))
      refine ⟨fun c6 => ?_, fun c7 => ?_⟩
      · have := ti_eqK 0 rfl c6
        exact ih l2 (l3 + 1) (by have := ti_addK l3 (1 : Int32) 1 rfl; have el3 : l3 = nI l3.toInt.toNat := nI_is (by omega) (by omega); have e9 : (l3 + 1).toInt.toNat = l3.toInt.toNat + 1 := (by omega); exact ⟨by omega, by rw [e9]; exact orI_n hi.2 (fun w => by have w1 := w.1; have w2 := w.2.1; omega)⟩) (by have := ti_addK l3 (1 : Int32) 1 rfl; omega)
      · have := ti_neK 0 rfl c7
        refine ty_33 X h a hm1 _ (fun r8 p9 => ?_)
        have o10 : ((0 ≤ a.toInt ∧ a.toInt < (h 1 7).toInt) ∧ r8.toInt = ((h 3 a.toInt.toNat) / 10).toInt) ∨ (¬ (0 ≤ a.toInt ∧ a.toInt < (h 1 7).toInt) ∧ r8.toInt = -4) := p9
        clear p9
        show qm_PW X 33 [.ref 1, .int l3] h _
        refine ty_33 X h l3 hm1 _ (fun r11 p12 => ?_)
        have o13 : ((0 ≤ l3.toInt ∧ l3.toInt < (h 1 7).toInt) ∧ r11.toInt = ((h 3 l3.toInt.toNat) / 10).toInt) ∨ (¬ (0 ≤ l3.toInt ∧ l3.toInt < (h 1 7).toInt) ∧ r11.toInt = -4) := p12
        clear p12
        show (r8 = r11 → (qm_PA X 50 4 [(0, .ref 1), (1, .int a), (2, .int l2), (3, .int (l3 + 1))] [] h Q)) ∧ (¬ r8 = r11 → (qm_PA X 50 4 [(0, .ref 1), (1, .int a), (2, .int (l2 ||| (1 <<< (l3 &&& 31)))), (3, .int (l3 + 1))] [] h Q))
        refine ⟨fun c14 => ?_, fun c15 => ?_⟩
        · exact ih l2 (l3 + 1) (by have := ti_addK l3 (1 : Int32) 1 rfl; have := ti_div (10 : Int32) 10 rfl (h 3 a.toInt.toNat) (by decide); have := ti_div (10 : Int32) 10 rfl (h 3 l3.toInt.toNat) (by decide); have el3 : l3 = nI l3.toInt.toNat := nI_is (by omega) (by omega); have e9 : (l3 + 1).toInt.toNat = l3.toInt.toNat + 1 := (by omega); have heq := congrArg Int32.toInt (show r8 = r11 from by assumption); exact ⟨by omega, by rw [e9]; exact orI_n hi.2 (fun w => w.2.2 (by omega))⟩) (by have := ti_addK l3 (1 : Int32) 1 rfl; have := ti_div (10 : Int32) 10 rfl (h 3 a.toInt.toNat) (by decide); have := ti_div (10 : Int32) 10 rfl (h 3 l3.toInt.toNat) (by decide); omega)
        · exact ih (l2 ||| (1 <<< (l3 &&& 31))) (l3 + 1) (by have := ti_addK l3 (1 : Int32) 1 rfl; have := ti_div (10 : Int32) 10 rfl (h 3 a.toInt.toNat) (by decide); have := ti_div (10 : Int32) 10 rfl (h 3 l3.toInt.toNat) (by decide); have el3 : l3 = nI l3.toInt.toNat := nI_is (by omega) (by omega); have e9 : (l3 + 1).toInt.toNat = l3.toInt.toNat + 1 := (by omega); have hne : ¬ r8.toInt = r11.toInt := (fun w => absurd (Int32.toInt_inj.mp w) (by assumption)); exact ⟨by omega, by rw [e9]; exact orI_y (x := l2) (P := icF (h 3) (h 4) (h 5) a.toInt.toNat) ⟨by omega, by omega, by omega⟩ (or_ne el3 (by omega))⟩) (by have := ti_addK l3 (1 : Int32) 1 rfl; have := ti_div (10 : Int32) 10 rfl (h 3 a.toInt.toNat) (by decide); have := ti_div (10 : Int32) 10 rfl (h 3 l3.toInt.toNat) (by decide); omega)
set_option maxRecDepth 100000 in
set_option maxHeartbeats 4000000 in
theorem ty_50 (X : qm_X) (h : qm_H) (a : Int32) (hp : mq 1 h ∧ (0 ≤ a.toInt ∧ a.toInt < (h 1 7).toInt)) (Q : qm_Q) (hq : ∀ r : Int32, (orI r (icF (h 3) (h 4) (h 5) a.toInt.toNat) a.toInt.toNat) → Q (some (.int r)) h) : qm_PW X 50 [.ref 1, .int a] h Q := by
  have hm1 : mq 1 h := hp.1
  have ⟨⟨_, _⟩, ⟨_, _⟩, _, _⟩ := hm1
  have hp0 : 0 ≤ a.toInt ∧ a.toInt < (h 1 7).toInt := hp.2
  refine qm_seg_ok (C := qc_50) (rt := some .int) rfl rfl (cuts := [(4, [0, 1, 2, 3])]) 400 _ _ _ _ ?_
  show qm_PA X 50 4 [(0, .ref 1), (1, .int a), (2, .int 0), (3, .int 0)] [] h Q
  exact (ty_50_c X h a hp Q hq _) (0 : Int32) (0 : Int32) (by have : (0 : Int32).toInt = 0 := rfl; exact ⟨by have : (0 : Int32).toInt = 0 := rfl; omega, orI_0 rfl⟩) (Nat.lt_succ_self _)
-- ThreadBank$Memory.isCopy(I)Z
set_option maxRecDepth 100000 in
set_option maxHeartbeats 4000000 in
theorem ty_51 (X : qm_X) (h : qm_H) (a : Int32) (hp : mq 1 h ∧ (0 ≤ a.toInt ∧ a.toInt < (h 1 7).toInt)) (Q : qm_Q) (hq : ∀ r : Int32, ((r = 0 ∨ r = 1) ∧ ((r.toInt = 1 ∧ icA (h 3) (h 4) (h 5) a.toInt.toNat) ∨ (r.toInt = 0 ∧ ¬ icA (h 3) (h 4) (h 5) a.toInt.toNat))) → Q (some (.int r)) h) : qm_PW X 51 [.ref 1, .int a] h Q := by
  have hm1 : mq 1 h := hp.1
  have ⟨⟨_, _⟩, ⟨_, _⟩, _, _⟩ := hm1
  have hp0 : 0 ≤ a.toInt ∧ a.toInt < (h 1 7).toInt := hp.2
  refine qm_seg_ok (C := qc_51) (rt := some .boolean) rfl rfl (cuts := []) 400 _ _ _ _ ?_
  show qm_PW X 50 [.ref 1, .int a] h _
  refine ty_50 X h a ⟨hm1, (by show 0 ≤ a.toInt ∧ a.toInt < (h 1 7).toInt; omega)⟩ _ (fun r1 p2 => ?_)
  have o3 : orI r1 (icF (h 3) (h 4) (h 5) a.toInt.toNat) a.toInt.toNat := p2
  clear p2
  show (r1 = 0 → (((0 : Int32) = 0 ∨ (0 : Int32) = 1) ∧ Q (some (.int 0)) h)) ∧ (¬ r1 = 0 → (((1 : Int32) = 0 ∨ (1 : Int32) = 1) ∧ Q (some (.int 1)) h))
  refine ⟨fun c4 => ?_, fun c5 => ?_⟩
  · exact ⟨Or.inl rfl, hq 0 (by have : (0 : Int32).toInt = 0 := rfl; show ((0 : Int32) = 0 ∨ (0 : Int32) = 1) ∧ (((0 : Int32).toInt = 1 ∧ icA (h 3) (h 4) (h 5) a.toInt.toNat) ∨ ((0 : Int32).toInt = 0 ∧ ¬ icA (h 3) (h 4) (h 5) a.toInt.toNat)); exact ⟨Or.inl rfl, Or.inr ⟨rfl, orI_no o3 (by assumption)⟩⟩)⟩
  · exact ⟨Or.inr rfl, hq 1 (by have : (1 : Int32).toInt = 1 := rfl; show ((1 : Int32) = 0 ∨ (1 : Int32) = 1) ∧ (((1 : Int32).toInt = 1 ∧ icA (h 3) (h 4) (h 5) a.toInt.toNat) ∨ ((1 : Int32).toInt = 0 ∧ ¬ icA (h 3) (h 4) (h 5) a.toInt.toNat)); exact ⟨Or.inr rfl, Or.inl ⟨rfl, orI_yes o3 (by assumption)⟩⟩)⟩
-- ThreadBank.thread(II)I
set_option maxRecDepth 100000 in
set_option maxHeartbeats 4000000 in
theorem ty_97 (X : qm_X) (h : qm_H) (a : Int32) (b : Int32) (hp : mq 1 h) (Q : qm_Q) (hq : ∀ r : Int32, (r.toInt = qThread a.toInt b.toInt (mC h)) → Q (some (.int r)) h) : qm_PW X 97 [.ref 0, .int a, .int b] h Q := by
  have hm1 : mq 1 h := hp
  have ⟨⟨_, _⟩, ⟨_, _⟩, _, _⟩ := hm1
  refine qm_seg_ok (C := qc_97) (rt := some .int) rfl rfl (cuts := []) 400 _ _ _ _ ?_
  show qm_PW X 29 [.ref 1, .int a] h _
  refine ty_29 X h a trivial _ (fun r1 p2 => ?_)
  have o3 : (r1 = 0 ∨ r1 = 1) ∧ ((r1.toInt = 1 ∧ 0 ≤ a.toInt ∧ a.toInt < (h 1 7).toInt) ∨ (r1.toInt = 0 ∧ ¬ (0 ≤ a.toInt ∧ a.toInt < (h 1 7).toInt))) := p2
  clear p2
  show (¬ r1 = 0 → (((b = 0 → ((0 ≤ a.toInt ∧ a.toInt < 10) ∧ (Q (some (.int (h 3 a.toInt.toNat))) h))) ∧ (¬ b = 0 → ((b = 1 → ((0 ≤ a.toInt ∧ a.toInt < 10) ∧ (Q (some (.int (h 4 a.toInt.toNat))) h))) ∧ (¬ b = 1 → ((b = 2 → ((0 ≤ a.toInt ∧ a.toInt < 10) ∧ (Q (some (.int (h 5 a.toInt.toNat))) h))) ∧ (¬ b = 2 → ((b = 3 → (qm_PW X 51 [.ref 1, .int a] h _)) ∧ (¬ b = 3 → (Q (some (.int (-1 : Int32))) h))))))))))) ∧ (r1 = 0 → (Q (some (.int (-1 : Int32))) h))
  refine ⟨fun c4 => ?_, fun c5 => ?_⟩
  · have := ti_neK 0 rfl c4
    refine ⟨fun c6 => ?_, fun c7 => ?_⟩
    · have := ti_eqK 0 rfl c6
      refine ⟨(by omega), ?_⟩
      exact hq (h 3 a.toInt.toNat) (by show (h 3 a.toInt.toNat).toInt = qThread a.toInt b.toInt (mC h); exact (show qThread a.toInt b.toInt (mC h) = _ from thread_0 (by omega) (by omega)).symm)
    · have := ti_neK 0 rfl c7
      refine ⟨fun c8 => ?_, fun c9 => ?_⟩
      · have := ti_eqK 1 rfl c8
        refine ⟨(by omega), ?_⟩
        exact hq (h 4 a.toInt.toNat) (by show (h 4 a.toInt.toNat).toInt = qThread a.toInt b.toInt (mC h); exact (show qThread a.toInt b.toInt (mC h) = _ from thread_1 (by omega) (by omega)).symm)
      · have := ti_neK 1 rfl c9
        refine ⟨fun c10 => ?_, fun c11 => ?_⟩
        · have := ti_eqK 2 rfl c10
          refine ⟨(by omega), ?_⟩
          exact hq (h 5 a.toInt.toNat) (by show (h 5 a.toInt.toNat).toInt = qThread a.toInt b.toInt (mC h); exact (show qThread a.toInt b.toInt (mC h) = _ from thread_2 (by omega) (by omega)).symm)
        · have := ti_neK 2 rfl c11
          refine ⟨fun c12 => ?_, fun c13 => ?_⟩
          · have := ti_eqK 3 rfl c12
            refine ty_51 X h a ⟨hm1, (by show 0 ≤ a.toInt ∧ a.toInt < (h 1 7).toInt; omega)⟩ _ (fun r14 p15 => ?_)
            have o16 : (r14 = 0 ∨ r14 = 1) ∧ ((r14.toInt = 1 ∧ icA (h 3) (h 4) (h 5) a.toInt.toNat) ∨ (r14.toInt = 0 ∧ ¬ icA (h 3) (h 4) (h 5) a.toInt.toNat)) := p15
            clear p15
            show (r14 = 0 → (Q (some (.int 0)) h)) ∧ (¬ r14 = 0 → (Q (some (.int 1)) h))
            refine ⟨fun c17 => ?_, fun c18 => ?_⟩
            · have := ti_eqK 0 rfl c17
              exact hq 0 (by have : (0 : Int32).toInt = 0 := rfl; show (0 : Int32).toInt = qThread a.toInt b.toInt (mC h); exact (show qThread a.toInt b.toInt (mC h) = _ from thread_3 (by omega) (by omega) (by have q := o16.2; obtain q | q := q; exact Or.inl ⟨by have := q.1; omega, q.2⟩; exact Or.inr ⟨by have := q.1; omega, q.2⟩)).symm)
            · have := ti_neK 0 rfl c18
              exact hq 1 (by have : (1 : Int32).toInt = 1 := rfl; show (1 : Int32).toInt = qThread a.toInt b.toInt (mC h); exact (show qThread a.toInt b.toInt (mC h) = _ from thread_3 (by omega) (by omega) (by have q := o16.2; obtain q | q := q; exact Or.inl ⟨by have := q.1; omega, q.2⟩; exact Or.inr ⟨by have := q.1; omega, q.2⟩)).symm)
          · have := ti_neK 3 rfl c13
            exact hq (-1 : Int32) (by show (-1 : Int32).toInt = qThread a.toInt b.toInt (mC h); rw [ti_n1]; exact (thread_no (M := mC h) (show ¬ (0 ≤ a.toInt ∧ a.toInt < (h 1 7).toInt) ∨ (¬ b.toInt = 0 ∧ ¬ b.toInt = 1 ∧ ¬ b.toInt = 2 ∧ ¬ b.toInt = 3) by omega)).symm)
  · have := ti_eqK 0 rfl c5
    exact hq (-1 : Int32) (by show (-1 : Int32).toInt = qThread a.toInt b.toInt (mC h); rw [ti_n1]; exact (thread_no (M := mC h) (show ¬ (0 ≤ a.toInt ∧ a.toInt < (h 1 7).toInt) ∨ (¬ b.toInt = 0 ∧ ¬ b.toInt = 1 ∧ ¬ b.toInt = 2 ∧ ¬ b.toInt = 3) by omega)).symm)
