-- ThreadBank.greatestShared(JJ)J
set_option maxRecDepth 100000 in
set_option maxHeartbeats 4000000 in
theorem sf_140_c (X : qm_X) (h : qm_H) (a : Int64) (b : Int64) (hp : True) (Q : qm_Q) (hq : ∀ r : Int64, (True) → Q (some (.long r)) h) : ∀ n : Nat, (∀ (l4 : Int64) (l6 : Int64) (l8 : Int32), (0 ≤ l8.toInt ∧ l8.toInt ≤ 100) → (100 - l8.toInt).toNat < n → qm_PA X 140 9 [(0, .long a), (2, .long b), (4, .long l4), (6, .long l6), (8, .int l8)] [] h Q) := by
  intro n
  induction n with
  | zero => exact fun _ _ _ _ h0 => absurd h0 (Nat.not_lt_zero _)
  | succ n ih =>
    intro l4 l6 l8 hi hr
    refine qm_seg_ok (C := qc_140) (rt := some .long) rfl rfl (cuts := [(9, [0, 2, 4, 6, 8])]) 400 _ _ _ _ ?_
    show (100 ≤ l8.toInt → (Q (some (.long l4)) h)) ∧ (l8.toInt < 100 → (((lg_cmp l6 0) = 0 → (Q (some (.long l4)) h)) ∧ (¬ (lg_cmp l6 0) = 0 → (¬ l6 = 0 ∧ (qm_PA X 140 9 [(0, .long a), (2, .long b), (4, .long l6), (6, .long (l4 - l4 / l6 * l6)), (8, .int (l8 + 1))] [] h Q)))))
    refine ⟨fun c1 => ?_, fun c2 => ?_⟩
    · exact hq l4 trivial
    · refine ⟨fun c3 => ?_, fun c4 => ?_⟩
      · exact hq l4 trivial
      · refine ⟨(lg_ne (by assumption)), ?_⟩
        exact ih l6 (l4 - l4 / l6 * l6) (l8 + 1) (by have := ti_addK l8 (1 : Int32) 1 rfl; have := lg_cmp_i l6 0; omega) (by have := ti_addK l8 (1 : Int32) 1 rfl; have := lg_cmp_i l6 0; omega)
set_option maxRecDepth 100000 in
set_option maxHeartbeats 4000000 in
theorem sf_140 (X : qm_X) (h : qm_H) (a : Int64) (b : Int64) (hp : True) (Q : qm_Q) (hq : ∀ r : Int64, (True) → Q (some (.long r)) h) : qm_PW X 140 [.long a, .long b] h Q := by
  refine qm_seg_ok (C := qc_140) (rt := some .long) rfl rfl (cuts := [(9, [0, 2, 4, 6, 8])]) 400 _ _ _ _ ?_
  show qm_PA X 140 9 [(0, .long a), (2, .long b), (4, .long a), (6, .long b), (8, .int 0)] [] h Q
  exact (sf_140_c X h a b hp Q hq _) a b (0 : Int32) (by have : (0 : Int32).toInt = 0 := rfl; omega) (Nat.lt_succ_self _)
-- ThreadBank.partOf(JJI)J
set_option maxRecDepth 100000 in
set_option maxHeartbeats 4000000 in
theorem sf_139 (X : qm_X) (h : qm_H) (a : Int64) (b : Int64) (c : Int32) (hp : True) (Q : qm_Q) (hq : ∀ r : Int64, (True) → Q (some (.long r)) h) : qm_PW X 139 [.long a, .long b, .int c] h Q := by
  refine qm_seg_ok (C := qc_139) (rt := some .long) rfl rfl (cuts := []) 400 _ _ _ _ ?_
  show qm_PW X 140 [.long a, .long b] h _
  refine sf_140 X h (a : Int64) (b : Int64) trivial _ (fun r1 p2 => ?_)
  show (¬ (lg_cmp r1 0) = 0 → ((¬ c = 0 → (¬ r1 = 0 ∧ (Q (some (.long (b / r1))) h))) ∧ (c = 0 → (¬ r1 = 0 ∧ (Q (some (.long (a / r1))) h))))) ∧ ((lg_cmp r1 0) = 0 → (Q (some (.long 0)) h))
  refine ⟨fun c3 => ?_, fun c4 => ?_⟩
  · refine ⟨fun c5 => ?_, fun c6 => ?_⟩
    · refine ⟨(lg_ne (by assumption)), ?_⟩
      exact hq (b / r1) trivial
    · refine ⟨(lg_ne (by assumption)), ?_⟩
      exact hq (a / r1) trivial
  · exact hq 0 trivial
-- ThreadBank.isOdds(I)Z
set_option maxRecDepth 100000 in
set_option maxHeartbeats 4000000 in
theorem sf_136 (X : qm_X) (h : qm_H) (a : Int32) (hp : True) (Q : qm_Q) (hq : ∀ r : Int32, ((r = 0 ∨ r = 1) ∧ (¬ r = 0 → 0 ≤ a.toInt ∧ a.toInt ≤ 10)) → Q (some (.int r)) h) : qm_PW X 136 [.int a] h Q := by
  refine qm_seg_ok (C := qc_136) (rt := some .boolean) rfl rfl (cuts := []) 400 _ _ _ _ ?_
  show (a.toInt < 0 → (((0 : Int32) = 0 ∨ (0 : Int32) = 1) ∧ Q (some (.int 0)) h)) ∧ (0 ≤ a.toInt → ((10 < a.toInt → (((0 : Int32) = 0 ∨ (0 : Int32) = 1) ∧ Q (some (.int 0)) h)) ∧ (a.toInt ≤ 10 → (((1 : Int32) = 0 ∨ (1 : Int32) = 1) ∧ Q (some (.int 1)) h))))
  refine ⟨fun c1 => ?_, fun c2 => ?_⟩
  · exact ⟨Or.inl rfl, hq 0 (by first | omega | exact ⟨Or.inl rfl, fun hc => absurd rfl hc⟩ | exact ⟨Or.inr rfl, fun hc => absurd hc (by decide)⟩ | (refine ⟨Or.inr rfl, fun _ => ?_⟩; omega) | (refine ⟨Or.inl rfl, fun _ => ?_⟩; omega) | (simp; done))⟩
  · refine ⟨fun c3 => ?_, fun c4 => ?_⟩
    · exact ⟨Or.inl rfl, hq 0 (by first | omega | exact ⟨Or.inl rfl, fun hc => absurd rfl hc⟩ | exact ⟨Or.inr rfl, fun hc => absurd hc (by decide)⟩ | (refine ⟨Or.inr rfl, fun _ => ?_⟩; omega) | (refine ⟨Or.inl rfl, fun _ => ?_⟩; omega) | (simp; done))⟩
    · exact ⟨Or.inr rfl, hq 1 (by first | omega | exact ⟨Or.inl rfl, fun hc => absurd rfl hc⟩ | exact ⟨Or.inr rfl, fun hc => absurd hc (by decide)⟩ | (refine ⟨Or.inr rfl, fun _ => ?_⟩; omega) | (refine ⟨Or.inl rfl, fun _ => ?_⟩; omega) | (simp; done))⟩
-- ThreadBank.isPart(I)Z
set_option maxRecDepth 100000 in
set_option maxHeartbeats 4000000 in
theorem sf_137 (X : qm_X) (h : qm_H) (a : Int32) (hp : True) (Q : qm_Q) (hq : ∀ r : Int32, (r = 0 ∨ r = 1) → Q (some (.int r)) h) : qm_PW X 137 [.int a] h Q := by
  refine qm_seg_ok (C := qc_137) (rt := some .boolean) rfl rfl (cuts := []) 400 _ _ _ _ ?_
  show (a = 0 → (((1 : Int32) = 0 ∨ (1 : Int32) = 1) ∧ Q (some (.int 1)) h)) ∧ (¬ a = 0 → ((¬ a = 1 → (((0 : Int32) = 0 ∨ (0 : Int32) = 1) ∧ Q (some (.int 0)) h)) ∧ (a = 1 → (((1 : Int32) = 0 ∨ (1 : Int32) = 1) ∧ Q (some (.int 1)) h))))
  refine ⟨fun c1 => ?_, fun c2 => ?_⟩
  · exact ⟨Or.inr rfl, hq 1 (Or.inr rfl)⟩
  · refine ⟨fun c3 => ?_, fun c4 => ?_⟩
    · exact ⟨Or.inl rfl, hq 0 (Or.inl rfl)⟩
    · exact ⟨Or.inr rfl, hq 1 (Or.inr rfl)⟩
-- ThreadBank.rule(I)I
set_option maxRecDepth 100000 in
set_option maxHeartbeats 4000000 in
theorem sf_94_0 (X : qm_X) (h : qm_H) (a : Int32) (hp : mq 1 h) (Q : qm_Q) (hq : ∀ r : Int32, (True) → Q (some (.int r)) h) : qm_PW X 94 [.ref 0, .int a] h Q := by
  have hm1 : mq 1 h := hp
  have ⟨⟨_, _⟩, ⟨_, _⟩, _, _⟩ := hm1
  refine qm_seg_ok (C := qc_94) (rt := some .int) rfl rfl (cuts := []) 400 _ _ _ _ ?_
  show ((a = 0 → (Q (some (.int (h 1 6))) h)) ∧ (¬ a = 0 → ((a = 1 → (Q (some (.int (h 1 7))) h)) ∧ (¬ a = 1 → ((a = 2 → (Q (some (.int (h 1 8))) h)) ∧ (¬ a = 2 → ((a = 3 → (qm_PW X 39 [.ref 1] h _)) ∧ (¬ a = 3 → ((a = 4 → (qm_PW X 43 [.ref 1] h _)) ∧ (¬ a = 4 → (Q (some (.int (-1 : Int32))) h)))))))))))
  refine ⟨fun c1 => ?_, fun c2 => ?_⟩
  · exact hq (h 1 6) trivial
  · refine ⟨fun c3 => ?_, fun c4 => ?_⟩
    · exact hq (h 1 7) trivial
    · refine ⟨fun c5 => ?_, fun c6 => ?_⟩
      · exact hq (h 1 8) trivial
      · refine ⟨fun c7 => ?_, fun c8 => ?_⟩
        · refine sf_39_1 X h  hm1 _ (fun r9 p10 => ?_)
          show Q (some (.int r9)) h
          exact hq r9 trivial
        · refine ⟨fun c11 => ?_, fun c12 => ?_⟩
          · refine sf_43_1 X h  hm1 _ (fun r13 p14 => ?_)
            show Q (some (.int r13)) h
            exact hq r13 trivial
          · exact hq (-1 : Int32) trivial
-- ThreadBank.clerk(II)I
set_option maxRecDepth 100000 in
set_option maxHeartbeats 4000000 in
theorem sf_95_0 (X : qm_X) (h : qm_H) (a : Int32) (b : Int32) (hp : mq 1 h) (Q : qm_Q) (hq : ∀ r : Int32, (True) → Q (some (.int r)) h) : qm_PW X 95 [.ref 0, .int a, .int b] h Q := by
  have hm1 : mq 1 h := hp
  have ⟨⟨_, _⟩, ⟨_, _⟩, _, _⟩ := hm1
  refine qm_seg_ok (C := qc_95) (rt := some .int) rfl rfl (cuts := []) 400 _ _ _ _ ?_
  show qm_PW X 28 [.ref 1, .int a] h _
  refine sf_28_1 X h a trivial _ (fun r1 p2 => ?_)
  show (¬ r1 = 0 → (((b = 0 → (qm_PW X 32 [.ref 1, .int a] h _)) ∧ (¬ b = 0 → ((b = 1 → (qm_PW X 36 [.ref 1, .int a] h _)) ∧ (¬ b = 1 → ((b = 2 → (qm_PW X 38 [.ref 1, .int a] h _)) ∧ (¬ b = 2 → ((b = 3 → (qm_PW X 55 [.ref 1, .int a] h _)) ∧ (¬ b = 3 → (Q (some (.int (-1 : Int32))) h))))))))))) ∧ (r1 = 0 → (Q (some (.int (-1 : Int32))) h))
  refine ⟨fun c3 => ?_, fun c4 => ?_⟩
  · have := p2.2 c3
    refine ⟨fun c5 => ?_, fun c6 => ?_⟩
    · refine sf_32_1 X h a hm1 _ (fun r7 p8 => ?_)
      show Q (some (.int r7)) h
      exact hq r7 trivial
    · refine ⟨fun c9 => ?_, fun c10 => ?_⟩
      · refine sf_36_1 X h a hm1 _ (fun r11 p12 => ?_)
        show Q (some (.int r11)) h
        exact hq r11 trivial
      · refine ⟨fun c13 => ?_, fun c14 => ?_⟩
        · refine sf_38_1 X h a hm1 _ (fun r15 p16 => ?_)
          show Q (some (.int r15)) h
          exact hq r15 trivial
        · refine ⟨fun c17 => ?_, fun c18 => ?_⟩
          · refine sf_55_1 X h a hm1 _ (fun r19 p20 => ?_)
            show Q (some (.int (1000 + r19))) h
            exact hq (1000 + r19) trivial
          · exact hq (-1 : Int32) trivial
  · exact hq (-1 : Int32) trivial
-- ThreadBank.finger(II)I
set_option maxRecDepth 100000 in
set_option maxHeartbeats 4000000 in
theorem sf_96_0 (X : qm_X) (h : qm_H) (a : Int32) (b : Int32) (hp : mq 1 h) (Q : qm_Q) (hq : ∀ r : Int32, (True) → Q (some (.int r)) h) : qm_PW X 96 [.ref 0, .int a, .int b] h Q := by
  have hm1 : mq 1 h := hp
  have ⟨⟨_, _⟩, ⟨_, _⟩, _, _⟩ := hm1
  refine qm_seg_ok (C := qc_96) (rt := some .int) rfl rfl (cuts := []) 400 _ _ _ _ ?_
  show qm_PW X 30 [.ref 1, .int a] h _
  refine sf_30_1 X h a trivial _ (fun r1 p2 => ?_)
  show (r1 = 0 → (Q (some (.int (-1 : Int32))) h)) ∧ (¬ r1 = 0 → ((b.toInt < 0 → (Q (some (.int (-1 : Int32))) h)) ∧ (0 ≤ b.toInt → ((b.toInt ≤ 1 → ((¬ b = 0 → (qm_PW X 35 [.ref 1, .int a] h _)) ∧ (b = 0 → (qm_PW X 37 [.ref 1, .int a] h _)))) ∧ (1 < b.toInt → (Q (some (.int (-1 : Int32))) h))))))
  refine ⟨fun c3 => ?_, fun c4 => ?_⟩
  · exact hq (-1 : Int32) trivial
  · refine ⟨fun c5 => ?_, fun c6 => ?_⟩
    · exact hq (-1 : Int32) trivial
    · refine ⟨fun c7 => ?_, fun c8 => ?_⟩
      · refine ⟨fun c9 => ?_, fun c10 => ?_⟩
        · refine sf_35_1 X h a hm1 _ (fun r11 p12 => ?_)
          show Q (some (.int r11)) h
          exact hq r11 trivial
        · refine sf_37_1 X h a hm1 _ (fun r13 p14 => ?_)
          show Q (some (.int r13)) h
          exact hq r13 trivial
      · exact hq (-1 : Int32) trivial
-- ThreadBank.thread(II)I
set_option maxRecDepth 100000 in
set_option maxHeartbeats 4000000 in
theorem sf_97_0 (X : qm_X) (h : qm_H) (a : Int32) (b : Int32) (hp : mq 1 h) (Q : qm_Q) (hq : ∀ r : Int32, (True) → Q (some (.int r)) h) : qm_PW X 97 [.ref 0, .int a, .int b] h Q := by
  have hm1 : mq 1 h := hp
  have ⟨⟨_, _⟩, ⟨_, _⟩, _, _⟩ := hm1
  refine qm_seg_ok (C := qc_97) (rt := some .int) rfl rfl (cuts := []) 400 _ _ _ _ ?_
  show qm_PW X 29 [.ref 1, .int a] h _
  refine sf_29_1 X h a trivial _ (fun r1 p2 => ?_)
  show (¬ r1 = 0 → (((b = 0 → ((0 ≤ a.toInt ∧ a.toInt < 10) ∧ (Q (some (.int (h 3 a.toInt.toNat))) h))) ∧ (¬ b = 0 → ((b = 1 → ((0 ≤ a.toInt ∧ a.toInt < 10) ∧ (Q (some (.int (h 4 a.toInt.toNat))) h))) ∧ (¬ b = 1 → ((b = 2 → ((0 ≤ a.toInt ∧ a.toInt < 10) ∧ (Q (some (.int (h 5 a.toInt.toNat))) h))) ∧ (¬ b = 2 → ((b = 3 → (qm_PW X 51 [.ref 1, .int a] h _)) ∧ (¬ b = 3 → (Q (some (.int (-1 : Int32))) h))))))))))) ∧ (r1 = 0 → (Q (some (.int (-1 : Int32))) h))
  refine ⟨fun c3 => ?_, fun c4 => ?_⟩
  · have := p2.2 c3
    refine ⟨fun c5 => ?_, fun c6 => ?_⟩
    · refine ⟨(by omega), ?_⟩
      exact hq (h 3 a.toInt.toNat) trivial
    · refine ⟨fun c7 => ?_, fun c8 => ?_⟩
      · refine ⟨(by omega), ?_⟩
        exact hq (h 4 a.toInt.toNat) trivial
      · refine ⟨fun c9 => ?_, fun c10 => ?_⟩
        · refine ⟨(by omega), ?_⟩
          exact hq (h 5 a.toInt.toNat) trivial
        · refine ⟨fun c11 => ?_, fun c12 => ?_⟩
          · refine sf_51_1 X h a hm1 _ (fun r13 p14 => ?_)
            show (r13 = 0 → (Q (some (.int 0)) h)) ∧ (¬ r13 = 0 → (Q (some (.int 1)) h))
            refine ⟨fun c15 => ?_, fun c16 => ?_⟩
            · exact hq 0 trivial
            · exact hq 1 trivial
          · exact hq (-1 : Int32) trivial
  · exact hq (-1 : Int32) trivial
