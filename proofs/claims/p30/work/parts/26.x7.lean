-- ThreadBank.isOdds(I)Z
set_option maxRecDepth 100000 in
set_option maxHeartbeats 4000000 in
theorem sf_136 (X : qm_X) (h : qm_H) (a : Int32) (hp : True) (Q : qm_Q) (hq : ∀ r : Int32, ((r = 0 ∨ r = 1) ∧ (¬ r = 0 → 0 ≤ a.toInt ∧ a.toInt ≤ 10)) → Q (some (.int r)) h) : qm_PW X 136 [.int a] h Q := by
  refine qm_seg_ok (C := qc_136) (rt := some .boolean) rfl rfl (cuts := []) 400 _ _ _ _ ?_
  show (a.toInt < 0 → (((0 : Int32) = 0 ∨ (0 : Int32) = 1) ∧ Q (some (.int 0)) h)) ∧ (0 ≤ a.toInt → ((10 < a.toInt → (((0 : Int32) = 0 ∨ (0 : Int32) = 1) ∧ Q (some (.int 0)) h)) ∧ (a.toInt ≤ 10 → (((1 : Int32) = 0 ∨ (1 : Int32) = 1) ∧ Q (some (.int 1)) h))))
  refine ⟨fun c1 => ?_, fun c2 => ?_⟩
  · exact ⟨Or.inl rfl, hq 0 (by first | omega | exact ⟨Or.inl rfl, fun hc => absurd rfl hc⟩ | exact ⟨Or.inr rfl, fun hc => absurd hc (by decide)⟩ | (refine ⟨Or.inr rfl, fun _ => ?_⟩; omega) | (refine ⟨Or.inl rfl, fun _ => ?_⟩; omega) | (simp; done))⟩
  · refine ⟨fun c3 => ?_, fun c4 => ?_⟩
    · exact ⟨Or.inl rfl, hq 0 (by first | omega | exact ⟨Or.inl rfl, fun hc => absurd rfl hc⟩ | exact ⟨Or.inr rfl, fun hc => absurd hc (by decide)⟩ | (refine ⟨Or.inr rfl, fun _ => ?_⟩; omega) | (refine ⟨Or.inl rfl, fun _ => ?_⟩; omega) | (simp; done))⟩
    · exact ⟨Or.inr rfl, hq 1 (by first | omega | exact ⟨Or.inl rfl, fun hc => absurd rfl hc⟩ | exact ⟨Or.inr rfl, fun hc => absurd hc (by decide)⟩ | (refine ⟨Or.inr rfl, fun _ => ?_⟩; omega) | (refine ⟨Or.inl rfl, fun _ => ?_⟩; omega) | (simp; done))⟩
-- ThreadBank.rule(I)I
set_option maxRecDepth 100000 in
set_option maxHeartbeats 4000000 in
theorem sf_94_0 (X : qm_X) (h : qm_H) (a : Int32) (hp : mq 1 h) (Q : qm_Q) (hq : ∀ r : Int32, (True) → Q (some (.int r)) h) : qm_PW X 94 [.ref 0, .int a] h Q := by
  have hm1 : mq 1 h := hp
  have ⟨⟨_, _⟩, ⟨_, _⟩, _, _⟩ := hm1
  refine qm_seg_ok (C := qc_94) (rt := some .int) rfl rfl (cuts := []) 400 _ _ _ _ ?_
  show ((a = 0 → (Q (some (.int (h 1 6))) h)) ∧ (¬ a = 0 → ((a = 1 → (Q (some (.int (h 1 7))) h)) ∧ (¬ a = 1 → ((a = 2 → (Q (some (.int (h 1 8))) h)) ∧ (¬ a = 2 → ((a = 3 → (qm_PW X 39 [.ref 1] h _)) ∧ (¬ a = 3 → ((a = 4 → (qm_PW X 43 [.ref 1] h _)) ∧ (¬ a = 4 → (Q (some (.int (-1 : Int32))) h)))))))))))
  refine ⟨fun c1 => ?_, fun c2 => ?_⟩
  · exact hq (h 1 6) trivial
  · refine ⟨fun c3 => ?_, fun c4 => ?_⟩
    · exact hq (h 1 7) trivial
    · refine ⟨fun c5 => ?_, fun c6 => ?_⟩
      · exact hq (h 1 8) trivial
      · refine ⟨fun c7 => ?_, fun c8 => ?_⟩
        · refine sf_39_1 X h  hm1 _ (fun r9 p10 => ?_)
          show Q (some (.int r9)) h
          exact hq r9 trivial
        · refine ⟨fun c11 => ?_, fun c12 => ?_⟩
          · refine sf_43_1 X h  hm1 _ (fun r13 p14 => ?_)
            show Q (some (.int r13)) h
            exact hq r13 trivial
          · exact hq (-1 : Int32) trivial
-- ThreadBank.clerk(II)I
set_option maxRecDepth 100000 in
set_option maxHeartbeats 4000000 in
theorem sf_95_0 (X : qm_X) (h : qm_H) (a : Int32) (b : Int32) (hp : mq 1 h) (Q : qm_Q) (hq : ∀ r : Int32, (True) → Q (some (.int r)) h) : qm_PW X 95 [.ref 0, .int a, .int b] h Q := by
  have hm1 : mq 1 h := hp
  have ⟨⟨_, _⟩, ⟨_, _⟩, _, _⟩ := hm1
  refine qm_seg_ok (C := qc_95) (rt := some .int) rfl rfl (cuts := []) 400 _ _ _ _ ?_
  show qm_PW X 28 [.ref 1, .int a] h _
  refine sf_28_1 X h a trivial _ (fun r1 p2 => ?_)
  show (¬ r1 = 0 → (((b = 0 → (qm_PW X 32 [.ref 1, .int a] h _)) ∧ (¬ b = 0 → ((b = 1 → (qm_PW X 36 [.ref 1, .int a] h _)) ∧ (¬ b = 1 → ((b = 2 → (qm_PW X 38 [.ref 1, .int a] h _)) ∧ (¬ b = 2 → ((b = 3 → (qm_PW X 55 [.ref 1, .int a] h _)) ∧ (¬ b = 3 → (Q (some (.int (-1 : Int32))) h))))))))))) ∧ (r1 = 0 → (Q (some (.int (-1 : Int32))) h))
  refine ⟨fun c3 => ?_, fun c4 => ?_⟩
  · have := p2.2 c3
    refine ⟨fun c5 => ?_, fun c6 => ?_⟩
    · refine sf_32_1 X h a hm1 _ (fun r7 p8 => ?_)
      show Q (some (.int r7)) h
      exact hq r7 trivial
    · refine ⟨fun c9 => ?_, fun c10 => ?_⟩
      · refine sf_36_1 X h a hm1 _ (fun r11 p12 => ?_)
        show Q (some (.int r11)) h
        exact hq r11 trivial
      · refine ⟨fun c13 => ?_, fun c14 => ?_⟩
        · refine sf_38_1 X h a hm1 _ (fun r15 p16 => ?_)
          show Q (some (.int r15)) h
          exact hq r15 trivial
        · refine ⟨fun c17 => ?_, fun c18 => ?_⟩
          · refine sf_55_1 X h a hm1 _ (fun r19 p20 => ?_)
            show Q (some (.int (1000 + r19))) h
            exact hq (1000 + r19) trivial
          · exact hq (-1 : Int32) trivial
  · exact hq (-1 : Int32) trivial
-- ThreadBank.finger(II)I
set_option maxRecDepth 100000 in
set_option maxHeartbeats 4000000 in
theorem sf_96_0 (X : qm_X) (h : qm_H) (a : Int32) (b : Int32) (hp : mq 1 h) (Q : qm_Q) (hq : ∀ r : Int32, (True) → Q (some (.int r)) h) : qm_PW X 96 [.ref 0, .int a, .int b] h Q := by
  have hm1 : mq 1 h := hp
  have ⟨⟨_, _⟩, ⟨_, _⟩, _, _⟩ := hm1
  refine qm_seg_ok (C := qc_96) (rt := some .int) rfl rfl (cuts := []) 400 _ _ _ _ ?_
  show qm_PW X 30 [.ref 1, .int a] h _
  refine sf_30_1 X h a trivial _ (fun r1 p2 => ?_)
  show (r1 = 0 → (Q (some (.int (-1 : Int32))) h)) ∧ (¬ r1 = 0 → ((b.toInt < 0 → (Q (some (.int (-1 : Int32))) h)) ∧ (0 ≤ b.toInt → ((b.toInt ≤ 1 → ((¬ b = 0 → (qm_PW X 35 [.ref 1, .int a] h _)) ∧ (b = 0 → (qm_PW X 37 [.ref 1, .int a] h _)))) ∧ (1 < b.toInt → (Q (some (.int (-1 : Int32))) h))))))
  refine ⟨fun c3 => ?_, fun c4 => ?_⟩
  · exact hq (-1 : Int32) trivial
  · refine ⟨fun c5 => ?_, fun c6 => ?_⟩
    · exact hq (-1 : Int32) trivial
    · refine ⟨fun c7 => ?_, fun c8 => ?_⟩
      · refine ⟨fun c9 => ?_, fun c10 => ?_⟩
        · refine sf_35_1 X h a hm1 _ (fun r11 p12 => ?_)
          show Q (some (.int r11)) h
          exact hq r11 trivial
        · refine sf_37_1 X h a hm1 _ (fun r13 p14 => ?_)
          show Q (some (.int r13)) h
          exact hq r13 trivial
      · exact hq (-1 : Int32) trivial
