-- ThreadBank$Memory.quarrelOf(II)Z
set_option maxRecDepth 100000 in
set_option maxHeartbeats 4000000 in
theorem ty_63 (X : qm_X) (h : qm_H) (a : Int32) (b : Int32) (hp : mq 1 h ∧ ((0 ≤ a.toInt ∧ a.toInt < (h 1 7).toInt) ∧ (0 ≤ b.toInt ∧ b.toInt < (h 1 7).toInt))) (Q : qm_Q) (hq : ∀ r : Int32, ((r = 0 ∨ r = 1) ∧ ((r.toInt = 1 ∧ qrF (h 3) (h 4) (h 5) a.toInt.toNat b.toInt.toNat) ∨ (r.toInt = 0 ∧ ¬ qrF (h 3) (h 4) (h 5) a.toInt.toNat b.toInt.toNat))) → Q (some (.int r)) h) : qm_PW X 63 [.ref 1, .int a, .int b] h Q := by
  have hm1 : mq 1 h := hp.1
  have ⟨⟨_, _⟩, ⟨_, _⟩, _, _⟩ := hm1
  have hp0 : (0 ≤ a.toInt ∧ a.toInt < (h 1 7).toInt) ∧ (0 ≤ b.toInt ∧ b.toInt < (h 1 7).toInt) := hp.2
  refine qm_seg_ok (C := qc_63) (rt := some .boolean) rfl rfl (cuts := []) 400 _ _ _ _ ?_
  show qm_PW X 29 [.ref 1, .int a] h _
  refine ty_29 X h a trivial _ (fun r1 p2 => ?_)
  have o3 : (r1 = 0 ∨ r1 = 1) ∧ ((r1.toInt = 1 ∧ 0 ≤ a.toInt ∧ a.toInt < (h 1 7).toInt) ∨ (r1.toInt = 0 ∧ ¬ (0 ≤ a.toInt ∧ a.toInt < (h 1 7).toInt))) := p2
  clear p2
  show (r1 = 0 → (((0 : Int32) = 0 ∨ (0 : Int32) = 1) ∧ Q (some (.int 0)) h)) ∧ (¬ r1 = 0 → (qm_PW X 29 [.ref 1, .int b] h _))
  refine ⟨fun c4 => ?_, fun c5 => ?_⟩
  · have := ti_eqK 0 rfl c4
    exact ⟨Or.inl rfl, hq 0 (by have : (0 : Int32).toInt = 0 := rfl; show ((0 : Int32) = 0 ∨ (0 : Int32) = 1) ∧ (((0 : Int32).toInt = 1 ∧ qrF (h 3) (h 4) (h 5) a.toInt.toNat b.toInt.toNat) ∨ ((0 : Int32).toInt = 0 ∧ ¬ qrF (h 3) (h 4) (h 5) a.toInt.toNat b.toInt.toNat)); exact ⟨Or.inl rfl, Or.inr ⟨rfl, fun w => by obtain ⟨w1, w2, w3, w4⟩ := w; first | (exfalso; omega) | exact absurd (Int32.toInt_inj.mp w2) (by assumption) | exact absurd (Int32.toInt_inj.mp w3) (by assumption) | exact w4 (congrArg Int32.toInt (by assumption))⟩⟩)⟩
  · have := ti_neK 0 rfl c5
    refine ty_29 X h b trivial _ (fun r6 p7 => ?_)
    have o8 : (r6 = 0 ∨ r6 = 1) ∧ ((r6.toInt = 1 ∧ 0 ≤ b.toInt ∧ b.toInt < (h 1 7).toInt) ∨ (r6.toInt = 0 ∧ ¬ (0 ≤ b.toInt ∧ b.toInt < (h 1 7).toInt))) := p7
    clear p7
    show (¬ r6 = 0 → ((0 ≤ a.toInt ∧ a.toInt < 10) ∧ (¬ (10 : Int32) = 0 ∧ ((0 ≤ b.toInt ∧ b.toInt < 10) ∧ (¬ (10 : Int32) = 0 ∧ ((¬ ((h 5 a.toInt.toNat) - (h 5 a.toInt.toNat) / 10 * 10) = ((h 5 b.toInt.toNat) - (h 5 b.toInt.toNat) / 10 * 10) → ((0 ≤ a.toInt ∧ a.toInt < 10) ∧ (¬ (10 : Int32) = 0 ∧ ((0 ≤ b.toInt ∧ b.toInt < 10) ∧ (¬ (10 : Int32) = 0 ∧ ((¬ ((h 5 a.toInt.toNat) / 10) = ((h 5 b.toInt.toNat) / 10) → (qm_PW X 33 [.ref 1, .int a] h _)) ∧ (((h 5 a.toInt.toNat) / 10) = ((h 5 b.toInt.toNat) / 10) → (qm_PW X 33 [.ref 1, .int a] h _)))))))) ∧ (((h 5 a.toInt.toNat) - (h 5 a.toInt.toNat) / 10 * 10) = ((h 5 b.toInt.toNat) - (h 5 b.toInt.toNat) / 10 * 10) → ((0 ≤ a.toInt ∧ a.toInt < 10) ∧ (¬ (10 : Int32) = 0 ∧ ((0 ≤ b.toInt ∧ b.toInt < 10) ∧ (¬ (10 : Int32) = 0 ∧ ((¬ ((h 5 a.toInt.toNat) / 10) = ((h 5 b.toInt.toNat) / 10) → (qm_PW X 33 [.ref 1, .int a] h _)) ∧ (((h 5 a.toInt.toNat) / 10) = ((h 5 b.toInt.toNat) / 10) → (qm_PW X 33 [.ref 1, .int a] h _)))))))))))))) ∧ (r6 = 0 → (((0 : Int32) = 0 ∨ (0 : Int32) = 1) ∧ Q (some (.int 0)) h))
    refine ⟨fun c9 => ?_, fun c10 => ?_⟩
    · have := ti_neK 0 rfl c9
      refine ⟨(by omega), ?_⟩
      refine ⟨by decide, ?_⟩
      refine ⟨(by omega), ?_⟩
      refine ⟨by decide, ?_⟩
      refine ⟨fun c11 => ?_, fun c12 => ?_⟩
      · refine ⟨(by omega), ?_⟩
        refine ⟨by decide, ?_⟩
        refine ⟨(by omega), ?_⟩
        refine ⟨by decide, ?_⟩
        refine ⟨fun c13 => ?_, fun c14 => ?_⟩
        · refine ty_33 X h a hm1 _ (fun r15 p16 => ?_)
          have o17 : ((0 ≤ a.toInt ∧ a.toInt < (h 1 7).toInt) ∧ r15.toInt = ((h 3 a.toInt.toNat) / 10).toInt) ∨ (¬ (0 ≤ a.toInt ∧ a.toInt < (h 1 7).toInt) ∧ r15.toInt = -4) := p16
          clear p16
          show qm_PW X 33 [.ref 1, .int b] h _
          refine ty_33 X h b hm1 _ (fun r18 p19 => ?_)
          have o20 : ((0 ≤ b.toInt ∧ b.toInt < (h 1 7).toInt) ∧ r18.toInt = ((h 3 b.toInt.toNat) / 10).toInt) ∨ (¬ (0 ≤ b.toInt ∧ b.toInt < (h 1 7).toInt) ∧ r18.toInt = -4) := p19
          clear p19
          show (r15 = r18 → (((0 : Int32) = 0 ∨ (0 : Int32) = 1) ∧ Q (some (.int 0)) h)) ∧ (¬ r15 = r18 → ((0 ≤ a.toInt ∧ a.toInt < 10) ∧ ((0 ≤ b.toInt ∧ b.toInt < 10) ∧ ((¬ (h 4 a.toInt.toNat) = (h 4 b.toInt.toNat) → (((0 : Int32) = 0 ∨ (0 : Int32) = 1) ∧ Q (some (.int 0)) h)) ∧ ((h 4 a.toInt.toNat) = (h 4 b.toInt.toNat) → (((0 : Int32) = 0 → (((0 : Int32) = 0 ∨ (0 : Int32) = 1) ∧ Q (some (.int 0)) h)) ∧ (¬ (0 : Int32) = 0 → ((¬ (0 : Int32) = 0 → (((0 : Int32) = 0 ∨ (0 : Int32) = 1) ∧ Q (some (.int 0)) h)) ∧ ((0 : Int32) = 0 → (((1 : Int32) = 0 ∨ (1 : Int32) = 1) ∧ Q (some (.int 1)) h))))))))))
          refine ⟨fun c21 => ?_, fun c22 => ?_⟩
          · exact ⟨Or.inl rfl, hq 0 (by have : (0 : Int32).toInt = 0 := rfl; have := ti_div (10 : Int32) 10 rfl (h 3 a.toInt.toNat) (by decide); have := ti_div (10 : Int32) 10 rfl (h 3 b.toInt.toNat) (by decide); show ((0 : Int32) = 0 ∨ (0 : Int32) = 1) ∧ (((0 : Int32).toInt = 1 ∧ qrF (h 3) (h 4) (h 5) a.toInt.toNat b.toInt.toNat) ∨ ((0 : Int32).toInt = 0 ∧ ¬ qrF (h 3) (h 4) (h 5) a.toInt.toNat b.toInt.toNat)); exact ⟨Or.inl rfl, Or.inr ⟨rfl, fun w => by obtain ⟨w1, w2, w3, w4⟩ := w; first | exact absurd (Int32.toInt_inj.mp w2) (by assumption) | exact absurd (Int32.toInt_inj.mp w3) (by assumption) | exact w4 (congrArg Int32.toInt (by assumption)) | (have n1 := congrArg Int32.toInt (show r15 = r18 from by assumption); exact w1 (by omega))⟩⟩)⟩
          · refine ⟨(by have := ti_div (10 : Int32) 10 rfl (h 3 a.toInt.toNat) (by decide); have := ti_div (10 : Int32) 10 rfl (h 3 b.toInt.toNat) (by decide); omega), ?_⟩
            refine ⟨(by have := ti_div (10 : Int32) 10 rfl (h 3 a.toInt.toNat) (by decide); have := ti_div (10 : Int32) 10 rfl (h 3 b.toInt.toNat) (by decide); omega), ?_⟩
            refine ⟨fun c23 => ?_, fun c24 => ?_⟩
            · exact ⟨Or.inl rfl, hq 0 (by have : (0 : Int32).toInt = 0 := rfl; have := ti_div (10 : Int32) 10 rfl (h 3 a.toInt.toNat) (by decide); have := ti_div (10 : Int32) 10 rfl (h 3 b.toInt.toNat) (by decide); show ((0 : Int32) = 0 ∨ (0 : Int32) = 1) ∧ (((0 : Int32).toInt = 1 ∧ qrF (h 3) (h 4) (h 5) a.toInt.toNat b.toInt.toNat) ∨ ((0 : Int32).toInt = 0 ∧ ¬ qrF (h 3) (h 4) (h 5) a.toInt.toNat b.toInt.toNat)); exact ⟨Or.inl rfl, Or.inr ⟨rfl, fun w => by obtain ⟨w1, w2, w3, w4⟩ := w; first | exact absurd (Int32.toInt_inj.mp w2) (by assumption) | exact absurd (Int32.toInt_inj.mp w3) (by assumption) | exact w4 (congrArg Int32.toInt (by assumption)) | (have n1 := congrArg Int32.toInt (show r15 = r18 from by assumption); exact w1 (by omega))⟩⟩)⟩
            · refine ⟨fun c25 => ?_, fun c26 => ?_⟩
              · exact ⟨Or.inl rfl, hq 0 (by have : (0 : Int32).toInt = 0 := rfl; have := ti_div (10 : Int32) 10 rfl (h 3 a.toInt.toNat) (by decide); have := ti_div (10 : Int32) 10 rfl (h 3 b.toInt.toNat) (by decide); show ((0 : Int32) = 0 ∨ (0 : Int32) = 1) ∧ (((0 : Int32).toInt = 1 ∧ qrF (h 3) (h 4) (h 5) a.toInt.toNat b.toInt.toNat) ∨ ((0 : Int32).toInt = 0 ∧ ¬ qrF (h 3) (h 4) (h 5) a.toInt.toNat b.toInt.toNat)); exact ⟨Or.inl rfl, Or.inr ⟨rfl, fun w => by obtain ⟨w1, w2, w3, w4⟩ := w; first | exact absurd (Int32.toInt_inj.mp w2) (by assumption) | exact absurd (Int32.toInt_inj.mp w3) (by assumption) | exact w4 (congrArg Int32.toInt (by assumption)) | (have n1 := congrArg Int32.toInt (show r15 = r18 from by assumption); exact w1 (by omega))⟩⟩)⟩
              · exact absurd c26 (by decide)
        · refine ty_33 X h a hm1 _ (fun r29 p30 => ?_)
          have o31 : ((0 ≤ a.toInt ∧ a.toInt < (h 1 7).toInt) ∧ r29.toInt = ((h 3 a.toInt.toNat) / 10).toInt) ∨ (¬ (0 ≤ a.toInt ∧ a.toInt < (h 1 7).toInt) ∧ r29.toInt = -4) := p30
          clear p30
          show qm_PW X 33 [.ref 1, .int b] h _
          refine ty_33 X h b hm1 _ (fun r32 p33 => ?_)
          have o34 : ((0 ≤ b.toInt ∧ b.toInt < (h 1 7).toInt) ∧ r32.toInt = ((h 3 b.toInt.toNat) / 10).toInt) ∨ (¬ (0 ≤ b.toInt ∧ b.toInt < (h 1 7).toInt) ∧ r32.toInt = -4) := p33
          clear p33
          show (r29 = r32 → (((0 : Int32) = 0 ∨ (0 : Int32) = 1) ∧ Q (some (.int 0)) h)) ∧ (¬ r29 = r32 → ((0 ≤ a.toInt ∧ a.toInt < 10) ∧ ((0 ≤ b.toInt ∧ b.toInt < 10) ∧ ((¬ (h 4 a.toInt.toNat) = (h 4 b.toInt.toNat) → (((0 : Int32) = 0 ∨ (0 : Int32) = 1) ∧ Q (some (.int 0)) h)) ∧ ((h 4 a.toInt.toNat) = (h 4 b.toInt.toNat) → (((0 : Int32) = 0 → (((0 : Int32) = 0 ∨ (0 : Int32) = 1) ∧ Q (some (.int 0)) h)) ∧ (¬ (0 : Int32) = 0 → ((¬ (1 : Int32) = 0 → (((0 : Int32) = 0 ∨ (0 : Int32) = 1) ∧ Q (some (.int 0)) h)) ∧ ((1 : Int32) = 0 → (((1 : Int32) = 0 ∨ (1 : Int32) = 1) ∧ Q (some (.int 1)) h))))))))))
          refine ⟨fun c35 => ?_, fun c36 => ?_⟩
          · exact ⟨Or.inl rfl, hq 0 (by have : (0 : Int32).toInt = 0 := rfl; have := ti_div (10 : Int32) 10 rfl (h 3 a.toInt.toNat) (by decide); have := ti_div (10 : Int32) 10 rfl (h 3 b.toInt.toNat) (by decide); show ((0 : Int32) = 0 ∨ (0 : Int32) = 1) ∧ (((0 : Int32).toInt = 1 ∧ qrF (h 3) (h 4) (h 5) a.toInt.toNat b.toInt.toNat) ∨ ((0 : Int32).toInt = 0 ∧ ¬ qrF (h 3) (h 4) (h 5) a.toInt.toNat b.toInt.toNat)); exact ⟨Or.inl rfl, Or.inr ⟨rfl, fun w => by obtain ⟨w1, w2, w3, w4⟩ := w; first | exact absurd (Int32.toInt_inj.mp w2) (by assumption) | exact absurd (Int32.toInt_inj.mp w3) (by assumption) | exact w4 (congrArg Int32.toInt (by assumption)) | (have n1 := congrArg Int32.toInt (show r29 = r32 from by assumption); exact w1 (by omega))⟩⟩)⟩
          · refine ⟨(by have := ti_div (10 : Int32) 10 rfl (h 3 a.toInt.toNat) (by decide); have := ti_div (10 : Int32) 10 rfl (h 3 b.toInt.toNat) (by decide); omega), ?_⟩
            refine ⟨(by have := ti_div (10 : Int32) 10 rfl (h 3 a.toInt.toNat) (by decide); have := ti_div (10 : Int32) 10 rfl (h 3 b.toInt.toNat) (by decide); omega), ?_⟩
            refine ⟨fun c37 => ?_, fun c38 => ?_⟩
            · exact ⟨Or.inl rfl, hq 0 (by have : (0 : Int32).toInt = 0 := rfl; have := ti_div (10 : Int32) 10 rfl (h 3 a.toInt.toNat) (by decide); have := ti_div (10 : Int32) 10 rfl (h 3 b.toInt.toNat) (by decide); show ((0 : Int32) = 0 ∨ (0 : Int32) = 1) ∧ (((0 : Int32).toInt = 1 ∧ qrF (h 3) (h 4) (h 5) a.toInt.toNat b.toInt.toNat) ∨ ((0 : Int32).toInt = 0 ∧ ¬ qrF (h 3) (h 4) (h 5) a.toInt.toNat b.toInt.toNat)); exact ⟨Or.inl rfl, Or.inr ⟨rfl, fun w => by obtain ⟨w1, w2, w3, w4⟩ := w; first | exact absurd (Int32.toInt_inj.mp w2) (by assumption) | exact absurd (Int32.toInt_inj.mp w3) (by assumption) | exact w4 (congrArg Int32.toInt (by assumption)) | (have n1 := congrArg Int32.toInt (show r29 = r32 from by assumption); exact w1 (by omega))⟩⟩)⟩
            · refine ⟨fun c39 => ?_, fun c40 => ?_⟩
              · exact ⟨Or.inl rfl, hq 0 (by have : (0 : Int32).toInt = 0 := rfl; have := ti_div (10 : Int32) 10 rfl (h 3 a.toInt.toNat) (by decide); have := ti_div (10 : Int32) 10 rfl (h 3 b.toInt.toNat) (by decide); show ((0 : Int32) = 0 ∨ (0 : Int32) = 1) ∧ (((0 : Int32).toInt = 1 ∧ qrF (h 3) (h 4) (h 5) a.toInt.toNat b.toInt.toNat) ∨ ((0 : Int32).toInt = 0 ∧ ¬ qrF (h 3) (h 4) (h 5) a.toInt.toNat b.toInt.toNat)); exact ⟨Or.inl rfl, Or.inr ⟨rfl, fun w => by obtain ⟨w1, w2, w3, w4⟩ := w; first | exact absurd (Int32.toInt_inj.mp w2) (by assumption) | exact absurd (Int32.toInt_inj.mp w3) (by assumption) | exact w4 (congrArg Int32.toInt (by assumption)) | (have n1 := congrArg Int32.toInt (show r29 = r32 from by assumption); exact w1 (by omega))⟩⟩)⟩
              · exact absurd c40 (by decide)
      · refine ⟨(by omega), ?_⟩
        refine ⟨by decide, ?_⟩
        refine ⟨(by omega), ?_⟩
        refine ⟨by decide, ?_⟩
        refine ⟨fun c43 => ?_, fun c44 => ?_⟩
        · refine ty_33 X h a hm1 _ (fun r45 p46 => ?_)
          have o47 : ((0 ≤ a.toInt ∧ a.toInt < (h 1 7).toInt) ∧ r45.toInt = ((h 3 a.toInt.toNat) / 10).toInt) ∨ (¬ (0 ≤ a.toInt ∧ a.toInt < (h 1 7).toInt) ∧ r45.toInt = -4) := p46
          clear p46
          show qm_PW X 33 [.ref 1, .int b] h _
          refine ty_33 X h b hm1 _ (fun r48 p49 => ?_)
          have o50 : ((0 ≤ b.toInt ∧ b.toInt < (h 1 7).toInt) ∧ r48.toInt = ((h 3 b.toInt.toNat) / 10).toInt) ∨ (¬ (0 ≤ b.toInt ∧ b.toInt < (h 1 7).toInt) ∧ r48.toInt = -4) := p49
          clear p49
          show (r45 = r48 → (((0 : Int32) = 0 ∨ (0 : Int32) = 1) ∧ Q (some (.int 0)) h)) ∧ (¬ r45 = r48 → ((0 ≤ a.toInt ∧ a.toInt < 10) ∧ ((0 ≤ b.toInt ∧ b.toInt < 10) ∧ ((¬ (h 4 a.toInt.toNat) = (h 4 b.toInt.toNat) → (((0 : Int32) = 0 ∨ (0 : Int32) = 1) ∧ Q (some (.int 0)) h)) ∧ ((h 4 a.toInt.toNat) = (h 4 b.toInt.toNat) → (((1 : Int32) = 0 → (((0 : Int32) = 0 ∨ (0 : Int32) = 1) ∧ Q (some (.int 0)) h)) ∧ (¬ (1 : Int32) = 0 → ((¬ (0 : Int32) = 0 → (((0 : Int32) = 0 ∨ (0 : Int32) = 1) ∧ Q (some (.int 0)) h)) ∧ ((0 : Int32) = 0 → (((1 : Int32) = 0 ∨ (1 : Int32) = 1) ∧ Q (some (.int 1)) h))))))))))
          refine ⟨fun c51 => ?_, fun c52 => ?_⟩
          · exact ⟨Or.inl rfl, hq 0 (by have : (0 : Int32).toInt = 0 := rfl; have := ti_div (10 : Int32) 10 rfl (h 3 a.toInt.toNat) (by decide); have := ti_div (10 : Int32) 10 rfl (h 3 b.toInt.toNat) (by decide); show ((0 : Int32) = 0 ∨ (0 : Int32) = 1) ∧ (((0 : Int32).toInt = 1 ∧ qrF (h 3) (h 4) (h 5) a.toInt.toNat b.toInt.toNat) ∨ ((0 : Int32).toInt = 0 ∧ ¬ qrF (h 3) (h 4) (h 5) a.toInt.toNat b.toInt.toNat)); exact ⟨Or.inl rfl, Or.inr ⟨rfl, fun w => by obtain ⟨w1, w2, w3, w4⟩ := w; first | exact absurd (Int32.toInt_inj.mp w2) (by assumption) | exact absurd (Int32.toInt_inj.mp w3) (by assumption) | exact w4 (congrArg Int32.toInt (by assumption)) | (have n1 := congrArg Int32.toInt (show r45 = r48 from by assumption); exact w1 (by omega))⟩⟩)⟩
          · refine ⟨(by have := ti_div (10 : Int32) 10 rfl (h 3 a.toInt.toNat) (by decide); have := ti_div (10 : Int32) 10 rfl (h 3 b.toInt.toNat) (by decide); omega), ?_⟩
            refine ⟨(by have := ti_div (10 : Int32) 10 rfl (h 3 a.toInt.toNat) (by decide); have := ti_div (10 : Int32) 10 rfl (h 3 b.toInt.toNat) (by decide); omega), ?_⟩
            refine ⟨fun c53 => ?_, fun c54 => ?_⟩
            · exact ⟨Or.inl rfl, hq 0 (by have : (0 : Int32).toInt = 0 := rfl; have := ti_div (10 : Int32) 10 rfl (h 3 a.toInt.toNat) (by decide); have := ti_div (10 : Int32) 10 rfl (h 3 b.toInt.toNat) (by decide); show ((0 : Int32) = 0 ∨ (0 : Int32) = 1) ∧ (((0 : Int32).toInt = 1 ∧ qrF (h 3) (h 4) (h 5) a.toInt.toNat b.toInt.toNat) ∨ ((0 : Int32).toInt = 0 ∧ ¬ qrF (h 3) (h 4) (h 5) a.toInt.toNat b.toInt.toNat)); exact ⟨Or.inl rfl, Or.inr ⟨rfl, fun w => by obtain ⟨w1, w2, w3, w4⟩ := w; first | exact absurd (Int32.toInt_inj.mp w2) (by assumption) | exact absurd (Int32.toInt_inj.mp w3) (by assumption) | exact w4 (congrArg Int32.toInt (by assumption)) | (have n1 := congrArg Int32.toInt (show r45 = r48 from by assumption); exact w1 (by omega))⟩⟩)⟩
            · refine ⟨fun c55 => ?_, fun c56 => ?_⟩
              · exact absurd c55 (by decide)
              · refine ⟨fun c57 => ?_, fun c58 => ?_⟩
                · exact absurd c57 (by decide)
                · exact ⟨Or.inr rfl, hq 1 (by have : (1 : Int32).toInt = 1 := rfl; have := ti_div (10 : Int32) 10 rfl (h 3 a.toInt.toNat) (by decide); have := ti_div (10 : Int32) 10 rfl (h 3 b.toInt.toNat) (by decide); show ((1 : Int32) = 0 ∨ (1 : Int32) = 1) ∧ (((1 : Int32).toInt = 1 ∧ qrF (h 3) (h 4) (h 5) a.toInt.toNat b.toInt.toNat) ∨ ((1 : Int32).toInt = 0 ∧ ¬ qrF (h 3) (h 4) (h 5) a.toInt.toNat b.toInt.toNat)); have n1 : ¬ r45.toInt = r48.toInt := (fun w => absurd (Int32.toInt_inj.mp w) (by assumption)); have n2 := congrArg Int32.toInt (show (h 4 a.toInt.toNat) = (h 4 b.toInt.toNat) from by assumption); have n3 := congrArg Int32.toInt (show ((h 5 a.toInt.toNat) - (h 5 a.toInt.toNat) / 10 * 10) = ((h 5 b.toInt.toNat) - (h 5 b.toInt.toNat) / 10 * 10) from by assumption); have n4 : ¬ ((h 5 a.toInt.toNat) / 10).toInt = ((h 5 b.toInt.toNat) / 10).toInt := (fun w => absurd (Int32.toInt_inj.mp w) (by assumption)); exact ⟨Or.inr rfl, Or.inl ⟨rfl, fun w => n1 (by omega), n2, n3, n4⟩⟩)⟩
        · refine ty_33 X h a hm1 _ (fun r59 p60 => ?_)
          have o61 : ((0 ≤ a.toInt ∧ a.toInt < (h 1 7).toInt) ∧ r59.toInt = ((h 3 a.toInt.toNat) / 10).toInt) ∨ (¬ (0 ≤ a.toInt ∧ a.toInt < (h 1 7).toInt) ∧ r59.toInt = -4) := p60
          clear p60
          show qm_PW X 33 [.ref 1, .int b] h _
          refine ty_33 X h b hm1 _ (fun r62 p63 => ?_)
          have o64 : ((0 ≤ b.toInt ∧ b.toInt < (h 1 7).toInt) ∧ r62.toInt = ((h 3 b.toInt.toNat) / 10).toInt) ∨ (¬ (0 ≤ b.toInt ∧ b.toInt < (h 1 7).toInt) ∧ r62.toInt = -4) := p63
          clear p63
          show (r59 = r62 → (((0 : Int32) = 0 ∨ (0 : Int32) = 1) ∧ Q (some (.int 0)) h)) ∧ (¬ r59 = r62 → ((0 ≤ a.toInt ∧ a.toInt < 10) ∧ ((0 ≤ b.toInt ∧ b.toInt < 10) ∧ ((¬ (h 4 a.toInt.toNat) = (h 4 b.toInt.toNat) → (((0 : Int32) = 0 ∨ (0 : Int32) = 1) ∧ Q (some (.int 0)) h)) ∧ ((h 4 a.toInt.toNat) = (h 4 b.toInt.toNat) → (((1 : Int32) = 0 → (((0 : Int32) = 0 ∨ (0 : Int32) = 1) ∧ Q (some (.int 0)) h)) ∧ (¬ (1 : Int32) = 0 → ((¬ (1 : Int32) = 0 → (((0 : Int32) = 0 ∨ (0 : Int32) = 1) ∧ Q (some (.int 0)) h)) ∧ ((1 : Int32) = 0 → (((1 : Int32) = 0 ∨ (1 : Int32) = 1) ∧ Q (some (.int 1)) h))))))))))
          refine ⟨fun c65 => ?_, fun c66 => ?_⟩
          · exact ⟨Or.inl rfl, hq 0 (by have : (0 : Int32).toInt = 0 := rfl; have := ti_div (10 : Int32) 10 rfl (h 3 a.toInt.toNat) (by decide); have := ti_div (10 : Int32) 10 rfl (h 3 b.toInt.toNat) (by decide); show ((0 : Int32) = 0 ∨ (0 : Int32) = 1) ∧ (((0 : Int32).toInt = 1 ∧ qrF (h 3) (h 4) (h 5) a.toInt.toNat b.toInt.toNat) ∨ ((0 : Int32).toInt = 0 ∧ ¬ qrF (h 3) (h 4) (h 5) a.toInt.toNat b.toInt.toNat)); exact ⟨Or.inl rfl, Or.inr ⟨rfl, fun w => by obtain ⟨w1, w2, w3, w4⟩ := w; first | exact absurd (Int32.toInt_inj.mp w2) (by assumption) | exact absurd (Int32.toInt_inj.mp w3) (by assumption) | exact w4 (congrArg Int32.toInt (by assumption)) | (have n1 := congrArg Int32.toInt (show r59 = r62 from by assumption); exact w1 (by omega))⟩⟩)⟩
          · refine ⟨(by have := ti_div (10 : Int32) 10 rfl (h 3 a.toInt.toNat) (by decide); have := ti_div (10 : Int32) 10 rfl (h 3 b.toInt.toNat) (by decide); omega), ?_⟩
            refine ⟨(by have := ti_div (10 : Int32) 10 rfl (h 3 a.toInt.toNat) (by decide); have := ti_div (10 : Int32) 10 rfl (h 3 b.toInt.toNat) (by decide); omega), ?_⟩
            refine ⟨fun c67 => ?_, fun c68 => ?_⟩
            · exact ⟨Or.inl rfl, hq 0 (by have : (0 : Int32).toInt = 0 := rfl; have := ti_div (10 : Int32) 10 rfl (h 3 a.toInt.toNat) (by decide); have := ti_div (10 : Int32) 10 rfl (h 3 b.toInt.toNat) (by decide); show ((0 : Int32) = 0 ∨ (0 : Int32) = 1) ∧ (((0 : Int32).toInt = 1 ∧ qrF (h 3) (h 4) (h 5) a.toInt.toNat b.toInt.toNat) ∨ ((0 : Int32).toInt = 0 ∧ ¬ qrF (h 3) (h 4) (h 5) a.toInt.toNat b.toInt.toNat)); exact ⟨Or.inl rfl, Or.inr ⟨rfl, fun w => by obtain ⟨w1, w2, w3, w4⟩ := w; first | exact absurd (Int32.toInt_inj.mp w2) (by assumption) | exact absurd (Int32.toInt_inj.mp w3) (by assumption) | exact w4 (congrArg Int32.toInt (by assumption)) | (have n1 := congrArg Int32.toInt (show r59 = r62 from by assumption); exact w1 (by omega))⟩⟩)⟩
            · refine ⟨fun c69 => ?_, fun c70 => ?_⟩
              · exact absurd c69 (by decide)
              · refine ⟨fun c71 => ?_, fun c72 => ?_⟩
                · exact ⟨Or.inl rfl, hq 0 (by have : (0 : Int32).toInt = 0 := rfl; have := ti_div (10 : Int32) 10 rfl (h 3 a.toInt.toNat) (by decide); have := ti_div (10 : Int32) 10 rfl (h 3 b.toInt.toNat) (by decide); show ((0 : Int32) = 0 ∨ (0 : Int32) = 1) ∧ (((0 : Int32).toInt = 1 ∧ qrF (h 3) (h 4) (h 5) a.toInt.toNat b.toInt.toNat) ∨ ((0 : Int32).toInt = 0 ∧ ¬ qrF (h 3) (h 4) (h 5) a.toInt.toNat b.toInt.toNat)); exact ⟨Or.inl rfl, Or.inr ⟨rfl, fun w => by obtain ⟨w1, w2, w3, w4⟩ := w; first | exact absurd (Int32.toInt_inj.mp w2) (by assumption) | exact absurd (Int32.toInt_inj.mp w3) (by assumption) | exact w4 (congrArg Int32.toInt (by assumption)) | (have n1 := congrArg Int32.toInt (show r59 = r62 from by assumption); exact w1 (by omega))⟩⟩)⟩
                · exact absurd c72 (by decide)
    · have := ti_eqK 0 rfl c10
      exact ⟨Or.inl rfl, hq 0 (by have : (0 : Int32).toInt = 0 := rfl; show ((0 : Int32) = 0 ∨ (0 : Int32) = 1) ∧ (((0 : Int32).toInt = 1 ∧ qrF (h 3) (h 4) (h 5) a.toInt.toNat b.toInt.toNat) ∨ ((0 : Int32).toInt = 0 ∧ ¬ qrF (h 3) (h 4) (h 5) a.toInt.toNat b.toInt.toNat)); exact ⟨Or.inl rfl, Or.inr ⟨rfl, fun w => by obtain ⟨w1, w2, w3, w4⟩ := w; first | (exfalso; omega) | exact absurd (Int32.toInt_inj.mp w2) (by assumption) | exact absurd (Int32.toInt_inj.mp w3) (by assumption) | exact w4 (congrArg Int32.toInt (by assumption))⟩⟩)⟩
-- ThreadBank.quarrel(I)I
set_option maxRecDepth 100000 in
set_option maxHeartbeats 4000000 in
theorem ty_115_c (X : qm_X) (h : qm_H) (a : Int32) (hp : mq 1 h) (Q : qm_Q) (hq : ∀ r : Int32, (r.toInt = qQuarrel a.toInt (mC h)) → Q (some (.int r)) h) : ∀ n : Nat, (∀ (l2 : Int32) (l3 : Int32) (l4 : Int32), (((0 ≤ l4.toInt ∧ l4.toInt ≤ (h 1 7).toInt) ∧ 0 ≤ a.toInt ∧ a.toInt ≤ 1) ∧ (l2.toInt, l3.toInt) = qfO (qrF (h 3) (h 4) (h 5)) (h 1 7).toInt.toNat l4.toInt.toNat) → ((10 - l4.toInt) * 100 + 50).toNat < n → qm_PA X 115 19 [(0, .ref 0), (1, .int a), (2, .int l2), (3, .int l3), (4, .int l4)] [] h Q) ∧ (∀ (l2 : Int32) (l3 : Int32) (l4 : Int32) (l5 : Int32), (((0 ≤ l4.toInt ∧ l4.toInt < (h 1 7).toInt) ∧ (l4.toInt < l5.toInt ∧ l5.toInt ≤ (h 1 7).toInt) ∧ 0 ≤ a.toInt ∧ a.toInt ≤ 1) ∧ (l2.toInt, l3.toInt) = qfI (qrF (h 3) (h 4) (h 5)) l4.toInt.toNat l5.toInt.toNat (qfO (qrF (h 3) (h 4) (h 5)) (h 1 7).toInt.toNat l4.toInt.toNat)) → ((10 - l4.toInt) * 100 + 40 - l5.toInt).toNat < n → qm_PA X 115 37 [(0, .ref 0), (1, .int a), (2, .int l2), (3, .int l3), (4, .int l4), (5, .int l5)] [] h Q) := by
  have hm1 : mq 1 h := hp
  have ⟨⟨_, _⟩, ⟨_, _⟩, _, _⟩ := hm1
  intro n
  induction n with
  | zero => exact ⟨fun _ _ _ _ h0 => absurd h0 (Nat.not_lt_zero _), fun _ _ _ _ _ h0 => absurd h0 (Nat.not_lt_zero _)⟩
  | succ n ih =>
    refine ⟨?_, ?_⟩
    · intro l2 l3 l4 hi hr
      have ti_l4 := ti_rng l4
      refine qm_seg_ok (C := qc_115) (rt := some .int) rfl rfl (cuts := [(19, [0, 1, 2, 3, 4]), (37, [0, 1, 2, 3, 4, 5])]) 400 _ _ _ _ ?_
      show ((h 1 7).toInt ≤ l4.toInt → ((¬ a = 0 → (Q (some (.int l3)) h)) ∧ (a = 0 → (Q (some (.int l2)) h)))) ∧ (l4.toInt < (h 1 7).toInt → (qm_PA X 115 37 [(0, .ref 0), (1, .int a), (2, .int l2), (3, .int l3), (4, .int l4), (5, .int (l4 + 1))] [] h Q))
      refine ⟨fun c1 => ?_, fun c2 => ?_⟩
      · refine ⟨fun c3 => ?_, fun c4 => ?_⟩
        · have := ti_neK 0 rfl c3
          exact hq l3 (by show l3.toInt = qQuarrel a.toInt (mC h); have hz := hi.2; rw [show l4.toInt.toNat = (h 1 7).toInt.toNat by omega] at hz; exact (show _ = qQuarrel a.toInt (mC h) from quarrel_ok (by omega) hz (by omega)))
        · have := ti_eqK 0 rfl c4
          exact hq l2 (by show l2.toInt = qQuarrel a.toInt (mC h); have hz := hi.2; rw [show l4.toInt.toNat = (h 1 7).toInt.toNat by omega] at hz; exact (show _ = qQuarrel a.toInt (mC h) from quarrel_ok (by omega) hz (by omega)))
      · exact ih.2 l2 l3 l4 (l4 + 1) (by have := ti_addK l4 (1 : Int32) 1 rfl; exact ⟨by omega, hi.2.trans (qfI_lo (by omega)).symm⟩) (by have := ti_addK l4 (1 : Int32) 1 rfl; omega)
    · intro l2 l3 l4 l5 hi hr
      have ti_l5 := ti_rng l5
      have hr1 := qfI_rng (Q := qrF (h 3) (h 4) (h 5)) (t := l4.toInt.toNat) (qfO_rng (Q := qrF (h 3) (h 4) (h 5)) (n := (h 1 7).toInt.toNat) (by omega) l4.toInt.toNat) l5.toInt.toNat
      rw [← hi.2] at hr1
      have hr2 : 0 ≤ l2.toInt ∧ l2.toInt ≤ 10 * ((l4.toInt.toNat : Nat) : Int) + ((l5.toInt.toNat : Nat) : Int) := hr1
      refine qm_seg_ok (C := qc_115) (rt := some .int) rfl rfl (cuts := [(19, [0, 1, 2, 3, 4]), (37, [0, 1, 2, 3, 4, 5])]) 400 _ _ _ _ ?_
      show ((h 1 7).toInt ≤ l5.toInt → (qm_PA X 115 19 [(0, .ref 0), (1, .int a), (2, .int l2), (3, .int l3), (4, .int (l4 + 1))] [] h Q)) ∧ (l5.toInt < (h 1 7).toInt → (qm_PW X 63 [.ref 1, .int l4, .int l5] h _))
      refine ⟨fun c1 => ?_, fun c2 => ?_⟩
      · exact ih.1 l2 l3 (l4 + 1) (by have := ti_addK l4 (1 : Int32) 1 rfl; have h5 : l5.toInt.toNat = (h 1 7).toInt.toNat := (by omega); have hz := hi.2; rw [h5] at hz; exact ⟨by omega, by rw [show (l4 + 1).toInt.toNat = l4.toInt.toNat + 1 by omega]; exact hz⟩) (by have := ti_addK l4 (1 : Int32) 1 rfl; omega)
      · refine ty_63 X h l4 l5 ⟨hm1, (by show (0 ≤ l4.toInt ∧ l4.toInt < (h 1 7).toInt) ∧ (0 ≤ l5.toInt ∧ l5.toInt < (h 1 7).toInt); omega)⟩ _ (fun r3 p4 => ?_)
        have o5 : (r3 = 0 ∨ r3 = 1) ∧ ((r3.toInt = 1 ∧ qrF (h 3) (h 4) (h 5) l4.toInt.toNat l5.toInt.toNat) ∨ (r3.toInt = 0 ∧ ¬ qrF (h 3) (h 4) (h 5) l4.toInt.toNat l5.toInt.toNat)) := p4
        clear p4
        show (r3 = 0 → (qm_PA X 115 37 [(0, .ref 0), (1, .int a), (2, .int l2), (3, .int l3), (4, .int l4), (5, .int (l5 + 1))] [] h Q)) ∧ (¬ r3 = 0 → ((¬ l2 = 0 → (qm_PA X 115 37 [(0, .ref 0), (1, .int a), (2, .int (l2 + 1)), (3, .int l3), (4, .int l4), (5, .int (l5 + 1))] [] h Q)) ∧ (l2 = 0 → (qm_PA X 115 37 [(0, .ref 0), (1, .int a), (2, .int (l2 + 1)), (3, .int ((10 * l4) + l5)), (4, .int l4), (5, .int (l5 + 1))] [] h Q))))
        refine ⟨fun c6 => ?_, fun c7 => ?_⟩
        · have := ti_eqK 0 rfl c6
          exact ih.2 l2 l3 l4 (l5 + 1) (by have := ti_addK l5 (1 : Int32) 1 rfl; have e9 : (l5 + 1).toInt.toNat = l5.toInt.toNat + 1 := (by omega); have hP := (o5.2.resolve_left (fun w => absurd w.1 (by omega))).2; exact ⟨by omega, by rw [e9]; exact qfI_n hi.2 (fun w => hP w.2) rfl rfl⟩) (by have := ti_addK l5 (1 : Int32) 1 rfl; omega)
        · have := ti_neK 0 rfl c7
          refine ⟨fun c8 => ?_, fun c9 => ?_⟩
          · have := ti_neK 0 rfl c8
            exact ih.2 (l2 + 1) l3 l4 (l5 + 1) (by have := ti_addK l5 (1 : Int32) 1 rfl; have := ti_addK l2 (1 : Int32) 1 rfl; have e9 : (l5 + 1).toInt.toNat = l5.toInt.toNat + 1 := (by omega); have hP := (o5.2.resolve_right (fun w => absurd w.1 (by omega))).2; have q1 := ti_mulL (10 : Int32) 10 rfl l4; have q2 := ti_add (10 * l4) l5; exact ⟨by omega, by rw [e9]; exact qfI_y hi.2 ⟨by omega, hP⟩ (by omega) (by omega)⟩) (by have := ti_addK l5 (1 : Int32) 1 rfl; omega)
          · have := ti_eqK 0 rfl c9
            exact ih.2 (l2 + 1) ((10 * l4) + l5) l4 (l5 + 1) (by have := ti_addK l5 (1 : Int32) 1 rfl; have := ti_addK l2 (1 : Int32) 1 rfl; have := ti_mulL (10 : Int32) 10 rfl l4; have := ti_add (10 * l4) l5; have e9 : (l5 + 1).toInt.toNat = l5.toInt.toNat + 1 := (by omega); have hP := (o5.2.resolve_right (fun w => absurd w.1 (by omega))).2; have q1 := ti_mulL (10 : Int32) 10 rfl l4; have q2 := ti_add (10 * l4) l5; exact ⟨by omega, by rw [e9]; exact qfI_y hi.2 ⟨by omega, hP⟩ (by omega) (by omega)⟩) (by have := ti_addK l5 (1 : Int32) 1 rfl; omega)
set_option maxRecDepth 100000 in
set_option maxHeartbeats 4000000 in
theorem ty_115 (X : qm_X) (h : qm_H) (a : Int32) (hp : mq 1 h) (Q : qm_Q) (hq : ∀ r : Int32, (r.toInt = qQuarrel a.toInt (mC h)) → Q (some (.int r)) h) : qm_PW X 115 [.ref 0, .int a] h Q := by
  have hm1 : mq 1 h := hp
  have ⟨⟨_, _⟩, ⟨_, _⟩, _, _⟩ := hm1
  refine qm_seg_ok (C := qc_115) (rt := some .int) rfl rfl (cuts := [(19, [0, 1, 2, 3, 4]), (37, [0, 1, 2, 3, 4, 5])]) 400 _ _ _ _ ?_
  show (a.toInt < 0 → (Q (some (.int (-1 : Int32))) h)) ∧ (0 ≤ a.toInt → ((a.toInt ≤ 1 → (qm_PA X 115 19 [(0, .ref 0), (1, .int a), (2, .int 0), (3, .int (-4 : Int32)), (4, .int 0)] [] h Q)) ∧ (1 < a.toInt → (Q (some (.int (-1 : Int32))) h))))
  refine ⟨fun c1 => ?_, fun c2 => ?_⟩
  · exact hq (-1 : Int32) (by show (-1 : Int32).toInt = qQuarrel a.toInt (mC h); rw [ti_n1]; exact (quarrel_no (M := mC h) (by omega)).symm)
  · refine ⟨fun c3 => ?_, fun c4 => ?_⟩
    · exact (ty_115_c X h a hp Q hq _).1 (0 : Int32) (-4 : Int32) (0 : Int32) (by have : (0 : Int32).toInt = 0 := rfl; exact ⟨by have : (0 : Int32).toInt = 0 := rfl; omega, rfl⟩) (Nat.lt_succ_self _)
    · exact hq (-1 : Int32) (by show (-1 : Int32).toInt = qQuarrel a.toInt (mC h); rw [ti_n1]; exact (quarrel_no (M := mC h) (by omega)).symm)
