-- ThreadBank$Memory.addThread(III)Z
set_option maxRecDepth 100000 in
set_option maxHeartbeats 4000000 in
theorem ty_45 (X : qm_X) (h : qm_H) (a : Int32) (b : Int32) (c : Int32) (hp : mq 1 h) (Q : qm_Q) (hq : ∀ r : Int32, ∀ h' : qm_H, (mq 1 h' ∧ (∀ k, (k < 1 ∨ 7 < k) → h' k = h k) ∧ ((r = 0 ∨ r = 1) ∧ ((r.toInt = 0 ∧ 10 ≤ (h 1 7).toInt) ∨ (r.toInt = 1 ∧ (h 1 7).toInt < 10)) ∧ (r.toInt = 1 ∨ mC h' = mC h) ∧ (r.toInt = 0 ∨ mC h' = mkM (h 1 6) ((h 1 7) + 1) (h 1 8) (h 1 9) (h 2) (upd (h 3) (h 1 7).toInt.toNat a) (upd (h 4) (h 1 7).toInt.toNat b) (upd (h 5) (h 1 7).toInt.toNat c) (h 6) (h 7)))) → Q (some (.int r)) h') : qm_PW X 45 [.ref 1, .int a, .int b, .int c] h Q := by
  have hm1 : mq 1 h := hp
  have ⟨⟨_, _⟩, ⟨_, _⟩, _, _⟩ := hm1
  refine qm_seg_ok (C := qc_45) (rt := some .boolean) rfl rfl (cuts := []) 400 _ _ _ _ ?_
  show ((h 1 7).toInt < 10 → ((0 ≤ (h 1 7).toInt ∧ (h 1 7).toInt < 10) ∧ ((0 ≤ (h 1 7).toInt ∧ (h 1 7).toInt < 10) ∧ ((0 ≤ (h 1 7).toInt ∧ (h 1 7).toInt < 10) ∧ (((1 : Int32) = 0 ∨ (1 : Int32) = 1) ∧ Q (some (.int 1)) (qm_row (qm_row (qm_row (qm_row h 3 (upd (h 3) (h 1 7).toInt.toNat a)) 4 (upd (h 4) (h 1 7).toInt.toNat b)) 5 (upd (h 5) (h 1 7).toInt.toNat c)) 1 (upd (h 1) 7 ((h 1 7) + 1)))))))) ∧ (10 ≤ (h 1 7).toInt → (((0 : Int32) = 0 ∨ (0 : Int32) = 1) ∧ Q (some (.int 0)) h))
  refine ⟨fun c1 => ?_, fun c2 => ?_⟩
  · refine ⟨(by omega), ?_⟩
    refine ⟨(by omega), ?_⟩
    refine ⟨(by omega), ?_⟩
    exact ⟨Or.inr rfl, hq 1 (qm_row (qm_row (qm_row (qm_row h 3 (upd (h 3) (h 1 7).toInt.toNat a)) 4 (upd (h 4) (h 1 7).toInt.toNat b)) 5 (upd (h 5) (h 1 7).toInt.toNat c)) 1 (upd (h 1) 7 ((h 1 7) + 1))) ⟨(by have ⟨⟨_, _⟩, ⟨_, _⟩, _, _⟩ := hm1; show (0 ≤ (h 1 6).toInt ∧ (h 1 6).toInt ≤ 4) ∧ (0 ≤ ((h 1 7) + 1).toInt ∧ ((h 1 7) + 1).toInt ≤ 10) ∧ (0 ≤ (h 1 9).toInt ∧ (h 1 9).toInt ≤ 6); have := ti_addK (h 1 7) (1 : Int32) 1 rfl; omega), (fun k hk => by simp only [qm_row]; rw [if_neg (by omega)]; rw [if_neg (by omega)]; rw [if_neg (by omega)]; rw [if_neg (by omega)]), (by have : (1 : Int32).toInt = 1 := rfl; show ((1 : Int32) = 0 ∨ (1 : Int32) = 1) ∧ (((1 : Int32).toInt = 0 ∧ 10 ≤ (h 1 7).toInt) ∨ ((1 : Int32).toInt = 1 ∧ (h 1 7).toInt < 10)) ∧ ((1 : Int32).toInt = 1 ∨ mC (qm_row (qm_row (qm_row (qm_row h 3 (upd (h 3) (h 1 7).toInt.toNat a)) 4 (upd (h 4) (h 1 7).toInt.toNat b)) 5 (upd (h 5) (h 1 7).toInt.toNat c)) 1 (upd (h 1) 7 ((h 1 7) + 1))) = mC h) ∧ ((1 : Int32).toInt = 0 ∨ mC (qm_row (qm_row (qm_row (qm_row h 3 (upd (h 3) (h 1 7).toInt.toNat a)) 4 (upd (h 4) (h 1 7).toInt.toNat b)) 5 (upd (h 5) (h 1 7).toInt.toNat c)) 1 (upd (h 1) 7 ((h 1 7) + 1))) = mkM (h 1 6) ((h 1 7) + 1) (h 1 8) (h 1 9) (h 2) (upd (h 3) (h 1 7).toInt.toNat a) (upd (h 4) (h 1 7).toInt.toNat b) (upd (h 5) (h 1 7).toInt.toNat c) (h 6) (h 7)); first | exact ⟨Or.inl rfl, by omega, Or.inr rfl, Or.inl rfl⟩ | exact ⟨Or.inr rfl, by omega, Or.inl rfl, Or.inr rfl⟩)⟩⟩
  · exact ⟨Or.inl rfl, hq 0 h ⟨hm1, (fun k hk => rfl), (by have : (0 : Int32).toInt = 0 := rfl; show ((0 : Int32) = 0 ∨ (0 : Int32) = 1) ∧ (((0 : Int32).toInt = 0 ∧ 10 ≤ (h 1 7).toInt) ∨ ((0 : Int32).toInt = 1 ∧ (h 1 7).toInt < 10)) ∧ ((0 : Int32).toInt = 1 ∨ mC h = mC h) ∧ ((0 : Int32).toInt = 0 ∨ mC h = mkM (h 1 6) ((h 1 7) + 1) (h 1 8) (h 1 9) (h 2) (upd (h 3) (h 1 7).toInt.toNat a) (upd (h 4) (h 1 7).toInt.toNat b) (upd (h 5) (h 1 7).toInt.toNat c) (h 6) (h 7)); first | exact ⟨Or.inl rfl, by omega, Or.inr rfl, Or.inl rfl⟩ | exact ⟨Or.inr rfl, by omega, Or.inl rfl, Or.inr rfl⟩)⟩⟩
-- ThreadBank$Memory.tieIfMay(III)I
set_option maxRecDepth 100000 in
set_option maxHeartbeats 4000000 in
theorem ty_47 (X : qm_X) (h : qm_H) (a : Int32) (b : Int32) (c : Int32) (hp : mq 1 h) (Q : qm_Q) (hq : ∀ r : Int32, ∀ h' : qm_H, (mq 1 h' ∧ (∀ k, (k < 1 ∨ 7 < k) → h' k = h k) ∧ (r.toInt = (opTie a b c (mC h)).1 ∧ mC h' = (opTie a b c (mC h)).2)) → Q (some (.int r)) h') : qm_PW X 47 [.ref 1, .int a, .int b, .int c] h Q := by
  have hm1 : mq 1 h := hp
  have ⟨⟨_, _⟩, ⟨_, _⟩, _, _⟩ := hm1
  refine qm_seg_ok (C := qc_47) (rt := some .int) rfl rfl (cuts := []) 400 _ _ _ _ ?_
  show qm_PW X 30 [.ref 1, .int a] h _
  refine ty_30 X h a trivial _ (fun r1 p2 => ?_)
  have o3 : (r1 = 0 ∨ r1 = 1) ∧ ((r1.toInt = 1 ∧ 0 ≤ a.toInt ∧ a.toInt / 10 < (h 1 6).toInt ∧ a.toInt % 10 < 5) ∨ (r1.toInt = 0 ∧ ¬ (0 ≤ a.toInt ∧ a.toInt / 10 < (h 1 6).toInt ∧ a.toInt % 10 < 5))) := p2
  clear p2
  show (r1 = 0 → (Q (some (.int (-1 : Int32))) h)) ∧ (¬ r1 = 0 → (qm_PW X 31 [.ref 1, .int b] h _))
  refine ⟨fun c4 => ?_, fun c5 => ?_⟩
  · have := ti_eqK 0 rfl c4
    exact hq (-1 : Int32) h ⟨hm1, (fun k hk => rfl), (by show (-1 : Int32).toInt = (opTie a b c (mC h)).1 ∧ mC h = (opTie a b c (mC h)).2; rw [ti_n1]; rw [show opTie a b c (mC h) = _ from tie_bad (by omega)]; exact ⟨rfl, rfl⟩)⟩
  · have := ti_neK 0 rfl c5
    refine ty_31 X h b trivial _ (fun r6 p7 => ?_)
    have o8 : (r6 = 0 ∨ r6 = 1) ∧ ((r6.toInt = 1 ∧ 0 ≤ b.toInt ∧ b.toInt / 10 < (h 1 6).toInt ∧ b.toInt % 10 < (h 1 6).toInt ∧ ¬ b.toInt / 10 = b.toInt % 10) ∨ (r6.toInt = 0 ∧ ¬ (0 ≤ b.toInt ∧ b.toInt / 10 < (h 1 6).toInt ∧ b.toInt % 10 < (h 1 6).toInt ∧ ¬ b.toInt / 10 = b.toInt % 10))) := p7
    clear p7
    show (r6 = 0 → (Q (some (.int (-1 : Int32))) h)) ∧ (¬ r6 = 0 → (qm_PW X 26 [.int c] h _))
    refine ⟨fun c9 => ?_, fun c10 => ?_⟩
    · have := ti_eqK 0 rfl c9
      exact hq (-1 : Int32) h ⟨hm1, (fun k hk => rfl), (by show (-1 : Int32).toInt = (opTie a b c (mC h)).1 ∧ mC h = (opTie a b c (mC h)).2; rw [ti_n1]; rw [show opTie a b c (mC h) = _ from tie_bad (by omega)]; exact ⟨rfl, rfl⟩)⟩
    · have := ti_neK 0 rfl c10
      refine tx_26 X h c trivial _ (fun r11 p12 => ?_)
      have o13 : (r11 = 0 ∨ r11 = 1) ∧ ((r11.toInt = 1 ∧ 10 ≤ c.toInt ∧ c.toInt ≤ 99) ∨ (r11.toInt = 0 ∧ ¬ (10 ≤ c.toInt ∧ c.toInt ≤ 99))) := p12
      clear p12
      show (¬ r11 = 0 → (qm_PW X 40 [.ref 1, .int a] h _)) ∧ (r11 = 0 → (Q (some (.int (-1 : Int32))) h))
      refine ⟨fun c14 => ?_, fun c15 => ?_⟩
      · have := ti_neK 0 rfl c14
        refine ty_40 X h a hm1 _ (fun r16 p17 => ?_)
        have o18 : ((0 ≤ a.toInt ∧ a.toInt / 10 < (h 1 6).toInt ∧ a.toInt % 10 < 5) ∧ r16.toInt = rmC (h 2 (a.toInt / 10).toNat).toInt (a.toInt % 10) - cntR (h 3) (h 1 7).toInt.toNat a.toInt) ∨ (¬ (0 ≤ a.toInt ∧ a.toInt / 10 < (h 1 6).toInt ∧ a.toInt % 10 < 5) ∧ r16.toInt = - cntR (h 3) (h 1 7).toInt.toNat a.toInt) := p17
        clear p17
        show (r16.toInt ≤ 0 → (Q (some (.int (-3 : Int32))) h)) ∧ (0 < r16.toInt → (qm_PW X 45 [.ref 1, .int a, .int b, .int c] h _))
        refine ⟨fun c19 => ?_, fun c20 => ?_⟩
        · exact hq (-3 : Int32) h ⟨hm1, (fun k hk => rfl), (by show (-3 : Int32).toInt = (opTie a b c (mC h)).1 ∧ mC h = (opTie a b c (mC h)).2; rw [ti_n3]; rw [show opTie a b c (mC h) = _ from tie_full ⟨by omega, by omega, by omega⟩ (Or.inl (by omega))]; exact ⟨rfl, rfl⟩)⟩
        · refine ty_45 X h a b c hm1 _ (fun r21 g22 p23 => ?_)
          obtain ⟨p23_0, p23_1, p23_2⟩ := p23
          have f24 : ∀ k, (k < 1 ∨ 7 < k) → g22 k = h k := fun k hk => (p23_1 k (by omega)).trans (rfl)
          have o25 : (r21 = 0 ∨ r21 = 1) ∧ ((r21.toInt = 0 ∧ 10 ≤ (h 1 7).toInt) ∨ (r21.toInt = 1 ∧ (h 1 7).toInt < 10)) ∧ (r21.toInt = 1 ∨ mC g22 = mC h) ∧ (r21.toInt = 0 ∨ mC g22 = mkM (h 1 6) ((h 1 7) + 1) (h 1 8) (h 1 9) (h 2) (upd (h 3) (h 1 7).toInt.toNat a) (upd (h 4) (h 1 7).toInt.toNat b) (upd (h 5) (h 1 7).toInt.toNat c) (h 6) (h 7)) := p23_2
          clear p23_2
          show (¬ r21 = 0 → (Q (some (.int ((g22 1 7) - 1))) g22)) ∧ (r21 = 0 → (Q (some (.int (-3 : Int32))) g22))
          refine ⟨fun c26 => ?_, fun c27 => ?_⟩
          · have := ti_neK 0 rfl c26
            exact hq ((g22 1 7) - 1) g22 ⟨p23_0, (fun k hk => f24 k hk), (by have := ti_subK (g22 1 7) (1 : Int32) 1 rfl; show ((g22 1 7) - 1).toInt = (opTie a b c (mC h)).1 ∧ mC g22 = (opTie a b c (mC h)).2; have e9 := o25.2.2.2.resolve_left (by omega); rw [show opTie a b c (mC h) = _ from tie_ok ⟨by omega, by omega, by omega⟩ (by omega) (by omega) (by omega)]; exact ⟨tie_r (congrArg thM e9) (by omega), e9⟩)⟩
          · have := ti_eqK 0 rfl c27
            exact hq (-3 : Int32) g22 ⟨p23_0, (fun k hk => f24 k hk), (by show (-3 : Int32).toInt = (opTie a b c (mC h)).1 ∧ mC g22 = (opTie a b c (mC h)).2; rw [ti_n3]; rw [show opTie a b c (mC h) = _ from tie_full ⟨by omega, by omega, by omega⟩ (Or.inr (by omega))]; exact ⟨rfl, o25.2.2.1.resolve_left (by omega)⟩)⟩
      · have := ti_eqK 0 rfl c15
        exact hq (-1 : Int32) h ⟨hm1, (fun k hk => rfl), (by show (-1 : Int32).toInt = (opTie a b c (mC h)).1 ∧ mC h = (opTie a b c (mC h)).2; rw [ti_n1]; rw [show opTie a b c (mC h) = _ from tie_bad (by omega)]; exact ⟨rfl, rfl⟩)⟩
-- ThreadBank.tie(III)I
set_option maxRecDepth 100000 in
set_option maxHeartbeats 4000000 in
theorem ty_98 (X : qm_X) (h : qm_H) (a : Int32) (b : Int32) (c : Int32) (hp : mq 1 h ∧ mq 8 h ∧ mq 15 h ∧ sq h) (Q : qm_Q) (hq : ∀ r : Int32, ∀ h' : qm_H, (mq 1 h' ∧ mq 8 h' ∧ mq 15 h' ∧ sq h' ∧ (∀ k, (k < 1 ∨ 7 < k) → h' k = h k) ∧ (r.toInt = (opTie a b c (mC h)).1 ∧ mC h' = (opTie a b c (mC h)).2)) → Q (some (.int r)) h') : qm_PW X 98 [.ref 0, .int a, .int b, .int c] h Q := by
  have hm1 : mq 1 h := hp.1
  have ⟨⟨_, _⟩, ⟨_, _⟩, _, _⟩ := hm1
  have hm8 : mq 8 h := hp.2.1
  have ⟨⟨_, _⟩, ⟨_, _⟩, _, _⟩ := hm8
  have hm15 : mq 15 h := hp.2.2.1
  have ⟨⟨_, _⟩, ⟨_, _⟩, _, _⟩ := hm15
  have hmsq : sq h := hp.2.2.2
  refine qm_seg_ok (C := qc_98) (rt := some .int) rfl rfl (cuts := []) 400 _ _ _ _ ?_
  show qm_PW X 47 [.ref 1, .int a, .int b, .int c] h _
  refine ty_47 X h a b c hm1 _ (fun r1 g2 p3 => ?_)
  obtain ⟨p3_0, p3_1, p3_2⟩ := p3
  have f4 : ∀ k, (k < 1 ∨ 7 < k) → g2 k = h k := fun k hk => (p3_1 k (by omega)).trans (rfl)
  have k5 : mq 8 g2 := by unfold mq; rw [p3_1 8 (by omega)]; exact hm8
  have k6 : mq 15 g2 := by unfold mq; rw [p3_1 15 (by omega)]; exact hm15
  have k7 : sq g2 := by unfold sq; rw [p3_1 37 (by omega)]; exact hmsq
  have o8 : r1.toInt = (opTie a b c (mC h)).1 ∧ mC g2 = (opTie a b c (mC h)).2 := p3_2
  clear p3_2
  show Q (some (.int r1)) g2
  exact hq r1 g2 ⟨p3_0, k5, k6, k7, (fun k hk => f4 k hk), (by show r1.toInt = (opTie a b c (mC h)).1 ∧ mC g2 = (opTie a b c (mC h)).2; exact o8)⟩
-- ThreadBank.day(I)I
set_option maxRecDepth 100000 in
set_option maxHeartbeats 4000000 in
theorem ty_103 (X : qm_X) (h : qm_H) (a : Int32) (hp : mq 1 h ∧ mq 8 h ∧ mq 15 h ∧ sq h) (Q : qm_Q) (hq : ∀ r : Int32, ∀ h' : qm_H, (mq 1 h' ∧ mq 8 h' ∧ mq 15 h' ∧ sq h' ∧ (∀ k, (k < 1 ∨ 7 < k) → h' k = h k) ∧ (r.toInt = (opDay a (mC h)).1 ∧ mC h' = (opDay a (mC h)).2)) → Q (some (.int r)) h') : qm_PW X 103 [.ref 0, .int a] h Q := by
  have hm1 : mq 1 h := hp.1
  have ⟨⟨_, _⟩, ⟨_, _⟩, _, _⟩ := hm1
  have hm8 : mq 8 h := hp.2.1
  have ⟨⟨_, _⟩, ⟨_, _⟩, _, _⟩ := hm8
  have hm15 : mq 15 h := hp.2.2.1
  have ⟨⟨_, _⟩, ⟨_, _⟩, _, _⟩ := hm15
  have hmsq : sq h := hp.2.2.2
  refine qm_seg_ok (C := qc_103) (rt := some .int) rfl rfl (cuts := []) 400 _ _ _ _ ?_
  show (a.toInt < 0 → (Q (some (.int (-1 : Int32))) h)) ∧ (0 ≤ a.toInt → ((a.toInt ≤ 9 → (Q (some (.int (h 1 8))) (qm_row h 1 (upd (h 1) 8 a)))) ∧ (9 < a.toInt → (Q (some (.int (-1 : Int32))) h))))
  refine ⟨fun c1 => ?_, fun c2 => ?_⟩
  · exact hq (-1 : Int32) h ⟨hm1, hm8, hm15, hmsq, (fun k hk => rfl), (by show (-1 : Int32).toInt = (opDay a (mC h)).1 ∧ mC h = (opDay a (mC h)).2; rw [ti_n1]; rw [show opDay a (mC h) = _ from day_bad (by omega)]; exact ⟨rfl, rfl⟩)⟩
  · refine ⟨fun c3 => ?_, fun c4 => ?_⟩
    · exact hq (h 1 8) (qm_row h 1 (upd (h 1) 8 a)) ⟨(by have ⟨⟨_, _⟩, ⟨_, _⟩, _, _⟩ := hm1; have ⟨⟨_, _⟩, ⟨_, _⟩, _, _⟩ := hm8; have ⟨⟨_, _⟩, ⟨_, _⟩, _, _⟩ := hm15; show (0 ≤ (h 1 6).toInt ∧ (h 1 6).toInt ≤ 4) ∧ (0 ≤ (h 1 7).toInt ∧ (h 1 7).toInt ≤ 10) ∧ (0 ≤ (h 1 9).toInt ∧ (h 1 9).toInt ≤ 6); omega), (by exact hm8), (by exact hm15), (by exact hmsq), (fun k hk => by simp only [qm_row]; rw [if_neg (by omega)]), (by show (h 1 8).toInt = (opDay a (mC h)).1 ∧ mC (qm_row h 1 (upd (h 1) 8 a)) = (opDay a (mC h)).2; rw [show opDay a (mC h) = _ from day_ok (by omega)]; exact ⟨rfl, rfl⟩)⟩
    · exact hq (-1 : Int32) h ⟨hm1, hm8, hm15, hmsq, (fun k hk => rfl), (by show (-1 : Int32).toInt = (opDay a (mC h)).1 ∧ mC h = (opDay a (mC h)).2; rw [ti_n1]; rw [show opDay a (mC h) = _ from day_bad (by omega)]; exact ⟨rfl, rfl⟩)⟩
-- ThreadBank.forget(I)I
set_option maxRecDepth 100000 in
set_option maxHeartbeats 4000000 in
theorem ty_120 (X : qm_X) (h : qm_H) (a : Int32) (hp : mq 1 h ∧ mq 8 h ∧ mq 15 h ∧ sq h) (Q : qm_Q) (hq : ∀ r : Int32, ∀ h' : qm_H, (mq 1 h' ∧ mq 8 h' ∧ mq 15 h' ∧ sq h' ∧ (∀ k, (k < 1 ∨ 7 < k) → h' k = h k) ∧ (r.toInt = (opForget a (mC h)).1 ∧ mC h' = (opForget a (mC h)).2)) → Q (some (.int r)) h') : qm_PW X 120 [.ref 0, .int a] h Q := by
  have hm1 : mq 1 h := hp.1
  have ⟨⟨_, _⟩, ⟨_, _⟩, _, _⟩ := hm1
  have hm8 : mq 8 h := hp.2.1
  have ⟨⟨_, _⟩, ⟨_, _⟩, _, _⟩ := hm8
  have hm15 : mq 15 h := hp.2.2.1
  have ⟨⟨_, _⟩, ⟨_, _⟩, _, _⟩ := hm15
  have hmsq : sq h := hp.2.2.2
  refine qm_seg_ok (C := qc_120) (rt := some .int) rfl rfl (cuts := []) 400 _ _ _ _ ?_
  show (a.toInt < 0 → (Q (some (.int (-1 : Int32))) h)) ∧ (0 ≤ a.toInt → ((a.toInt ≤ (h 1 9).toInt → (Q (some (.int (h 1 9))) (qm_row h 1 (upd (h 1) 9 a)))) ∧ ((h 1 9).toInt < a.toInt → (Q (some (.int (-1 : Int32))) h))))
  refine ⟨fun c1 => ?_, fun c2 => ?_⟩
  · exact hq (-1 : Int32) h ⟨hm1, hm8, hm15, hmsq, (fun k hk => rfl), (by show (-1 : Int32).toInt = (opForget a (mC h)).1 ∧ mC h = (opForget a (mC h)).2; rw [ti_n1]; rw [show opForget a (mC h) = _ from forget_bad (by omega)]; exact ⟨rfl, rfl⟩)⟩
  · refine ⟨fun c3 => ?_, fun c4 => ?_⟩
    · exact hq (h 1 9) (qm_row h 1 (upd (h 1) 9 a)) ⟨(by have ⟨⟨_, _⟩, ⟨_, _⟩, _, _⟩ := hm1; have ⟨⟨_, _⟩, ⟨_, _⟩, _, _⟩ := hm8; have ⟨⟨_, _⟩, ⟨_, _⟩, _, _⟩ := hm15; show (0 ≤ (h 1 6).toInt ∧ (h 1 6).toInt ≤ 4) ∧ (0 ≤ (h 1 7).toInt ∧ (h 1 7).toInt ≤ 10) ∧ (0 ≤ a.toInt ∧ a.toInt ≤ 6); omega), (by exact hm8), (by exact hm15), (by exact hmsq), (fun k hk => by simp only [qm_row]; rw [if_neg (by omega)]), (by show (h 1 9).toInt = (opForget a (mC h)).1 ∧ mC (qm_row h 1 (upd (h 1) 9 a)) = (opForget a (mC h)).2; rw [show opForget a (mC h) = _ from forget_ok (by omega)]; exact ⟨rfl, rfl⟩)⟩
    · exact hq (-1 : Int32) h ⟨hm1, hm8, hm15, hmsq, (fun k hk => rfl), (by show (-1 : Int32).toInt = (opForget a (mC h)).1 ∧ mC h = (opForget a (mC h)).2; rw [ti_n1]; rw [show opForget a (mC h) = _ from forget_bad (by omega)]; exact ⟨rfl, rfl⟩)⟩
-- ThreadBank$Memory.addSeen(II)Z
set_option maxRecDepth 100000 in
set_option maxHeartbeats 4000000 in
theorem ty_46 (X : qm_X) (h : qm_H) (a : Int32) (b : Int32) (hp : mq 1 h) (Q : qm_Q) (hq : ∀ r : Int32, ∀ h' : qm_H, (mq 1 h' ∧ (∀ k, (k < 1 ∨ 7 < k) → h' k = h k) ∧ ((r = 0 ∨ r = 1) ∧ ((r.toInt = 0 ∧ 6 ≤ (h 1 9).toInt) ∨ (r.toInt = 1 ∧ (h 1 9).toInt < 6)) ∧ (r.toInt = 1 ∨ mC h' = mC h) ∧ (r.toInt = 0 ∨ mC h' = mkM (h 1 6) (h 1 7) (h 1 8) ((h 1 9) + 1) (h 2) (h 3) (h 4) (h 5) (upd (h 6) (h 1 9).toInt.toNat a) (upd (h 7) (h 1 9).toInt.toNat b)))) → Q (some (.int r)) h') : qm_PW X 46 [.ref 1, .int a, .int b] h Q := by
  have hm1 : mq 1 h := hp
  have ⟨⟨_, _⟩, ⟨_, _⟩, _, _⟩ := hm1
  refine qm_seg_ok (C := qc_46) (rt := some .boolean) rfl rfl (cuts := []) 400 _ _ _ _ ?_
  show ((h 1 9).toInt < 6 → ((0 ≤ (h 1 9).toInt ∧ (h 1 9).toInt < 6) ∧ ((0 ≤ (h 1 9).toInt ∧ (h 1 9).toInt < 6) ∧ (((1 : Int32) = 0 ∨ (1 : Int32) = 1) ∧ Q (some (.int 1)) (qm_row (qm_row (qm_row h 6 (upd (h 6) (h 1 9).toInt.toNat a)) 7 (upd (h 7) (h 1 9).toInt.toNat b)) 1 (upd (h 1) 9 ((h 1 9) + 1))))))) ∧ (6 ≤ (h 1 9).toInt → (((0 : Int32) = 0 ∨ (0 : Int32) = 1) ∧ Q (some (.int 0)) h))
  refine ⟨fun c1 => ?_, fun c2 => ?_⟩
  · refine ⟨(by omega), ?_⟩
    refine ⟨(by omega), ?_⟩
    exact ⟨Or.inr rfl, hq 1 (qm_row (qm_row (qm_row h 6 (upd (h 6) (h 1 9).toInt.toNat a)) 7 (upd (h 7) (h 1 9).toInt.toNat b)) 1 (upd (h 1) 9 ((h 1 9) + 1))) ⟨(by have ⟨⟨_, _⟩, ⟨_, _⟩, _, _⟩ := hm1; show (0 ≤ (h 1 6).toInt ∧ (h 1 6).toInt ≤ 4) ∧ (0 ≤ (h 1 7).toInt ∧ (h 1 7).toInt ≤ 10) ∧ (0 ≤ ((h 1 9) + 1).toInt ∧ ((h 1 9) + 1).toInt ≤ 6); have := ti_addK (h 1 9) (1 : Int32) 1 rfl; omega), (fun k hk => by simp only [qm_row]; rw [if_neg (by omega)]; rw [if_neg (by omega)]; rw [if_neg (by omega)]), (by have : (1 : Int32).toInt = 1 := rfl; show ((1 : Int32) = 0 ∨ (1 : Int32) = 1) ∧ (((1 : Int32).toInt = 0 ∧ 6 ≤ (h 1 9).toInt) ∨ ((1 : Int32).toInt = 1 ∧ (h 1 9).toInt < 6)) ∧ ((1 : Int32).toInt = 1 ∨ mC (qm_row (qm_row (qm_row h 6 (upd (h 6) (h 1 9).toInt.toNat a)) 7 (upd (h 7) (h 1 9).toInt.toNat b)) 1 (upd (h 1) 9 ((h 1 9) + 1))) = mC h) ∧ ((1 : Int32).toInt = 0 ∨ mC (qm_row (qm_row (qm_row h 6 (upd (h 6) (h 1 9).toInt.toNat a)) 7 (upd (h 7) (h 1 9).toInt.toNat b)) 1 (upd (h 1) 9 ((h 1 9) + 1))) = mkM (h 1 6) (h 1 7) (h 1 8) ((h 1 9) + 1) (h 2) (h 3) (h 4) (h 5) (upd (h 6) (h 1 9).toInt.toNat a) (upd (h 7) (h 1 9).toInt.toNat b)); first | exact ⟨Or.inl rfl, by omega, Or.inr rfl, Or.inl rfl⟩ | exact ⟨Or.inr rfl, by omega, Or.inl rfl, Or.inr rfl⟩)⟩⟩
  · exact ⟨Or.inl rfl, hq 0 h ⟨hm1, (fun k hk => rfl), (by have : (0 : Int32).toInt = 0 := rfl; show ((0 : Int32) = 0 ∨ (0 : Int32) = 1) ∧ (((0 : Int32).toInt = 0 ∧ 6 ≤ (h 1 9).toInt) ∨ ((0 : Int32).toInt = 1 ∧ (h 1 9).toInt < 6)) ∧ ((0 : Int32).toInt = 1 ∨ mC h = mC h) ∧ ((0 : Int32).toInt = 0 ∨ mC h = mkM (h 1 6) (h 1 7) (h 1 8) ((h 1 9) + 1) (h 2) (h 3) (h 4) (h 5) (upd (h 6) (h 1 9).toInt.toNat a) (upd (h 7) (h 1 9).toInt.toNat b)); first | exact ⟨Or.inl rfl, by omega, Or.inr rfl, Or.inl rfl⟩ | exact ⟨Or.inr rfl, by omega, Or.inl rfl, Or.inr rfl⟩)⟩⟩
-- ThreadBank.see(II)I
set_option maxRecDepth 100000 in
set_option maxHeartbeats 4000000 in
theorem ty_119 (X : qm_X) (h : qm_H) (a : Int32) (b : Int32) (hp : mq 1 h ∧ mq 8 h ∧ mq 15 h ∧ sq h) (Q : qm_Q) (hq : ∀ r : Int32, ∀ h' : qm_H, (mq 1 h' ∧ mq 8 h' ∧ mq 15 h' ∧ sq h' ∧ (∀ k, (k < 1 ∨ 7 < k) → h' k = h k) ∧ (r.toInt = (opSee a b (mC h)).1 ∧ mC h' = (opSee a b (mC h)).2)) → Q (some (.int r)) h') : qm_PW X 119 [.ref 0, .int a, .int b] h Q := by
  have hm1 : mq 1 h := hp.1
  have ⟨⟨_, _⟩, ⟨_, _⟩, _, _⟩ := hm1
  have hm8 : mq 8 h := hp.2.1
  have ⟨⟨_, _⟩, ⟨_, _⟩, _, _⟩ := hm8
  have hm15 : mq 15 h := hp.2.2.1
  have ⟨⟨_, _⟩, ⟨_, _⟩, _, _⟩ := hm15
  have hmsq : sq h := hp.2.2.2
  refine qm_seg_ok (C := qc_119) (rt := some .int) rfl rfl (cuts := []) 400 _ _ _ _ ?_
  show qm_PW X 31 [.ref 1, .int a] h _
  refine ty_31 X h a trivial _ (fun r1 p2 => ?_)
  have o3 : (r1 = 0 ∨ r1 = 1) ∧ ((r1.toInt = 1 ∧ 0 ≤ a.toInt ∧ a.toInt / 10 < (h 1 6).toInt ∧ a.toInt % 10 < (h 1 6).toInt ∧ ¬ a.toInt / 10 = a.toInt % 10) ∨ (r1.toInt = 0 ∧ ¬ (0 ≤ a.toInt ∧ a.toInt / 10 < (h 1 6).toInt ∧ a.toInt % 10 < (h 1 6).toInt ∧ ¬ a.toInt / 10 = a.toInt % 10))) := p2
  clear p2
  show (r1 = 0 → (Q (some (.int (-1 : Int32))) h)) ∧ (¬ r1 = 0 → ((b.toInt < 0 → (Q (some (.int (-1 : Int32))) h)) ∧ (0 ≤ b.toInt → ((b.toInt ≤ 99 → (qm_PW X 46 [.ref 1, .int a, .int b] h _)) ∧ (99 < b.toInt → (Q (some (.int (-1 : Int32))) h))))))
  refine ⟨fun c4 => ?_, fun c5 => ?_⟩
  · have := ti_eqK 0 rfl c4
    exact hq (-1 : Int32) h ⟨hm1, hm8, hm15, hmsq, (fun k hk => rfl), (by show (-1 : Int32).toInt = (opSee a b (mC h)).1 ∧ mC h = (opSee a b (mC h)).2; rw [ti_n1]; rw [show opSee a b (mC h) = _ from see_bad (by omega)]; exact ⟨rfl, rfl⟩)⟩
  · have := ti_neK 0 rfl c5
    refine ⟨fun c6 => ?_, fun c7 => ?_⟩
    · exact hq (-1 : Int32) h ⟨hm1, hm8, hm15, hmsq, (fun k hk => rfl), (by show (-1 : Int32).toInt = (opSee a b (mC h)).1 ∧ mC h = (opSee a b (mC h)).2; rw [ti_n1]; rw [show opSee a b (mC h) = _ from see_bad (by omega)]; exact ⟨rfl, rfl⟩)⟩
    · refine ⟨fun c8 => ?_, fun c9 => ?_⟩
      · refine ty_46 X h a b hm1 _ (fun r10 g11 p12 => ?_)
        obtain ⟨p12_0, p12_1, p12_2⟩ := p12
        have f13 : ∀ k, (k < 1 ∨ 7 < k) → g11 k = h k := fun k hk => (p12_1 k (by omega)).trans (rfl)
        have k14 : mq 8 g11 := by unfold mq; rw [p12_1 8 (by omega)]; exact hm8
        have k15 : mq 15 g11 := by unfold mq; rw [p12_1 15 (by omega)]; exact hm15
        have k16 : sq g11 := by unfold sq; rw [p12_1 37 (by omega)]; exact hmsq
        have o17 : (r10 = 0 ∨ r10 = 1) ∧ ((r10.toInt = 0 ∧ 6 ≤ (h 1 9).toInt) ∨ (r10.toInt = 1 ∧ (h 1 9).toInt < 6)) ∧ (r10.toInt = 1 ∨ mC g11 = mC h) ∧ (r10.toInt = 0 ∨ mC g11 = mkM (h 1 6) (h 1 7) (h 1 8) ((h 1 9) + 1) (h 2) (h 3) (h 4) (h 5) (upd (h 6) (h 1 9).toInt.toNat a) (upd (h 7) (h 1 9).toInt.toNat b)) := p12_2
        clear p12_2
        show (r10 = 0 → (Q (some (.int (-3 : Int32))) g11)) ∧ (¬ r10 = 0 → (Q (some (.int (g11 1 9))) g11))
        refine ⟨fun c18 => ?_, fun c19 => ?_⟩
        · have := ti_eqK 0 rfl c18
          exact hq (-3 : Int32) g11 ⟨p12_0, k14, k15, k16, (fun k hk => f13 k hk), (by show (-3 : Int32).toInt = (opSee a b (mC h)).1 ∧ mC g11 = (opSee a b (mC h)).2; rw [ti_n3]; rw [show opSee a b (mC h) = _ from see_full ⟨by omega, by omega, by omega⟩ (by omega)]; exact ⟨rfl, o17.2.2.1.resolve_left (by omega)⟩)⟩
        · have := ti_neK 0 rfl c19
          exact hq (g11 1 9) g11 ⟨p12_0, k14, k15, k16, (fun k hk => f13 k hk), (by show (g11 1 9).toInt = (opSee a b (mC h)).1 ∧ mC g11 = (opSee a b (mC h)).2; have e9 := o17.2.2.2.resolve_left (by omega); rw [show opSee a b (mC h) = _ from see_ok ⟨by omega, by omega, by omega⟩ (by omega) (by omega)]; exact ⟨see_r (congrArg snM e9) (by omega) (by omega), e9⟩)⟩
      · exact hq (-1 : Int32) h ⟨hm1, hm8, hm15, hmsq, (fun k hk => rfl), (by show (-1 : Int32).toInt = (opSee a b (mC h)).1 ∧ mC h = (opSee a b (mC h)).2; rw [ti_n1]; rw [show opSee a b (mC h) = _ from see_bad (by omega)]; exact ⟨rfl, rfl⟩)⟩
-- ThreadBank.move(II)I
set_option maxRecDepth 100000 in
set_option maxHeartbeats 4000000 in
theorem ty_100 (X : qm_X) (h : qm_H) (a : Int32) (b : Int32) (hp : mq 1 h ∧ mq 8 h ∧ mq 15 h ∧ sq h) (Q : qm_Q) (hq : ∀ r : Int32, ∀ h' : qm_H, (mq 1 h' ∧ mq 8 h' ∧ mq 15 h' ∧ sq h' ∧ (∀ k, (k < 1 ∨ 7 < k) → h' k = h k) ∧ (r.toInt = (opMove a b (mC h)).1 ∧ mC h' = (opMove a b (mC h)).2)) → Q (some (.int r)) h') : qm_PW X 100 [.ref 0, .int a, .int b] h Q := by
  have hm1 : mq 1 h := hp.1
  have ⟨⟨_, _⟩, ⟨_, _⟩, _, _⟩ := hm1
  have hm8 : mq 8 h := hp.2.1
  have ⟨⟨_, _⟩, ⟨_, _⟩, _, _⟩ := hm8
  have hm15 : mq 15 h := hp.2.2.1
  have ⟨⟨_, _⟩, ⟨_, _⟩, _, _⟩ := hm15
  have hmsq : sq h := hp.2.2.2
  refine qm_seg_ok (C := qc_100) (rt := some .int) rfl rfl (cuts := []) 400 _ _ _ _ ?_
  show qm_PW X 29 [.ref 1, .int a] h _
  refine ty_29 X h a trivial _ (fun r1 p2 => ?_)
  have o3 : (r1 = 0 ∨ r1 = 1) ∧ ((r1.toInt = 1 ∧ 0 ≤ a.toInt ∧ a.toInt < (h 1 7).toInt) ∨ (r1.toInt = 0 ∧ ¬ (0 ≤ a.toInt ∧ a.toInt < (h 1 7).toInt))) := p2
  clear p2
  show (r1 = 0 → (Q (some (.int (-1 : Int32))) h)) ∧ (¬ r1 = 0 → (qm_PW X 30 [.ref 1, .int b] h _))
  refine ⟨fun c4 => ?_, fun c5 => ?_⟩
  · have := ti_eqK 0 rfl c4
    exact hq (-1 : Int32) h ⟨hm1, hm8, hm15, hmsq, (fun k hk => rfl), (by show (-1 : Int32).toInt = (opMove a b (mC h)).1 ∧ mC h = (opMove a b (mC h)).2; rw [ti_n1]; rw [show opMove a b (mC h) = _ from move_bad (by omega)]; exact ⟨rfl, rfl⟩)⟩
  · have := ti_neK 0 rfl c5
    refine ty_30 X h b trivial _ (fun r6 p7 => ?_)
    have o8 : (r6 = 0 ∨ r6 = 1) ∧ ((r6.toInt = 1 ∧ 0 ≤ b.toInt ∧ b.toInt / 10 < (h 1 6).toInt ∧ b.toInt % 10 < 5) ∨ (r6.toInt = 0 ∧ ¬ (0 ≤ b.toInt ∧ b.toInt / 10 < (h 1 6).toInt ∧ b.toInt % 10 < 5))) := p7
    clear p7
    show (¬ r6 = 0 → ((0 ≤ a.toInt ∧ a.toInt < 10) ∧ ((¬ (h 3 a.toInt.toNat) = b → (qm_PW X 40 [.ref 1, .int b] h _)) ∧ ((h 3 a.toInt.toNat) = b → (Q (some (.int (-2 : Int32))) h))))) ∧ (r6 = 0 → (Q (some (.int (-1 : Int32))) h))
    refine ⟨fun c9 => ?_, fun c10 => ?_⟩
    · have := ti_neK 0 rfl c9
      refine ⟨(by omega), ?_⟩
      refine ⟨fun c11 => ?_, fun c12 => ?_⟩
      · refine ty_40 X h b hm1 _ (fun r13 p14 => ?_)
        have o15 : ((0 ≤ b.toInt ∧ b.toInt / 10 < (h 1 6).toInt ∧ b.toInt % 10 < 5) ∧ r13.toInt = rmC (h 2 (b.toInt / 10).toNat).toInt (b.toInt % 10) - cntR (h 3) (h 1 7).toInt.toNat b.toInt) ∨ (¬ (0 ≤ b.toInt ∧ b.toInt / 10 < (h 1 6).toInt ∧ b.toInt % 10 < 5) ∧ r13.toInt = - cntR (h 3) (h 1 7).toInt.toNat b.toInt) := p14
        clear p14
        show (0 < r13.toInt → ((0 ≤ a.toInt ∧ a.toInt < 10) ∧ (Q (some (.int (h 3 a.toInt.toNat))) (qm_row h 3 (upd (h 3) a.toInt.toNat b))))) ∧ (r13.toInt ≤ 0 → (Q (some (.int (-3 : Int32))) h))
        refine ⟨fun c16 => ?_, fun c17 => ?_⟩
        · refine ⟨(by omega), ?_⟩
          exact hq (h 3 a.toInt.toNat) (qm_row h 3 (upd (h 3) a.toInt.toNat b)) ⟨(by exact hm1), (by exact hm8), (by exact hm15), (by exact hmsq), (fun k hk => by simp only [qm_row]; rw [if_neg (by omega)]), (by show (h 3 a.toInt.toNat).toInt = (opMove a b (mC h)).1 ∧ mC (qm_row h 3 (upd (h 3) a.toInt.toNat b)) = (opMove a b (mC h)).2; rw [show opMove a b (mC h) = _ from move_ok ⟨by omega, by omega⟩ (fun z => absurd (Int32.toInt_inj.mp z) (show ¬ (h 3 a.toInt.toNat) = b from by assumption)) (by omega)]; exact ⟨rfl, rfl⟩)⟩
        · exact hq (-3 : Int32) h ⟨hm1, hm8, hm15, hmsq, (fun k hk => rfl), (by show (-3 : Int32).toInt = (opMove a b (mC h)).1 ∧ mC h = (opMove a b (mC h)).2; rw [ti_n3]; rw [show opMove a b (mC h) = _ from move_full ⟨by omega, by omega⟩ (fun z => absurd (Int32.toInt_inj.mp z) (show ¬ (h 3 a.toInt.toNat) = b from by assumption)) (by omega)]; exact ⟨rfl, rfl⟩)⟩
      · exact hq (-2 : Int32) h ⟨hm1, hm8, hm15, hmsq, (fun k hk => rfl), (by show (-2 : Int32).toInt = (opMove a b (mC h)).1 ∧ mC h = (opMove a b (mC h)).2; rw [ti_n2]; rw [show opMove a b (mC h) = _ from move_st ⟨by omega, by omega⟩ (congrArg Int32.toInt (show (h 3 a.toInt.toNat) = b from by assumption))]; exact ⟨rfl, rfl⟩)⟩
    · have := ti_eqK 0 rfl c10
      exact hq (-1 : Int32) h ⟨hm1, hm8, hm15, hmsq, (fun k hk => rfl), (by show (-1 : Int32).toInt = (opMove a b (mC h)).1 ∧ mC h = (opMove a b (mC h)).2; rw [ti_n1]; rw [show opMove a b (mC h) = _ from move_bad (by omega)]; exact ⟨rfl, rfl⟩)⟩
-- ThreadBank.teach(II)I
set_option maxRecDepth 100000 in
set_option maxHeartbeats 4000000 in
theorem ty_102_c (X : qm_X) (h : qm_H) (a : Int32) (b : Int32) (hp : mq 1 h ∧ mq 8 h ∧ mq 15 h ∧ sq h) (Q : qm_Q) (hq : ∀ r : Int32, ∀ h' : qm_H, (mq 1 h' ∧ mq 8 h' ∧ mq 15 h' ∧ sq h' ∧ (∀ k, (k < 1 ∨ 7 < k) → h' k = h k) ∧ (r.toInt = (opTeach a b (mC h)).1 ∧ mC h' = (opTeach a b (mC h)).2)) → Q (some (.int r)) h') : ∀ n : Nat, (∀ (l3 : Int32), ((0 ≤ l3.toInt ∧ l3.toInt ≤ 5) ∧ ((0 ≤ a.toInt ∧ a.toInt < (h 1 6).toInt) ∧ (0 ≤ b.toInt ∧ b.toInt ≤ 3)) ∧ ∀ f : Nat, (f : Int) < l3.toInt → cntR (h 3) (h 1 7).toInt.toNat (10 * a.toInt + (f : Int)) ≤ rmC b.toInt (f : Int)) → (5 - l3.toInt).toNat < n → qm_PA X 102 24 [(0, .ref 0), (1, .int a), (2, .int b), (3, .int l3)] [] h Q) := by
  have hm1 : mq 1 h := hp.1
  have ⟨⟨_, _⟩, ⟨_, _⟩, _, _⟩ := hm1
  have hm8 : mq 8 h := hp.2.1
  have ⟨⟨_, _⟩, ⟨_, _⟩, _, _⟩ := hm8
  have hm15 : mq 15 h := hp.2.2.1
  have ⟨⟨_, _⟩, ⟨_, _⟩, _, _⟩ := hm15
  have hmsq : sq h := hp.2.2.2
  intro n
  induction n with
  | zero => exact fun _ _ h0 => absurd h0 (Nat.not_lt_zero _)
  | succ n ih =>
    intro l3 hi hr
    have ti_l3 := ti_rng l3
    refine qm_seg_ok (C := qc_102) (rt := some .int) rfl rfl (cuts := [(24, [0, 1, 2, 3])]) 400 _ _ _ _ ?_
    show (5 ≤ l3.toInt → (qm_PW X 32 [.ref 1, .int a] h _)) ∧ (l3.toInt < 5 → (qm_PW X 35 [.ref 1, .int ((10 * a) + l3)] h _))
    refine ⟨fun c1 => ?_, fun c2 => ?_⟩
    · refine ty_32 X h a hm1 _ (fun r3 p4 => ?_)
      have o5 : ((0 ≤ a.toInt ∧ a.toInt < (h 1 6).toInt) ∧ r3.toInt = (h 2 a.toInt.toNat).toInt) ∨ (¬ (0 ≤ a.toInt ∧ a.toInt < (h 1 6).toInt) ∧ r3.toInt = -4) := p4
      clear p4
      show (0 ≤ a.toInt ∧ a.toInt < 4) ∧ (Q (some (.int r3)) (qm_row h 2 (upd (h 2) a.toInt.toNat b)))
      refine ⟨(by omega), ?_⟩
      exact hq r3 (qm_row h 2 (upd (h 2) a.toInt.toNat b)) ⟨(by exact hm1), (by exact hm8), (by exact hm15), (by exact hmsq), (fun k hk => by simp only [qm_row]; rw [if_neg (by omega)]), (by show r3.toInt = (opTeach a b (mC h)).1 ∧ mC (qm_row h 2 (upd (h 2) a.toInt.toNat b)) = (opTeach a b (mC h)).2; rw [show opTeach a b (mC h) = _ from teach_ok ⟨by omega, by omega⟩ (fun f hf => hi.2.2 f (by omega))]; exact ⟨(show r3.toInt = (h 2 a.toInt.toNat).toInt by omega), rfl⟩)⟩
    · refine ty_35 X h ((10 * a) + l3) hm1 _ (fun r6 p7 => ?_)
      have o8 : r6.toInt = cntR (h 3) (h 1 7).toInt.toNat ((10 * a) + l3).toInt ∧ (0 ≤ r6.toInt ∧ r6.toInt ≤ 10) := p7
      clear p7
      show qm_PW X 27 [.int b, .int l3] h _
      refine tx_27 X h b l3 trivial _ (fun r9 p10 => ?_)
      have o11 : r9.toInt = rmC b.toInt l3.toInt := p10
      clear p10
      show (r6.toInt ≤ r9.toInt → (qm_PA X 102 24 [(0, .ref 0), (1, .int a), (2, .int b), (3, .int (l3 + 1))] [] h Q)) ∧ (r9.toInt < r6.toInt → (Q (some (.int (-3 : Int32))) h))
      refine ⟨fun c12 => ?_, fun c13 => ?_⟩
      · exact ih (l3 + 1) (by have := ti_addK l3 (1 : Int32) 1 rfl; have := ti_mulL (10 : Int32) 10 rfl a; have := ti_add (10 * a) l3; have q1 := ti_mulL (10 : Int32) 10 rfl a; have q2 := ti_add (10 * a) l3; have q3 : ((10 * a) + l3).toInt = 10 * a.toInt + ((l3.toInt.toNat : Nat) : Int) := (by omega); rw [q3] at o8; have q4 : l3.toInt = ((l3.toInt.toNat : Nat) : Int) := (by omega); rw [q4] at o11; have q5 : cntR (h 3) (h 1 7).toInt.toNat (10 * a.toInt + ((l3.toInt.toNat : Nat) : Int)) ≤ rmC b.toInt ((l3.toInt.toNat : Nat) : Int) := (by omega); exact ⟨by omega, hi.2.1, fun f hf => if w : (f : Int) < l3.toInt then hi.2.2 f w else (by rw [show f = l3.toInt.toNat by omega]; exact q5)⟩) (by have := ti_addK l3 (1 : Int32) 1 rfl; have := ti_mulL (10 : Int32) 10 rfl a; have := ti_add (10 * a) l3; omega)
      · exact hq (-3 : Int32) h ⟨hm1, hm8, hm15, hmsq, (fun k hk => rfl), (by have := ti_mulL (10 : Int32) 10 rfl a; have := ti_add (10 * a) l3; show (-3 : Int32).toInt = (opTeach a b (mC h)).1 ∧ mC h = (opTeach a b (mC h)).2; rw [ti_n3]; have q1 := ti_mulL (10 : Int32) 10 rfl a; have q2 := ti_add (10 * a) l3; have q3 : ((10 * a) + l3).toInt = 10 * a.toInt + ((l3.toInt.toNat : Nat) : Int) := (by omega); rw [q3] at o8; have q4 : l3.toInt = ((l3.toInt.toNat : Nat) : Int) := (by omega); rw [q4] at o11; rw [show opTeach a b (mC h) = _ from teach_full (f := l3.toInt.toNat) ⟨by omega, by omega⟩ (by omega) (by omega)]; exact ⟨rfl, rfl⟩)⟩
set_option maxRecDepth 100000 in
set_option maxHeartbeats 4000000 in
theorem ty_102 (X : qm_X) (h : qm_H) (a : Int32) (b : Int32) (hp : mq 1 h ∧ mq 8 h ∧ mq 15 h ∧ sq h) (Q : qm_Q) (hq : ∀ r : Int32, ∀ h' : qm_H, (mq 1 h' ∧ mq 8 h' ∧ mq 15 h' ∧ sq h' ∧ (∀ k, (k < 1 ∨ 7 < k) → h' k = h k) ∧ (r.toInt = (opTeach a b (mC h)).1 ∧ mC h' = (opTeach a b (mC h)).2)) → Q (some (.int r)) h') : qm_PW X 102 [.ref 0, .int a, .int b] h Q := by
  have hm1 : mq 1 h := hp.1
  have ⟨⟨_, _⟩, ⟨_, _⟩, _, _⟩ := hm1
  have hm8 : mq 8 h := hp.2.1
  have ⟨⟨_, _⟩, ⟨_, _⟩, _, _⟩ := hm8
  have hm15 : mq 15 h := hp.2.2.1
  have ⟨⟨_, _⟩, ⟨_, _⟩, _, _⟩ := hm15
  have hmsq : sq h := hp.2.2.2
  refine qm_seg_ok (C := qc_102) (rt := some .int) rfl rfl (cuts := [(24, [0, 1, 2, 3])]) 400 _ _ _ _ ?_
  show qm_PW X 28 [.ref 1, .int a] h _
  refine ty_28 X h a trivial _ (fun r1 p2 => ?_)
  have o3 : (r1 = 0 ∨ r1 = 1) ∧ ((r1.toInt = 1 ∧ 0 ≤ a.toInt ∧ a.toInt < (h 1 6).toInt) ∨ (r1.toInt = 0 ∧ ¬ (0 ≤ a.toInt ∧ a.toInt < (h 1 6).toInt))) := p2
  clear p2
  show (r1 = 0 → (Q (some (.int (-1 : Int32))) h)) ∧ (¬ r1 = 0 → ((b.toInt < 0 → (Q (some (.int (-1 : Int32))) h)) ∧ (0 ≤ b.toInt → ((b.toInt < 4 → (qm_PA X 102 24 [(0, .ref 0), (1, .int a), (2, .int b), (3, .int 0)] [] h Q)) ∧ (4 ≤ b.toInt → (Q (some (.int (-1 : Int32))) h))))))
  refine ⟨fun c4 => ?_, fun c5 => ?_⟩
  · have := ti_eqK 0 rfl c4
    exact hq (-1 : Int32) h ⟨hm1, hm8, hm15, hmsq, (fun k hk => rfl), (by show (-1 : Int32).toInt = (opTeach a b (mC h)).1 ∧ mC h = (opTeach a b (mC h)).2; rw [ti_n1]; rw [show opTeach a b (mC h) = _ from teach_bad (by omega)]; exact ⟨rfl, rfl⟩)⟩
  · have := ti_neK 0 rfl c5
    refine ⟨fun c6 => ?_, fun c7 => ?_⟩
    · exact hq (-1 : Int32) h ⟨hm1, hm8, hm15, hmsq, (fun k hk => rfl), (by show (-1 : Int32).toInt = (opTeach a b (mC h)).1 ∧ mC h = (opTeach a b (mC h)).2; rw [ti_n1]; rw [show opTeach a b (mC h) = _ from teach_bad (by omega)]; exact ⟨rfl, rfl⟩)⟩
    · refine ⟨fun c8 => ?_, fun c9 => ?_⟩
      · exact (ty_102_c X h a b hp Q hq _) (0 : Int32) (by have : (0 : Int32).toInt = 0 := rfl; exact ⟨by have : (0 : Int32).toInt = 0 := rfl; omega, by omega, fun f hf => absurd hf (by have : (0 : Int32).toInt = 0 := rfl; omega)⟩) (Nat.lt_succ_self _)
      · exact hq (-1 : Int32) h ⟨hm1, hm8, hm15, hmsq, (fun k hk => rfl), (by show (-1 : Int32).toInt = (opTeach a b (mC h)).1 ∧ mC h = (opTeach a b (mC h)).2; rw [ti_n1]; rw [show opTeach a b (mC h) = _ from teach_bad (by omega)]; exact ⟨rfl, rfl⟩)⟩
