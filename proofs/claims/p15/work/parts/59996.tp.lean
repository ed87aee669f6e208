-- ThreadBank$TextReader.append(I)Z
set_option maxRecDepth 100000 in
set_option maxHeartbeats 4000000 in
theorem tx_75 (X : qm_X) (h : qm_H) (a : Int32) (hp : 0 ≤ a.toInt ∧ a.toInt ≤ 127) (Q : qm_Q) (hq : ∀ r : Int32, ∀ h' : qm_H, ((∀ k, (k < 23 ∨ 24 < k) → h' k = h k) ∧ ((r = 0 ∨ r = 1) ∧ ((r.toInt = 1 ∧ (0 ≤ (h 23 2).toInt ∧ (h 23 2).toInt < 160)) ∨ (r.toInt = 0 ∧ ((h 23 2).toInt < 0 ∨ 160 ≤ (h 23 2).toInt))) ∧ (((h' 23 4).toInt = (h 23 4).toInt)) ∧ fdQ a (h 23 2).toInt (h' 23 2).toInt (h 24) (h' 24))) → Q (some (.int r)) h') : qm_PW X 75 [.ref 23, .int a] h Q := by
  have hp0 : 0 ≤ a.toInt ∧ a.toInt ≤ 127 := hp
  refine qm_seg_ok (C := qc_75) (rt := some .boolean) rfl rfl (cuts := []) 400 _ _ _ _ ?_
  show ((h 23 2).toInt < 0 → (((0 : Int32) = 0 ∨ (0 : Int32) = 1) ∧ Q (some (.int 0)) h)) ∧ (0 ≤ (h 23 2).toInt → (((h 23 2).toInt < 160 → ((0 ≤ (h 23 2).toInt ∧ (h 23 2).toInt < 160) ∧ (((1 : Int32) = 0 ∨ (1 : Int32) = 1) ∧ Q (some (.int 1)) (qm_row (qm_row h 24 (upd (h 24) (h 23 2).toInt.toNat ((Int32.toInt8 ((Int32.toInt8 a).toInt32)).toInt32))) 23 (upd (h 23) 2 ((h 23 2) + 1)))))) ∧ (160 ≤ (h 23 2).toInt → (((0 : Int32) = 0 ∨ (0 : Int32) = 1) ∧ Q (some (.int 0)) h))))
  refine ⟨fun c1 => ?_, fun c2 => ?_⟩
  · exact ⟨Or.inl rfl, hq 0 h ⟨(fun k hk => rfl), (by have : (0 : Int32).toInt = 0 := rfl; show ((0 : Int32) = 0 ∨ (0 : Int32) = 1) ∧ (((0 : Int32).toInt = 1 ∧ (0 ≤ (h 23 2).toInt ∧ (h 23 2).toInt < 160)) ∨ ((0 : Int32).toInt = 0 ∧ ((h 23 2).toInt < 0 ∨ 160 ≤ (h 23 2).toInt))) ∧ (((h 23 4).toInt = (h 23 4).toInt)) ∧ fdQ a (h 23 2).toInt (h 23 2).toInt (h 24) (h 24); first | exact ⟨Or.inl rfl, by omega, by omega, Or.inr ⟨by omega, rfl, rfl⟩⟩ | exact ⟨Or.inr rfl, by omega, by omega, Or.inl ⟨by omega, by omega, by omega, by rw [i8_id (by omega)]⟩⟩)⟩⟩
  · refine ⟨fun c3 => ?_, fun c4 => ?_⟩
    · refine ⟨(by omega), ?_⟩
      exact ⟨Or.inr rfl, hq 1 (qm_row (qm_row h 24 (upd (h 24) (h 23 2).toInt.toNat ((Int32.toInt8 ((Int32.toInt8 a).toInt32)).toInt32))) 23 (upd (h 23) 2 ((h 23 2) + 1))) ⟨(fun k hk => by simp only [qm_row]; rw [if_neg (by omega)]; rw [if_neg (by omega)]), (by have : (1 : Int32).toInt = 1 := rfl; have := ti_addK (h 23 2) (1 : Int32) 1 rfl; show ((1 : Int32) = 0 ∨ (1 : Int32) = 1) ∧ (((1 : Int32).toInt = 1 ∧ (0 ≤ (h 23 2).toInt ∧ (h 23 2).toInt < 160)) ∨ ((1 : Int32).toInt = 0 ∧ ((h 23 2).toInt < 0 ∨ 160 ≤ (h 23 2).toInt))) ∧ (((h 23 4).toInt = (h 23 4).toInt)) ∧ fdQ a (h 23 2).toInt ((h 23 2) + 1).toInt (h 24) (upd (h 24) (h 23 2).toInt.toNat ((Int32.toInt8 ((Int32.toInt8 a).toInt32)).toInt32)); first | exact ⟨Or.inl rfl, by omega, by omega, Or.inr ⟨by omega, rfl, rfl⟩⟩ | exact ⟨Or.inr rfl, by omega, by omega, Or.inl ⟨by omega, by omega, by omega, by rw [i8_id (by omega)]⟩⟩)⟩⟩
    · exact ⟨Or.inl rfl, hq 0 h ⟨(fun k hk => rfl), (by have : (0 : Int32).toInt = 0 := rfl; show ((0 : Int32) = 0 ∨ (0 : Int32) = 1) ∧ (((0 : Int32).toInt = 1 ∧ (0 ≤ (h 23 2).toInt ∧ (h 23 2).toInt < 160)) ∨ ((0 : Int32).toInt = 0 ∧ ((h 23 2).toInt < 0 ∨ 160 ≤ (h 23 2).toInt))) ∧ (((h 23 4).toInt = (h 23 4).toInt)) ∧ fdQ a (h 23 2).toInt (h 23 2).toInt (h 24) (h 24); first | exact ⟨Or.inl rfl, by omega, by omega, Or.inr ⟨by omega, rfl, rfl⟩⟩ | exact ⟨Or.inr rfl, by omega, by omega, Or.inl ⟨by omega, by omega, by omega, by rw [i8_id (by omega)]⟩⟩)⟩⟩
-- ThreadBank.feed(I)I
set_option maxRecDepth 100000 in
set_option maxHeartbeats 4000000 in
theorem tx_90 (X : qm_X) (h : qm_H) (a : Int32) (hp : mq 1 h ∧ mq 8 h ∧ mq 15 h ∧ sq h) (Q : qm_Q) (hq : ∀ r : Int32, ∀ h' : qm_H, (mq 1 h' ∧ mq 8 h' ∧ mq 15 h' ∧ sq h' ∧ (∀ k, (k < 23 ∨ 24 < k) → h' k = h k) ∧ (True ∧ (((h' 23 4).toInt = (h 23 4).toInt)) ∧ fdQ a (h 23 2).toInt (h' 23 2).toInt (h 24) (h' 24))) → Q (some (.int r)) h') : qm_PW X 90 [.ref 0, .int a] h Q := by
  have hm1 : mq 1 h := hp.1
  have ⟨⟨_, _⟩, ⟨_, _⟩, _, _⟩ := hm1
  have hm8 : mq 8 h := hp.2.1
  have ⟨⟨_, _⟩, ⟨_, _⟩, _, _⟩ := hm8
  have hm15 : mq 15 h := hp.2.2.1
  have ⟨⟨_, _⟩, ⟨_, _⟩, _, _⟩ := hm15
  have hmsq : sq h := hp.2.2.2
  refine qm_seg_ok (C := qc_90) (rt := some .int) rfl rfl (cuts := []) 400 _ _ _ _ ?_
  show (a.toInt < 0 → (Q (some (.int (-1 : Int32))) h)) ∧ (0 ≤ a.toInt → ((a.toInt ≤ 127 → (qm_PW X 75 [.ref 23, .int a] h _)) ∧ (127 < a.toInt → (Q (some (.int (-1 : Int32))) h))))
  refine ⟨fun c1 => ?_, fun c2 => ?_⟩
  · exact hq (-1 : Int32) h ⟨hm1, hm8, hm15, hmsq, (fun k hk => rfl), (by show True ∧ (((h 23 4).toInt = (h 23 4).toInt)) ∧ fdQ a (h 23 2).toInt (h 23 2).toInt (h 24) (h 24); exact ⟨trivial, by omega, Or.inr ⟨by omega, rfl, rfl⟩⟩)⟩
  · refine ⟨fun c3 => ?_, fun c4 => ?_⟩
    · refine tx_75 X h a (by omega) _ (fun r5 g6 p7 => ?_)
      obtain ⟨p7_0, p7_1⟩ := p7
      have f8 : ∀ k, (k < 23 ∨ 24 < k) → g6 k = h k := fun k hk => (p7_0 k (by omega)).trans (rfl)
      have k9 : mq 1 g6 := by unfold mq; rw [p7_0 1 (by omega)]; exact hm1
      have k10 : mq 8 g6 := by unfold mq; rw [p7_0 8 (by omega)]; exact hm8
      have k11 : mq 15 g6 := by unfold mq; rw [p7_0 15 (by omega)]; exact hm15
      have k12 : sq g6 := by unfold sq; rw [p7_0 37 (by omega)]; exact hmsq
      have o13 : (r5 = 0 ∨ r5 = 1) ∧ ((r5.toInt = 1 ∧ (0 ≤ (h 23 2).toInt ∧ (h 23 2).toInt < 160)) ∨ (r5.toInt = 0 ∧ ((h 23 2).toInt < 0 ∨ 160 ≤ (h 23 2).toInt))) ∧ (((g6 23 4).toInt = (h 23 4).toInt)) ∧ fdQ a (h 23 2).toInt (g6 23 2).toInt (h 24) (g6 24) := p7_1
      clear p7_1
      show (r5 = 0 → (Q (some (.int (-3 : Int32))) g6)) ∧ (¬ r5 = 0 → (Q (some (.int (g6 23 2))) g6))
      refine ⟨fun c14 => ?_, fun c15 => ?_⟩
      · have := ti_eqK 0 rfl c14
        exact hq (-3 : Int32) g6 ⟨k9, k10, k11, k12, (fun k hk => f8 k hk), (by show True ∧ (((g6 23 4).toInt = (h 23 4).toInt)) ∧ fdQ a (h 23 2).toInt (g6 23 2).toInt (h 24) (g6 24); exact ⟨trivial, by omega, o13.2.2.2⟩)⟩
      · have := ti_neK 0 rfl c15
        exact hq (g6 23 2) g6 ⟨k9, k10, k11, k12, (fun k hk => f8 k hk), (by show True ∧ (((g6 23 4).toInt = (h 23 4).toInt)) ∧ fdQ a (h 23 2).toInt (g6 23 2).toInt (h 24) (g6 24); exact ⟨trivial, by omega, o13.2.2.2⟩)⟩
    · exact hq (-1 : Int32) h ⟨hm1, hm8, hm15, hmsq, (fun k hk => rfl), (by show True ∧ (((h 23 4).toInt = (h 23 4).toInt)) ∧ fdQ a (h 23 2).toInt (h 23 2).toInt (h 24) (h 24); exact ⟨trivial, by omega, Or.inr ⟨by omega, rfl, rfl⟩⟩)⟩
-- ThreadBank.end(I)I
set_option maxRecDepth 100000 in
set_option maxHeartbeats 4000000 in
theorem tx_91 (X : qm_X) (h : qm_H) (a : Int32) (hp : mq 1 h ∧ mq 8 h ∧ mq 15 h ∧ sq h) (Q : qm_Q) (hq : ∀ r : Int32, ∀ h' : qm_H, (mq 1 h' ∧ mq 8 h' ∧ mq 15 h' ∧ sq h' ∧ (∀ k, (k < 23 ∨ 23 < k) → h' k = h k) ∧ ((((0 ≤ a.toInt ∧ a.toInt ≤ (h 23 2).toInt) ∧ (h' 23 2).toInt = a.toInt) ∨ (¬ (0 ≤ a.toInt ∧ a.toInt ≤ (h 23 2).toInt) ∧ (h' 23 2).toInt = (h 23 2).toInt)) ∧ (((h' 23 4).toInt = (h 23 4).toInt)))) → Q (some (.int r)) h') : qm_PW X 91 [.ref 0, .int a] h Q := by
  have hm1 : mq 1 h := hp.1
  have ⟨⟨_, _⟩, ⟨_, _⟩, _, _⟩ := hm1
  have hm8 : mq 8 h := hp.2.1
  have ⟨⟨_, _⟩, ⟨_, _⟩, _, _⟩ := hm8
  have hm15 : mq 15 h := hp.2.2.1
  have ⟨⟨_, _⟩, ⟨_, _⟩, _, _⟩ := hm15
  have hmsq : sq h := hp.2.2.2
  refine qm_seg_ok (C := qc_91) (rt := some .int) rfl rfl (cuts := []) 400 _ _ _ _ ?_
  show (a.toInt < 0 → (Q (some (.int (-1 : Int32))) h)) ∧ (0 ≤ a.toInt → ((a.toInt ≤ (h 23 2).toInt → (Q (some (.int (h 23 2))) (qm_row h 23 (upd (h 23) 2 a)))) ∧ ((h 23 2).toInt < a.toInt → (Q (some (.int (-1 : Int32))) h))))
  refine ⟨fun c1 => ?_, fun c2 => ?_⟩
  · exact hq (-1 : Int32) h ⟨hm1, hm8, hm15, hmsq, (fun k hk => rfl), (by show (((0 ≤ a.toInt ∧ a.toInt ≤ (h 23 2).toInt) ∧ (h 23 2).toInt = a.toInt) ∨ (¬ (0 ≤ a.toInt ∧ a.toInt ≤ (h 23 2).toInt) ∧ (h 23 2).toInt = (h 23 2).toInt)) ∧ (((h 23 4).toInt = (h 23 4).toInt)); omega)⟩
  · refine ⟨fun c3 => ?_, fun c4 => ?_⟩
    · exact hq (h 23 2) (qm_row h 23 (upd (h 23) 2 a)) ⟨(by exact hm1), (by exact hm8), (by exact hm15), (by exact hmsq), (fun k hk => by simp only [qm_row]; rw [if_neg (by omega)]), (by show (((0 ≤ a.toInt ∧ a.toInt ≤ (h 23 2).toInt) ∧ a.toInt = a.toInt) ∨ (¬ (0 ≤ a.toInt ∧ a.toInt ≤ (h 23 2).toInt) ∧ a.toInt = (h 23 2).toInt)) ∧ (((h 23 4).toInt = (h 23 4).toInt)); omega)⟩
    · exact hq (-1 : Int32) h ⟨hm1, hm8, hm15, hmsq, (fun k hk => rfl), (by show (((0 ≤ a.toInt ∧ a.toInt ≤ (h 23 2).toInt) ∧ (h 23 2).toInt = a.toInt) ∨ (¬ (0 ≤ a.toInt ∧ a.toInt ≤ (h 23 2).toInt) ∧ (h 23 2).toInt = (h 23 2).toInt)) ∧ (((h 23 4).toInt = (h 23 4).toInt)); omega)⟩
-- ThreadBank.text()I
set_option maxRecDepth 100000 in
set_option maxHeartbeats 4000000 in
theorem tx_92 (X : qm_X) (h : qm_H) (hp : mq 1 h ∧ mq 8 h ∧ mq 15 h ∧ sq h ∧ (0 ≤ (h 23 2).toInt ∧ (h 23 2).toInt ≤ 160)) (Q : qm_Q) (hq : ∀ r : Int32, ∀ h' : qm_H, (mq 1 h' ∧ mq 8 h' ∧ mq 15 h' ∧ sq h' ∧ (∀ k, (k < 1 ∨ 31 < k ∨ k = 8 ∨ k = 9 ∨ k = 10 ∨ k = 11 ∨ k = 12 ∨ k = 13 ∨ k = 14 ∨ k = 15 ∨ k = 16 ∨ k = 17 ∨ k = 18 ∨ k = 19 ∨ k = 20 ∨ k = 21) → h' k = h k) ∧ ((h' 23 2).toInt = 0 ∧ (h' 24) = (h 24) ∧ txQ (txF (h 24) (h 23 2).toInt.toNat 161 0 0 txS) r.toInt (h' 23 4).toInt (h 23 2).toInt ∧ ikQ (h' 23 4).toInt (h 22) (h' 22) ∧ txM (h' 23 4).toInt (txF (h 24) (h 23 2).toInt.toNat 161 0 0 txS) (mC h) (mC h'))) → Q (some (.int r)) h') : qm_PW X 92 [.ref 0] h Q := by
  have hm1 : mq 1 h := hp.1
  have ⟨⟨_, _⟩, ⟨_, _⟩, _, _⟩ := hm1
  have hm8 : mq 8 h := hp.2.1
  have ⟨⟨_, _⟩, ⟨_, _⟩, _, _⟩ := hm8
  have hm15 : mq 15 h := hp.2.2.1
  have ⟨⟨_, _⟩, ⟨_, _⟩, _, _⟩ := hm15
  have hmsq : sq h := hp.2.2.2.1
  have hp0 : 0 ≤ (h 23 2).toInt ∧ (h 23 2).toInt ≤ 160 := hp.2.2.2.2
  refine qm_seg_ok (C := qc_92) (rt := some .int) rfl rfl (cuts := []) 400 _ _ _ _ ?_
  show qm_PW X 76 [.ref 23] h _
  refine tx_76 X h  (by show 0 ≤ (h 23 2).toInt ∧ (h 23 2).toInt ≤ 160; omega) _ (fun r1 g2 p3 => ?_)
  obtain ⟨p3_0, p3_1, p3_2, p3_3, p3_4⟩ := p3
  have f4 : ∀ k, (k < 1 ∨ 31 < k ∨ k = 8 ∨ k = 9 ∨ k = 10 ∨ k = 11 ∨ k = 12 ∨ k = 13 ∨ k = 14 ∨ k = 15 ∨ k = 16 ∨ k = 17 ∨ k = 18 ∨ k = 19 ∨ k = 20 ∨ k = 21) → g2 k = h k := fun k hk => (p3_3 k (by omega)).trans (rfl)
  have k5 : mq 1 g2 := by unfold mq; rw [p3_3 1 (by omega)]; exact hm1
  have k6 : mq 8 g2 := by unfold mq; rw [p3_3 8 (by omega)]; exact hm8
  have k7 : mq 15 g2 := by unfold mq; rw [p3_3 15 (by omega)]; exact hm15
  have k8 : sq g2 := by unfold sq; rw [p3_3 37 (by omega)]; exact hmsq
  have o9 : (r1 = 0 ∨ r1 = 1) ∧ (g2 24) = (h 24) ∧ (((g2 23 2).toInt = (h 23 2).toInt)) ∧ rdQ (txF (h 24) (h 23 2).toInt.toNat 161 0 0 txS) r1.toInt (g2 23 4).toInt (g2 23 5).toInt (g2 23 3).toInt (h 23 2).toInt g2 := p3_4
  clear p3_4
  have f22 : g2 22 = h 22 := p3_3 22 (by omega)
  have fm76 := p3_3
  show (¬ r1 = 0 → (qm_PW X 23 [.ref 1, .ref 25] (qm_row g2 23 (upd (g2 23) 2 0)) _)) ∧ (r1 = 0 → (Q (some (.int ((-10 : Int32) - (g2 23 5)))) (qm_row g2 23 (upd (g2 23) 2 0))))
  refine ⟨fun c10 => ?_, fun c11 => ?_⟩
  · have := ti_neK 0 rfl c10
    refine ty_23_1_25 X (qm_row g2 23 (upd (g2 23) 2 0))  (by exact p3_1) _ (fun g12 p13 => ?_)
    obtain ⟨p13_0, p13_1, p13_2⟩ := p13
    have f14 : ∀ k, (k < 1 ∨ 31 < k ∨ k = 8 ∨ k = 9 ∨ k = 10 ∨ k = 11 ∨ k = 12 ∨ k = 13 ∨ k = 14 ∨ k = 15 ∨ k = 16 ∨ k = 17 ∨ k = 18 ∨ k = 19 ∨ k = 20 ∨ k = 21) → g12 k = h k := fun k hk => (p13_1 k (by omega)).trans (by simp only [qm_row]; rw [if_neg (by omega)]; exact f4 k hk)
    have k15 : mq 8 g12 := by unfold mq; rw [p13_1 8 (by omega)]; exact k6
    have k16 : mq 15 g12 := by unfold mq; rw [p13_1 15 (by omega)]; exact k7
    have k17 : sq g12 := by unfold sq; rw [p13_1 37 (by omega)]; exact k8
    have k18 : mq 25 g12 := by unfold mq; rw [p13_1 25 (by omega)]; exact p3_1
    have k19 : z9 g12 := by unfold z9; rw [p13_1 25 (by omega)]; exact p3_2
    have o20 : mC g12 = mCt (qm_row g2 23 (upd (g2 23) 2 0)) := p13_2
    clear p13_2
    have e21 : (g12 23 2).toInt = 0 := (congrArg (fun f : Nat → Int32 => (f 2).toInt) (p13_1 23 (by omega))).trans rfl
    have e22 : (g12 23 3).toInt = (g2 23 3).toInt := (congrArg (fun f : Nat → Int32 => (f 3).toInt) (p13_1 23 (by omega))).trans rfl
    have e23 : (g12 23 4).toInt = (g2 23 4).toInt := (congrArg (fun f : Nat → Int32 => (f 4).toInt) (p13_1 23 (by omega))).trans rfl
    have e24_g12 : g12 24 = (g2 24) := p13_1 24 (by omega)
    have e22_g12 : g12 22 = (g2 22) := p13_1 22 (by omega)
    show (0 ≤ (0 : Int) ∧ (0 : Int) < 2) ∧ ((0 ≤ (1 : Int) ∧ (1 : Int) < 2) ∧ (Q (some (.int (g12 23 3))) (qm_row (qm_row g12 22 (upd (g12 22) 0 (vp_nar .boolean 0))) 22 (upd (upd (g12 22) 0 (vp_nar .boolean 0)) 1 (vp_nar .boolean 0)))))
    refine ⟨by decide, ?_⟩
    refine ⟨by decide, ?_⟩
    exact hq (g12 23 3) (qm_row (qm_row g12 22 (upd (g12 22) 0 (vp_nar .boolean 0))) 22 (upd (upd (g12 22) 0 (vp_nar .boolean 0)) 1 (vp_nar .boolean 0))) ⟨(by exact p13_0), (by exact k15), (by exact k16), (by exact k17), (fun k hk => by simp only [qm_row]; rw [if_neg (by omega)]; rw [if_neg (by omega)]; exact f14 k hk), (by show (g12 23 2).toInt = 0 ∧ (g12 24) = (h 24) ∧ txQ (txF (h 24) (h 23 2).toInt.toNat 161 0 0 txS) (g12 23 3).toInt (g12 23 4).toInt (h 23 2).toInt ∧ ikQ (g12 23 4).toInt (h 22) (upd (upd (g12 22) 0 (vp_nar .boolean 0)) 1 (vp_nar .boolean 0)) ∧ txM (g12 23 4).toInt (txF (h 24) (h 23 2).toInt.toNat 161 0 0 txS) (mC h) (mC (qm_row (qm_row g12 22 (upd (g12 22) 0 (vp_nar .boolean 0))) 22 (upd (upd (g12 22) 0 (vp_nar .boolean 0)) 1 (vp_nar .boolean 0)))); exact ⟨by omega, e24_g12.trans o9.2.1, by rw [show (g12 23 4).toInt = (g2 23 4).toInt by omega]; exact txQ_rd1 o9.2.2.2 (by omega) (by omega), Or.inl ⟨by have := rd_fk1 o9.2.2.2 (by omega); omega, show (upd (upd (g12 22) 0 (vp_nar .boolean 0)) 1 (vp_nar .boolean 0)) = _ from congrArg (fun f => upd (upd f 0 0) 1 0) (e22_g12.trans f22)⟩, Or.inl ⟨by have := rd_fk1 o9.2.2.2 (by omega); omega, o20.trans (memT_c (g := g2) (rd_cT o9.2.2.2 (by omega)) (by have z : 0 ≤ (g2 25 9).toInt ∧ (g2 25 9).toInt ≤ 0 := p3_2; omega))⟩⟩)⟩
  · have := ti_eqK 0 rfl c11
    exact hq ((-10 : Int32) - (g2 23 5)) (qm_row g2 23 (upd (g2 23) 2 0)) ⟨(by exact k5), (by exact k6), (by exact k7), (by exact k8), (fun k hk => by simp only [qm_row]; rw [if_neg (by omega)]; exact f4 k hk), (by have : (0 : Int32).toInt = 0 := rfl; have := ti_subL (g2 23 5) (-10 : Int32) (-10) ti_n10; show (0 : Int32).toInt = 0 ∧ (g2 24) = (h 24) ∧ txQ (txF (h 24) (h 23 2).toInt.toNat 161 0 0 txS) ((-10 : Int32) - (g2 23 5)).toInt (g2 23 4).toInt (h 23 2).toInt ∧ ikQ (g2 23 4).toInt (h 22) (g2 22) ∧ txM (g2 23 4).toInt (txF (h 24) (h 23 2).toInt.toNat 161 0 0 txS) (mC h) (mC (qm_row g2 23 (upd (g2 23) 2 0))); generalize ((-10 : Int32) - (g2 23 5)) = z10 at *; have hfp := rd_fp o9.2.2.2 (by omega) (by omega); exact ⟨rfl, o9.2.1, txQ_rd0 o9.2.2.2 (by omega) (by omega), Or.inr ⟨rd_fk0 o9.2.2.2 (by omega), f22⟩, Or.inr ⟨rd_fk0 o9.2.2.2 (by omega), mC_of (h := h) (g := g2) (fun k q1 q2 => fm76 k (by omega))⟩⟩)⟩
-- ThreadBank.fault()I
set_option maxRecDepth 100000 in
set_option maxHeartbeats 4000000 in
theorem tx_93 (X : qm_X) (h : qm_H) (hp : True) (Q : qm_Q) (hq : ∀ r : Int32, (r.toInt = (h 23 4).toInt) → Q (some (.int r)) h) : qm_PW X 93 [.ref 0] h Q := by
  refine qm_seg_ok (C := qc_93) (rt := some .int) rfl rfl (cuts := []) 400 _ _ _ _ ?_
  show Q (some (.int (h 23 4))) h
  exact hq (h 23 4) (by show (h 23 4).toInt = (h 23 4).toInt; omega)
-- ThreadBankModel.feed(I)I
set_option maxRecDepth 100000 in
set_option maxHeartbeats 4000000 in
theorem tx_145 (X : qm_X) (h : qm_H) (a : Int32) (hp : mi h ∧ sm h ∧ zs h ∧ rw_ h) (Q : qm_Q) (hq : ∀ r : Int32, ∀ h' : qm_H, (mi h' ∧ sm h' ∧ zs h' ∧ rw_ h' ∧ (h' 39 3 = h 39 3) ∧ (∀ k, (k < 39 ∨ 44 < k ∨ k = 40 ∨ k = 41 ∨ k = 42 ∨ k = 43) → h' k = h k) ∧ ((((h' 39 14).toInt = (h 39 14).toInt)) ∧ fdQ a (h 39 9).toInt (h' 39 9).toInt (h 44) (h' 44))) → Q (some (.int r)) h') : qm_PW X 145 [.ref 39, .int a] h Q := by
  have hmmi : mi h := hp.1
  have ⟨⟨_, _⟩, ⟨_, _⟩, ⟨_, _⟩, ⟨_, _⟩, _, _⟩ := hmmi
  have hmsm : sm h := hp.2.1
  have ⟨⟨⟨_, _⟩, _, _⟩, _, _, _⟩ := hmsm
  have hmzs : zs h := hp.2.2.1
  have hmrw : rw_ h := hp.2.2.2
  refine qm_seg_ok (C := qc_145) (rt := some .int) rfl rfl (cuts := []) 400 _ _ _ _ ?_
  show qm_PW X 141 [.long (Int32.toInt64 a), .long 0, .long 127] h _
  refine sf_141 X h ((Int32.toInt64 a) : Int64) (0 : Int64) (127 : Int64) trivial _ (fun r1 p2 => ?_)
  have o3 : ¬ r1.toInt = 0 → (0 : Int64).toInt ≤ (Int32.toInt64 a).toInt ∧ (Int32.toInt64 a).toInt ≤ (127 : Int64).toInt := fun hc => p2.2.1 (fun e => hc (ti_eqK 0 rfl e))
  have o4 : r1.toInt = 0 → (Int32.toInt64 a).toInt < (0 : Int64).toInt ∨ (127 : Int64).toInt < (Int32.toInt64 a).toInt := fun hc => p2.2.2 (Int32.toInt_inj.mp hc)
  show (¬ r1 = 0 → ((¬ (h 39 9) = 160 → ((0 ≤ (h 39 9).toInt ∧ (h 39 9).toInt < 160) ∧ (Q (some (.int ((h 39 9) + 1))) (qm_row (qm_row h 44 (upd (h 44) (h 39 9).toInt.toNat a)) 39 (upd (h 39) 9 ((h 39 9) + 1)))))) ∧ ((h 39 9) = 160 → (Q (some (.int (-3 : Int32))) h)))) ∧ (r1 = 0 → (Q (some (.int (-1 : Int32))) h))
  refine ⟨fun c5 => ?_, fun c6 => ?_⟩
  · have := p2.2.1 c5
    have := ti_neK 0 rfl c5
    refine ⟨fun c7 => ?_, fun c8 => ?_⟩
    · have := ti_neK 160 rfl c7
      refine ⟨(by have : (0 : Int64).toInt = 0 := rfl; have : (127 : Int64).toInt = 127 := rfl; have := i64 a; omega), ?_⟩
      exact hq ((h 39 9) + 1) (qm_row (qm_row h 44 (upd (h 44) (h 39 9).toInt.toNat a)) 39 (upd (h 39) 9 ((h 39 9) + 1))) ⟨(by have ⟨⟨_, _⟩, ⟨_, _⟩, ⟨_, _⟩, ⟨_, _⟩, _, _⟩ := hmmi; have ⟨⟨⟨_, _⟩, _, _⟩, _, _, _⟩ := hmsm; show (0 ≤ (h 39 3).toInt ∧ (h 39 3).toInt ≤ 4) ∧ (0 ≤ ((h 39 9) + 1).toInt ∧ ((h 39 9) + 1).toInt ≤ 160) ∧ (0 ≤ (h 39 19).toInt ∧ (h 39 19).toInt ≤ 4) ∧ (0 ≤ (h 39 20).toInt ∧ (h 39 20).toInt ≤ 255) ∧ (0 ≤ (h 39 11).toInt ∧ (h 39 11).toInt ≤ 160); have := ti_addK (h 39 9) (1 : Int32) 1 rfl; have : (0 : Int64).toInt = 0 := rfl; have : (127 : Int64).toInt = 127 := rfl; have := i64 a; omega), (by exact hmsm), (by exact hmzs), (by exact hmrw), (show ((qm_row (qm_row h 44 (upd (h 44) (h 39 9).toInt.toNat a)) 39 (upd (h 39) 9 ((h 39 9) + 1))) 39 3 = h 39 3) from rfl), (fun k hk => by simp only [qm_row]; rw [if_neg (by omega)]; rw [if_neg (by omega)]), (by have := ti_addK (h 39 9) (1 : Int32) 1 rfl; have : (0 : Int64).toInt = 0 := rfl; have : (127 : Int64).toInt = 127 := rfl; have := i64 a; show (((h 39 14).toInt = (h 39 14).toInt)) ∧ fdQ a (h 39 9).toInt ((h 39 9) + 1).toInt (h 44) (upd (h 44) (h 39 9).toInt.toNat a); have := i64 a; have : (0 : Int64).toInt = 0 := rfl; have : (127 : Int64).toInt = 127 := rfl; (first | exact ⟨by omega, Or.inr ⟨by omega, rfl, rfl⟩⟩ | exact ⟨by omega, Or.inl ⟨by omega, by omega, by omega, rfl⟩⟩))⟩
    · have := ti_eqK 160 rfl c8
      exact hq (-3 : Int32) h ⟨hmmi, hmsm, hmzs, hmrw, rfl, (fun k hk => rfl), (by have : (0 : Int64).toInt = 0 := rfl; have : (127 : Int64).toInt = 127 := rfl; have := i64 a; show (((h 39 14).toInt = (h 39 14).toInt)) ∧ fdQ a (h 39 9).toInt (h 39 9).toInt (h 44) (h 44); have := i64 a; have : (0 : Int64).toInt = 0 := rfl; have : (127 : Int64).toInt = 127 := rfl; (first | exact ⟨by omega, Or.inr ⟨by omega, rfl, rfl⟩⟩ | exact ⟨by omega, Or.inl ⟨by omega, by omega, by omega, rfl⟩⟩))⟩
  · have := p2.2.2 c6
    have := ti_eqK 0 rfl c6
    exact hq (-1 : Int32) h ⟨hmmi, hmsm, hmzs, hmrw, rfl, (fun k hk => rfl), (by have : (0 : Int64).toInt = 0 := rfl; have : (127 : Int64).toInt = 127 := rfl; have := i64 a; show (((h 39 14).toInt = (h 39 14).toInt)) ∧ fdQ a (h 39 9).toInt (h 39 9).toInt (h 44) (h 44); have := i64 a; have : (0 : Int64).toInt = 0 := rfl; have : (127 : Int64).toInt = 127 := rfl; (first | exact ⟨by omega, Or.inr ⟨by omega, rfl, rfl⟩⟩ | exact ⟨by omega, Or.inl ⟨by omega, by omega, by omega, rfl⟩⟩))⟩
-- ThreadBankModel.end(I)I
set_option maxRecDepth 100000 in
set_option maxHeartbeats 4000000 in
theorem tx_146 (X : qm_X) (h : qm_H) (a : Int32) (hp : mi h ∧ sm h ∧ zs h ∧ rw_ h) (Q : qm_Q) (hq : ∀ r : Int32, ∀ h' : qm_H, (mi h' ∧ sm h' ∧ zs h' ∧ rw_ h' ∧ (h' 39 3 = h 39 3) ∧ (∀ k, (k < 39 ∨ 39 < k) → h' k = h k) ∧ ((((0 ≤ a.toInt ∧ a.toInt ≤ (h 39 9).toInt) ∧ (h' 39 9).toInt = a.toInt) ∨ (¬ (0 ≤ a.toInt ∧ a.toInt ≤ (h 39 9).toInt) ∧ (h' 39 9).toInt = (h 39 9).toInt)) ∧ (((h' 39 14).toInt = (h 39 14).toInt)))) → Q (some (.int r)) h') : qm_PW X 146 [.ref 39, .int a] h Q := by
  have hmmi : mi h := hp.1
  have ⟨⟨_, _⟩, ⟨_, _⟩, ⟨_, _⟩, ⟨_, _⟩, _, _⟩ := hmmi
  have hmsm : sm h := hp.2.1
  have ⟨⟨⟨_, _⟩, _, _⟩, _, _, _⟩ := hmsm
  have hmzs : zs h := hp.2.2.1
  have hmrw : rw_ h := hp.2.2.2
  refine qm_seg_ok (C := qc_146) (rt := some .int) rfl rfl (cuts := []) 400 _ _ _ _ ?_
  show qm_PW X 141 [.long (Int32.toInt64 a), .long 0, .long (Int32.toInt64 (h 39 9))] h _
  refine sf_141 X h ((Int32.toInt64 a) : Int64) (0 : Int64) ((Int32.toInt64 (h 39 9)) : Int64) trivial _ (fun r1 p2 => ?_)
  have o3 : ¬ r1.toInt = 0 → (0 : Int64).toInt ≤ (Int32.toInt64 a).toInt ∧ (Int32.toInt64 a).toInt ≤ (Int32.toInt64 (h 39 9)).toInt := fun hc => p2.2.1 (fun e => hc (ti_eqK 0 rfl e))
  have o4 : r1.toInt = 0 → (Int32.toInt64 a).toInt < (0 : Int64).toInt ∨ (Int32.toInt64 (h 39 9)).toInt < (Int32.toInt64 a).toInt := fun hc => p2.2.2 (Int32.toInt_inj.mp hc)
  show (¬ r1 = 0 → (Q (some (.int (h 39 9))) (qm_row h 39 (upd (h 39) 9 a)))) ∧ (r1 = 0 → (Q (some (.int (-1 : Int32))) h))
  refine ⟨fun c5 => ?_, fun c6 => ?_⟩
  · have := p2.2.1 c5
    exact hq (h 39 9) (qm_row h 39 (upd (h 39) 9 a)) ⟨(by have ⟨⟨_, _⟩, ⟨_, _⟩, ⟨_, _⟩, ⟨_, _⟩, _, _⟩ := hmmi; have ⟨⟨⟨_, _⟩, _, _⟩, _, _, _⟩ := hmsm; show (0 ≤ (h 39 3).toInt ∧ (h 39 3).toInt ≤ 4) ∧ (0 ≤ a.toInt ∧ a.toInt ≤ 160) ∧ (0 ≤ (h 39 19).toInt ∧ (h 39 19).toInt ≤ 4) ∧ (0 ≤ (h 39 20).toInt ∧ (h 39 20).toInt ≤ 255) ∧ (0 ≤ (h 39 11).toInt ∧ (h 39 11).toInt ≤ 160); have : (0 : Int64).toInt = 0 := rfl; have := i64 a; have := i64 (h 39 9); omega), (by exact hmsm), (by exact hmzs), (by exact hmrw), (show ((qm_row h 39 (upd (h 39) 9 a)) 39 3 = h 39 3) from rfl), (fun k hk => by simp only [qm_row]; rw [if_neg (by omega)]), (by have : (0 : Int64).toInt = 0 := rfl; have := i64 a; have := i64 (h 39 9); show (((0 ≤ a.toInt ∧ a.toInt ≤ (h 39 9).toInt) ∧ a.toInt = a.toInt) ∨ (¬ (0 ≤ a.toInt ∧ a.toInt ≤ (h 39 9).toInt) ∧ a.toInt = (h 39 9).toInt)) ∧ (((h 39 14).toInt = (h 39 14).toInt)); omega)⟩
  · have := p2.2.2 c6
    exact hq (-1 : Int32) h ⟨hmmi, hmsm, hmzs, hmrw, rfl, (fun k hk => rfl), (by have : (0 : Int64).toInt = 0 := rfl; have := i64 a; have := i64 (h 39 9); show (((0 ≤ a.toInt ∧ a.toInt ≤ (h 39 9).toInt) ∧ (h 39 9).toInt = a.toInt) ∨ (¬ (0 ≤ a.toInt ∧ a.toInt ≤ (h 39 9).toInt) ∧ (h 39 9).toInt = (h 39 9).toInt)) ∧ (((h 39 14).toInt = (h 39 14).toInt)); omega)⟩
-- ThreadBankModel.fault()I
set_option maxRecDepth 100000 in
set_option maxHeartbeats 4000000 in
theorem tx_163 (X : qm_X) (h : qm_H) (hp : True) (Q : qm_Q) (hq : ∀ r : Int32, (r.toInt = (h 39 14).toInt) → Q (some (.int r)) h) : qm_PW X 163 [.ref 39] h Q := by
  refine qm_seg_ok (C := qc_163) (rt := some .int) rfl rfl (cuts := []) 400 _ _ _ _ ?_
  show Q (some (.int (h 39 14))) h
  exact hq (h 39 14) (by show (h 39 14).toInt = (h 39 14).toInt; omega)
-- ThreadBank.isImage(I)Z
set_option maxRecDepth 100000 in
set_option maxHeartbeats 4000000 in
theorem tx_135 (X : qm_X) (h : qm_H) (a : Int32) (hp : True) (Q : qm_Q) (hq : ∀ r : Int32, ((r = 0 ∨ r = 1) ∧ ((r.toInt = 1 ∧ 0 ≤ a.toInt ∧ a.toInt ≤ 1) ∨ (r.toInt = 0 ∧ ¬ (0 ≤ a.toInt ∧ a.toInt ≤ 1)))) → Q (some (.int r)) h) : qm_PW X 135 [.int a] h Q := by
  refine qm_seg_ok (C := qc_135) (rt := some .boolean) rfl rfl (cuts := []) 400 _ _ _ _ ?_
  show (a = 0 → (((1 : Int32) = 0 ∨ (1 : Int32) = 1) ∧ Q (some (.int 1)) h)) ∧ (¬ a = 0 → ((¬ a = 1 → (((0 : Int32) = 0 ∨ (0 : Int32) = 1) ∧ Q (some (.int 0)) h)) ∧ (a = 1 → (((1 : Int32) = 0 ∨ (1 : Int32) = 1) ∧ Q (some (.int 1)) h))))
  refine ⟨fun c1 => ?_, fun c2 => ?_⟩
  · have := ti_eqK 0 rfl c1
    exact ⟨Or.inr rfl, hq 1 (by have : (1 : Int32).toInt = 1 := rfl; show ((1 : Int32) = 0 ∨ (1 : Int32) = 1) ∧ (((1 : Int32).toInt = 1 ∧ 0 ≤ a.toInt ∧ a.toInt ≤ 1) ∨ ((1 : Int32).toInt = 0 ∧ ¬ (0 ≤ a.toInt ∧ a.toInt ≤ 1))); first | exact ⟨Or.inr rfl, by omega⟩ | exact ⟨Or.inl rfl, by omega⟩)⟩
  · have := ti_neK 0 rfl c2
    refine ⟨fun c3 => ?_, fun c4 => ?_⟩
    · have := ti_neK 1 rfl c3
      exact ⟨Or.inl rfl, hq 0 (by have : (0 : Int32).toInt = 0 := rfl; show ((0 : Int32) = 0 ∨ (0 : Int32) = 1) ∧ (((0 : Int32).toInt = 1 ∧ 0 ≤ a.toInt ∧ a.toInt ≤ 1) ∨ ((0 : Int32).toInt = 0 ∧ ¬ (0 ≤ a.toInt ∧ a.toInt ≤ 1))); first | exact ⟨Or.inr rfl, by omega⟩ | exact ⟨Or.inl rfl, by omega⟩)⟩
    · have := ti_eqK 1 rfl c4
      exact ⟨Or.inr rfl, hq 1 (by have : (1 : Int32).toInt = 1 := rfl; show ((1 : Int32) = 0 ∨ (1 : Int32) = 1) ∧ (((1 : Int32).toInt = 1 ∧ 0 ≤ a.toInt ∧ a.toInt ≤ 1) ∨ ((1 : Int32).toInt = 0 ∧ ¬ (0 ≤ a.toInt ∧ a.toInt ≤ 1))); first | exact ⟨Or.inr rfl, by omega⟩ | exact ⟨Or.inl rfl, by omega⟩)⟩
-- ThreadBank.keep(I)I
set_option maxRecDepth 100000 in
set_option maxHeartbeats 4000000 in
theorem tx_123 (X : qm_X) (h : qm_H) (a : Int32) (hp : mq 1 h ∧ mq 8 h ∧ mq 15 h ∧ sq h) (Q : qm_Q) (hq : ∀ r : Int32, ∀ h' : qm_H, (mq 1 h' ∧ mq 8 h' ∧ mq 15 h' ∧ sq h' ∧ (∀ k, (k < 8 ∨ 22 < k) → h' k = h k) ∧ (kpQ a r.toInt (h 22) (h' 22))) → Q (some (.int r)) h') : qm_PW X 123 [.ref 0, .int a] h Q := by
  have hm1 : mq 1 h := hp.1
  have ⟨⟨_, _⟩, ⟨_, _⟩, _, _⟩ := hm1
  have hm8 : mq 8 h := hp.2.1
  have ⟨⟨_, _⟩, ⟨_, _⟩, _, _⟩ := hm8
  have hm15 : mq 15 h := hp.2.2.1
  have ⟨⟨_, _⟩, ⟨_, _⟩, _, _⟩ := hm15
  have hmsq : sq h := hp.2.2.2
  refine qm_seg_ok (C := qc_123) (rt := some .int) rfl rfl (cuts := []) 400 _ _ _ _ ?_
  show qm_PW X 135 [.int a] h _
  refine tx_135 X h a trivial _ (fun r1 p2 => ?_)
  have o3 : (r1 = 0 ∨ r1 = 1) ∧ ((r1.toInt = 1 ∧ 0 ≤ a.toInt ∧ a.toInt ≤ 1) ∨ (r1.toInt = 0 ∧ ¬ (0 ≤ a.toInt ∧ a.toInt ≤ 1))) := p2
  clear p2
  show (¬ r1 = 0 → ((0 ≤ a.toInt ∧ a.toInt < 2) ∧ (((h 22 a.toInt.toNat) = 0 → (qm_PW X 134 [.ref 0, .int a] h _)) ∧ (¬ (h 22 a.toInt.toNat) = 0 → (qm_PW X 134 [.ref 0, .int a] h _))))) ∧ (r1 = 0 → (Q (some (.int (-1 : Int32))) h))
  refine ⟨fun c4 => ?_, fun c5 => ?_⟩
  · have := ti_neK 0 rfl c4
    refine ⟨(by omega), ?_⟩
    refine ⟨fun c6 => ?_, fun c7 => ?_⟩
    · have := ti_eqK 0 rfl c6
      refine sf_134_0 X h a _ (fun c8 => ?_) (fun c8 => ?_)
      · show qm_PW X 23 [.ref 8, .ref 1] h _
        refine ty_23_8_1 X h  hm1 _ (fun g9 p10 => ?_)
        obtain ⟨p10_0, p10_1, p10_2⟩ := p10
        have f11 : ∀ k, (k < 8 ∨ 22 < k) → g9 k = h k := fun k hk => (p10_1 k (by omega)).trans (rfl)
        have k12 : mq 1 g9 := by unfold mq; rw [p10_1 1 (by omega)]; exact hm1
        have k13 : mq 15 g9 := by unfold mq; rw [p10_1 15 (by omega)]; exact hm15
        have k14 : sq g9 := by unfold sq; rw [p10_1 37 (by omega)]; exact hmsq
        have o15 : mC8 g9 = mC h := p10_2
        clear p10_2
        have w_g9 : g9 22 = (h 22) := p10_1 22 (by omega)
        show (0 ≤ a.toInt ∧ a.toInt < 2) ∧ (Q (some (.int 0)) (qm_row g9 22 (upd (g9 22) a.toInt.toNat (vp_nar .boolean 1))))
        refine ⟨(by omega), ?_⟩
        exact hq 0 (qm_row g9 22 (upd (g9 22) a.toInt.toNat (vp_nar .boolean 1))) ⟨(by exact k12), (by exact p10_0), (by exact k13), (by exact k14), (fun k hk => by simp only [qm_row]; rw [if_neg (by omega)]; exact f11 k hk), (by have : (0 : Int32).toInt = 0 := rfl; show kpQ a (0 : Int32).toInt (h 22) (upd (g9 22) a.toInt.toNat (vp_nar .boolean 1)); exact Or.inl ⟨by omega, Or.inl ⟨by assumption, rfl⟩, (show (upd (g9 22) a.toInt.toNat (vp_nar .boolean 1)) = _ from congrArg (fun f => upd f a.toInt.toNat 1) w_g9)⟩)⟩
      · show qm_PW X 23 [.ref 15, .ref 1] h _
        refine ty_23_15_1 X h  hm1 _ (fun g16 p17 => ?_)
        obtain ⟨p17_0, p17_1, p17_2⟩ := p17
        have f18 : ∀ k, (k < 8 ∨ 22 < k) → g16 k = h k := fun k hk => (p17_1 k (by omega)).trans (rfl)
        have k19 : mq 1 g16 := by unfold mq; rw [p17_1 1 (by omega)]; exact hm1
        have k20 : mq 8 g16 := by unfold mq; rw [p17_1 8 (by omega)]; exact hm8
        have k21 : sq g16 := by unfold sq; rw [p17_1 37 (by omega)]; exact hmsq
        have o22 : mC15 g16 = mC h := p17_2
        clear p17_2
        have w_g16 : g16 22 = (h 22) := p17_1 22 (by omega)
        show (0 ≤ a.toInt ∧ a.toInt < 2) ∧ (Q (some (.int 0)) (qm_row g16 22 (upd (g16 22) a.toInt.toNat (vp_nar .boolean 1))))
        refine ⟨(by omega), ?_⟩
        exact hq 0 (qm_row g16 22 (upd (g16 22) a.toInt.toNat (vp_nar .boolean 1))) ⟨(by exact k19), (by exact k20), (by exact p17_0), (by exact k21), (fun k hk => by simp only [qm_row]; rw [if_neg (by omega)]; exact f18 k hk), (by have : (0 : Int32).toInt = 0 := rfl; show kpQ a (0 : Int32).toInt (h 22) (upd (g16 22) a.toInt.toNat (vp_nar .boolean 1)); exact Or.inl ⟨by omega, Or.inl ⟨by assumption, rfl⟩, (show (upd (g16 22) a.toInt.toNat (vp_nar .boolean 1)) = _ from congrArg (fun f => upd f a.toInt.toNat 1) w_g16)⟩)⟩
    · have := ti_neK 0 rfl c7
      refine sf_134_0 X h a _ (fun c23 => ?_) (fun c23 => ?_)
      · show qm_PW X 23 [.ref 8, .ref 1] h _
        refine ty_23_8_1 X h  hm1 _ (fun g24 p25 => ?_)
        obtain ⟨p25_0, p25_1, p25_2⟩ := p25
        have f26 : ∀ k, (k < 8 ∨ 22 < k) → g24 k = h k := fun k hk => (p25_1 k (by omega)).trans (rfl)
        have k27 : mq 1 g24 := by unfold mq; rw [p25_1 1 (by omega)]; exact hm1
        have k28 : mq 15 g24 := by unfold mq; rw [p25_1 15 (by omega)]; exact hm15
        have k29 : sq g24 := by unfold sq; rw [p25_1 37 (by omega)]; exact hmsq
        have o30 : mC8 g24 = mC h := p25_2
        clear p25_2
        have w_g24 : g24 22 = (h 22) := p25_1 22 (by omega)
        show (0 ≤ a.toInt ∧ a.toInt < 2) ∧ (Q (some (.int 1)) (qm_row g24 22 (upd (g24 22) a.toInt.toNat (vp_nar .boolean 1))))
        refine ⟨(by omega), ?_⟩
        exact hq 1 (qm_row g24 22 (upd (g24 22) a.toInt.toNat (vp_nar .boolean 1))) ⟨(by exact k27), (by exact p25_0), (by exact k28), (by exact k29), (fun k hk => by simp only [qm_row]; rw [if_neg (by omega)]; exact f26 k hk), (by have : (1 : Int32).toInt = 1 := rfl; show kpQ a (1 : Int32).toInt (h 22) (upd (g24 22) a.toInt.toNat (vp_nar .boolean 1)); exact Or.inl ⟨by omega, Or.inr ⟨by assumption, rfl⟩, (show (upd (g24 22) a.toInt.toNat (vp_nar .boolean 1)) = _ from congrArg (fun f => upd f a.toInt.toNat 1) w_g24)⟩)⟩
      · show qm_PW X 23 [.ref 15, .ref 1] h _
        refine ty_23_15_1 X h  hm1 _ (fun g31 p32 => ?_)
        obtain ⟨p32_0, p32_1, p32_2⟩ := p32
        have f33 : ∀ k, (k < 8 ∨ 22 < k) → g31 k = h k := fun k hk => (p32_1 k (by omega)).trans (rfl)
        have k34 : mq 1 g31 := by unfold mq; rw [p32_1 1 (by omega)]; exact hm1
        have k35 : mq 8 g31 := by unfold mq; rw [p32_1 8 (by omega)]; exact hm8
        have k36 : sq g31 := by unfold sq; rw [p32_1 37 (by omega)]; exact hmsq
        have o37 : mC15 g31 = mC h := p32_2
        clear p32_2
        have w_g31 : g31 22 = (h 22) := p32_1 22 (by omega)
        show (0 ≤ a.toInt ∧ a.toInt < 2) ∧ (Q (some (.int 1)) (qm_row g31 22 (upd (g31 22) a.toInt.toNat (vp_nar .boolean 1))))
        refine ⟨(by omega), ?_⟩
        exact hq 1 (qm_row g31 22 (upd (g31 22) a.toInt.toNat (vp_nar .boolean 1))) ⟨(by exact k34), (by exact k35), (by exact p32_0), (by exact k36), (fun k hk => by simp only [qm_row]; rw [if_neg (by omega)]; exact f33 k hk), (by have : (1 : Int32).toInt = 1 := rfl; show kpQ a (1 : Int32).toInt (h 22) (upd (g31 22) a.toInt.toNat (vp_nar .boolean 1)); exact Or.inl ⟨by omega, Or.inr ⟨by assumption, rfl⟩, (show (upd (g31 22) a.toInt.toNat (vp_nar .boolean 1)) = _ from congrArg (fun f => upd f a.toInt.toNat 1) w_g31)⟩)⟩
  · have := ti_eqK 0 rfl c5
    exact hq (-1 : Int32) h ⟨hm1, hm8, hm15, hmsq, (fun k hk => rfl), (by show kpQ a (-1 : Int32).toInt (h 22) (h 22); rw [ti_n1]; exact Or.inr ⟨by omega, rfl, rfl⟩)⟩
-- ThreadBankModel.keep(I)I
set_option maxRecDepth 100000 in
set_option maxHeartbeats 4000000 in
theorem tx_231 (X : qm_X) (h : qm_H) (a : Int32) (hp : mi h ∧ sm h ∧ zs h ∧ rw_ h) (Q : qm_Q) (hq : ∀ r : Int32, ∀ h' : qm_H, (mi h' ∧ sm h' ∧ zs h' ∧ rw_ h' ∧ (∀ k, (k < 40 ∨ 42 < k) → h' k = h k) ∧ (kpQ a r.toInt (h 42) (h' 42))) → Q (some (.int r)) h') : qm_PW X 231 [.ref 39, .int a] h Q := by
  have hmmi : mi h := hp.1
  have ⟨⟨_, _⟩, ⟨_, _⟩, ⟨_, _⟩, ⟨_, _⟩, _, _⟩ := hmmi
  have hmsm : sm h := hp.2.1
  have ⟨⟨⟨_, _⟩, _, _⟩, _, _, _⟩ := hmsm
  have hmzs : zs h := hp.2.2.1
  have hmrw : rw_ h := hp.2.2.2
  refine qm_seg_ok (C := qc_231) (rt := some .int) rfl rfl (cuts := []) 400 _ _ _ _ ?_
  show qm_PW X 141 [.long (Int32.toInt64 a), .long 0, .long 1] h _
  refine sf_141 X h ((Int32.toInt64 a) : Int64) (0 : Int64) (1 : Int64) trivial _ (fun r1 p2 => ?_)
  have o3 : ¬ r1.toInt = 0 → (0 : Int64).toInt ≤ (Int32.toInt64 a).toInt ∧ (Int32.toInt64 a).toInt ≤ (1 : Int64).toInt := fun hc => p2.2.1 (fun e => hc (ti_eqK 0 rfl e))
  have o4 : r1.toInt = 0 → (Int32.toInt64 a).toInt < (0 : Int64).toInt ∨ (1 : Int64).toInt < (Int32.toInt64 a).toInt := fun hc => p2.2.2 (Int32.toInt_inj.mp hc)
  show (¬ r1 = 0 → ((0 ≤ a.toInt ∧ a.toInt < 2) ∧ (qm_PW X 142 [.int (h 42 a.toInt.toNat)] h _))) ∧ (r1 = 0 → (Q (some (.int (-1 : Int32))) h))
  refine ⟨fun c5 => ?_, fun c6 => ?_⟩
  · have := p2.2.1 c5
    have := ti_neK 0 rfl c5
    refine ⟨(by have : (0 : Int64).toInt = 0 := rfl; have : (1 : Int64).toInt = 1 := rfl; have := i64 a; omega), ?_⟩
    refine tx_142 X h (h 42 a.toInt.toNat) trivial _ (fun r7 p8 => ?_)
    have o9 : ((h 42 a.toInt.toNat).toInt = 0 ∧ r7.toInt = 0) ∨ (¬ (h 42 a.toInt.toNat).toInt = 0 ∧ r7.toInt = 1) := p8
    clear p8
    show (0 ≤ a.toInt ∧ a.toInt < 2) ∧ (qm_PW X 230 [.ref 39, .int (49 * (a + 1)), .int 0] (qm_row h 42 (upd (h 42) a.toInt.toNat (vp_nar .boolean 1))) _)
    refine ⟨(by have : (0 : Int64).toInt = 0 := rfl; have : (1 : Int64).toInt = 1 := rfl; have := i64 a; omega), ?_⟩
    refine sf_230_39 X (qm_row h 42 (upd (h 42) a.toInt.toNat (vp_nar .boolean 1))) (49 * (a + 1)) (0 : Int32) ⟨(by exact hmsm), (by have : (0 : Int32).toInt = 0 := rfl; have := ti_addK a (1 : Int32) 1 rfl; have := ti_mulL (49 : Int32) 49 rfl (a + 1); have : (0 : Int64).toInt = 0 := rfl; have : (1 : Int64).toInt = 1 := rfl; have := i64 a; omega)⟩ _ (fun g10 p11 => ?_)
    obtain ⟨p11_0, p11_1, p11_2⟩ := p11
    have f12 : ∀ k, (k < 40 ∨ 42 < k) → g10 k = h k := fun k hk => (p11_1 k (by omega)).trans (by simp only [qm_row]; rw [if_neg (by omega)])
    have k13 : mi g10 := by unfold mi; rw [p11_1 39 (by omega)]; exact hmmi
    have k14 : zs g10 := by unfold zs; rw [p11_1 49 (by omega)]; exact hmzs
    have k15 : rw_ g10 := by unfold rw_; rw [p11_1 46 (by omega)]; exact hmrw
    have w_g10 : g10 42 = (upd (h 42) a.toInt.toNat (vp_nar .boolean 1)) := p11_1 42 (by omega)
    show Q (some (.int r7)) g10
    exact hq r7 g10 ⟨k13, p11_0, k14, k15, (fun k hk => f12 k hk), (by have : (0 : Int64).toInt = 0 := rfl; have : (1 : Int64).toInt = 1 := rfl; have := i64 a; show kpQ a r7.toInt (h 42) (g10 42); exact Or.inl ⟨by omega, (if hz : h 42 a.toInt.toNat = 0 then Or.inl ⟨hz, by have := congrArg Int32.toInt hz; have : (0 : Int32).toInt = 0 := rfl; omega⟩ else Or.inr ⟨hz, by have := ti_neK 0 rfl hz; omega⟩), w_g10⟩)⟩
  · have := p2.2.2 c6
    have := ti_eqK 0 rfl c6
    exact hq (-1 : Int32) h ⟨hmmi, hmsm, hmzs, hmrw, (fun k hk => rfl), (by have : (0 : Int64).toInt = 0 := rfl; have : (1 : Int64).toInt = 1 := rfl; have := i64 a; show kpQ a (-1 : Int32).toInt (h 42) (h 42); rw [ti_n1]; exact Or.inr ⟨by omega, rfl, rfl⟩)⟩
