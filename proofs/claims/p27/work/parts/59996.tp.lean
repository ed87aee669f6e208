-- ThreadBank$TextReader.append(I)Z
set_option maxRecDepth 100000 in
set_option maxHeartbeats 4000000 in
theorem tx_75 (X : qm_X) (h : qm_H) (a : Int32) (hp : 0 ≤ a.toInt ∧ a.toInt ≤ 127) (Q : qm_Q) (hq : ∀ r : Int32, ∀ h' : qm_H, ((∀ k, (k < 23 ∨ 24 < k) → h' k = h k) ∧ ((r = 0 ∨ r = 1) ∧ ((r.toInt = 1 ∧ (0 ≤ (h 23 2).toInt ∧ (h 23 2).toInt < 160)) ∨ (r.toInt = 0 ∧ ((h 23 2).toInt < 0 ∨ 160 ≤ (h 23 2).toInt))) ∧ (((h' 23 4).toInt = (h 23 4).toInt)) ∧ fdQ a (h 23 2).toInt (h' 23 2).toInt (h 24) (h' 24))) → Q (some (.int r)) h') : qm_PW X 75 [.ref 23, .int a] h Q := by
  have hp0 : 0 ≤ a.toInt ∧ a.toInt ≤ 127 := hp
  refine qm_seg_ok (C := qc_75) (rt := some .boolean) rfl rfl (cuts := []) 400 _ _ _ _ ?_
  show ((h 23 2).toInt < 0 → (((0 : Int32) = 0 ∨ (0 : Int32) = 1) ∧ Q (some (.int 0)) h)) ∧ (0 ≤ (h 23 2).toInt → (((h 23 2).toInt < 160 → ((0 ≤ (h 23 2).toInt ∧ (h 23 2).toInt < 160) ∧ (((1 : Int32) = 0 ∨ (1 : Int32) = 1) ∧ Q (some (.int 1)) (qm_row (qm_row h 24 (upd (h 24) (h 23 2).toInt.toNat ((Int32.toInt8 ((Int32.toInt8 a).toInt32)).toInt32))) 23 (upd (h 23) 2 ((h 23 2) + 1)))))) ∧ (160 ≤ (h 23 2).toInt → (((0 : Int32) = 0 ∨ (0 : Int32) = 1) ∧ Q (some (.int 0)) h))))
  refine ⟨fun c1 => ?_, fun c2 => ?_⟩
  · exact ⟨Or.inl rfl, hq 0 h ⟨(fun k hk => rfl), (by have : (0 : Int32).toInt = 0 := rfl; show ((0 : Int32) = 0 ∨ (0 : Int32) = 1) ∧ (((0 : Int32).toInt = 1 ∧ (0 ≤ (h 23 2).toInt ∧ (h 23 2).toInt < 160)) ∨ ((0 : Int32).toInt = 0 ∧ ((h 23 2).toInt < 0 ∨ 160 ≤ (h 23 2).toInt))) ∧ (((h 23 4).toInt = (h 23 4).toInt)) ∧ fdQ a (h 23 2).toInt (h 23 2).toInt (h 24) (h 24); first | exact ⟨Or.inl rfl, by omega, by omega, Or.inr ⟨by omega, rfl, rfl⟩⟩ | exact ⟨Or.inr rfl, by omega, by omega, Or.inl ⟨by omega, by omega, by omega, by rw [i8_id (by omega)]⟩⟩)⟩⟩
  · refine ⟨fun c3 => ?_, fun c4 => ?_⟩
    · refine ⟨(by omega), ?_⟩
      exact ⟨Or.inr rfl, hq 1 (qm_row (qm_row h 24 (upd (h 24) (h 23 2).toInt.toNat ((Int32.toInt8 ((Int32.toInt8 a).toInt32)).toInt32))) 23 (upd (h 23) 2 ((h 23 2) + 1))) ⟨(fun k hk => by simp only [qm_row]; rw [if_neg (by omega)]; rw [if_neg (by omega)]), (by have : (1 : Int32).toInt = 1 := rfl; have := ti_addK (h 23 2) (1 : Int32) 1 rfl; show ((1 : Int32) = 0 ∨ (1 : Int32) = 1) ∧ (((1 : Int32).toInt = 1 ∧ (0 ≤ (h 23 2).toInt ∧ (h 23 2).toInt < 160)) ∨ ((1 : Int32).toInt = 0 ∧ ((h 23 2).toInt < 0 ∨ 160 ≤ (h 23 2).toInt))) ∧ (((h 23 4).toInt = (h 23 4).toInt)) ∧ fdQ a (h 23 2).toInt ((h 23 2) + 1).toInt (h 24) (upd (h 24) (h 23 2).toInt.toNat ((Int32.toInt8 ((Int32.toInt8 a).toInt32)).toInt32)); first | exact ⟨Or.inl rfl, by omega, by omega, Or.inr ⟨by omega, rfl, rfl⟩⟩ | exact ⟨Or.inr rfl, by omega, by omega, Or.inl ⟨by omega, by omega, by omega, by rw [i8_id (by omega)]⟩⟩)⟩⟩
    · exact ⟨Or.inl rfl, hq 0 h ⟨(fun k hk => rfl), (by have : (0 : Int32).toInt = 0 := rfl; show ((0 : Int32) = 0 ∨ (0 : Int32) = 1) ∧ (((0 : Int32).toInt = 1 ∧ (0 ≤ (h 23 2).toInt ∧ (h 23 2).toInt < 160)) ∨ ((0 : Int32).toInt = 0 ∧ ((h 23 2).toInt < 0 ∨ 160 ≤ (h 23 2).toInt))) ∧ (((h 23 4).toInt = (h 23 4).toInt)) ∧ fdQ a (h 23 2).toInt (h 23 2).toInt (h 24) (h 24); first | exact ⟨Or.inl rfl, by omega, by omega, Or.inr ⟨by omega, rfl, rfl⟩⟩ | exact ⟨Or.inr rfl, by omega, by omega, Or.inl ⟨by omega, by omega, by omega, by rw [i8_id (by omega)]⟩⟩)⟩⟩
-- ThreadBank.feed(I)I
set_option maxRecDepth 100000 in
set_option maxHeartbeats 4000000 in
theorem tx_90 (X : qm_X) (h : qm_H) (a : Int32) (hp : mq 1 h ∧ mq 8 h ∧ mq 15 h ∧ sq h) (Q : qm_Q) (hq : ∀ r : Int32, ∀ h' : qm_H, (mq 1 h' ∧ mq 8 h' ∧ mq 15 h' ∧ sq h' ∧ (∀ k, (k < 23 ∨ 24 < k) → h' k = h k) ∧ (True ∧ (((h' 23 4).toInt = (h 23 4).toInt)) ∧ fdQ a (h 23 2).toInt (h' 23 2).toInt (h 24) (h' 24))) → Q (some (.int r)) h') : qm_PW X 90 [.ref 0, .int a] h Q := by
  have hm1 : mq 1 h := hp.1
  have ⟨⟨_, _⟩, ⟨_, _⟩, _, _⟩ := hm1
  have hm8 : mq 8 h := hp.2.1
  have ⟨⟨_, _⟩, ⟨_, _⟩, _, _⟩ := hm8
  have hm15 : mq 15 h := hp.2.2.1
  have ⟨⟨_, _⟩, ⟨_, _⟩, _, _⟩ := hm15
  have hmsq : sq h := hp.2.2.2
  refine qm_seg_ok (C := qc_90) (rt := some .int) rfl rfl (cuts := []) 400 _ _ _ _ ?_
  show (a.toInt < 0 → (Q (some (.int (-1 : Int32))) h)) ∧ (0 ≤ a.toInt → ((a.toInt ≤ 127 → (qm_PW X 75 [.ref 23, .int a] h _)) ∧ (127 < a.toInt → (Q (some (.int (-1 : Int32))) h))))
  refine ⟨fun c1 => ?_, fun c2 => ?_⟩
  · exact hq (-1 : Int32) h ⟨hm1, hm8, hm15, hmsq, (fun k hk => rfl), (by show True ∧ (((h 23 4).toInt = (h 23 4).toInt)) ∧ fdQ a (h 23 2).toInt (h 23 2).toInt (h 24) (h 24); exact ⟨trivial, by omega, Or.inr ⟨by omega, rfl, rfl⟩⟩)⟩
  · refine ⟨fun c3 => ?_, fun c4 => ?_⟩
    · refine tx_75 X h a (by omega) _ (fun r5 g6 p7 => ?_)
      obtain ⟨p7_0, p7_1⟩ := p7
      have f8 : ∀ k, (k < 23 ∨ 24 < k) → g6 k = h k := fun k hk => (p7_0 k (by omega)).trans (rfl)
      have k9 : mq 1 g6 := by unfold mq; rw [p7_0 1 (by omega)]; exact hm1
      have k10 : mq 8 g6 := by unfold mq; rw [p7_0 8 (by omega)]; exact hm8
      have k11 : mq 15 g6 := by unfold mq; rw [p7_0 15 (by omega)]; exact hm15
      have k12 : sq g6 := by unfold sq; rw [p7_0 37 (by omega)]; exact hmsq
      have o13 : (r5 = 0 ∨ r5 = 1) ∧ ((r5.toInt = 1 ∧ (0 ≤ (h 23 2).toInt ∧ (h 23 2).toInt < 160)) ∨ (r5.toInt = 0 ∧ ((h 23 2).toInt < 0 ∨ 160 ≤ (h 23 2).toInt))) ∧ (((g6 23 4).toInt = (h 23 4).toInt)) ∧ fdQ a (h 23 2).toInt (g6 23 2).toInt (h 24) (g6 24) := p7_1
      clear p7_1
      show (r5 = 0 → (Q (some (.int (-3 : Int32))) g6)) ∧ (¬ r5 = 0 → (Q (some (.int (g6 23 2))) g6))
      refine ⟨fun c14 => ?_, fun c15 => ?_⟩
      · have := ti_eqK 0 rfl c14
        exact hq (-3 : Int32) g6 ⟨k9, k10, k11, k12, (fun k hk => f8 k hk), (by show True ∧ (((g6 23 4).toInt = (h 23 4).toInt)) ∧ fdQ a (h 23 2).toInt (g6 23 2).toInt (h 24) (g6 24); exact ⟨trivial, by omega, o13.2.2.2⟩)⟩
      · have := ti_neK 0 rfl c15
        exact hq (g6 23 2) g6 ⟨k9, k10, k11, k12, (fun k hk => f8 k hk), (by show True ∧ (((g6 23 4).toInt = (h 23 4).toInt)) ∧ fdQ a (h 23 2).toInt (g6 23 2).toInt (h 24) (g6 24); exact ⟨trivial, by omega, o13.2.2.2⟩)⟩
    · exact hq (-1 : Int32) h ⟨hm1, hm8, hm15, hmsq, (fun k hk => rfl), (by show True ∧ (((h 23 4).toInt = (h 23 4).toInt)) ∧ fdQ a (h 23 2).toInt (h 23 2).toInt (h 24) (h 24); exact ⟨trivial, by omega, Or.inr ⟨by omega, rfl, rfl⟩⟩)⟩
-- ThreadBank.end(I)I
set_option maxRecDepth 100000 in
set_option maxHeartbeats 4000000 in
theorem tx_91 (X : qm_X) (h : qm_H) (a : Int32) (hp : mq 1 h ∧ mq 8 h ∧ mq 15 h ∧ sq h) (Q : qm_Q) (hq : ∀ r : Int32, ∀ h' : qm_H, (mq 1 h' ∧ mq 8 h' ∧ mq 15 h' ∧ sq h' ∧ (∀ k, (k < 23 ∨ 23 < k) → h' k = h k) ∧ ((((0 ≤ a.toInt ∧ a.toInt ≤ (h 23 2).toInt) ∧ (h' 23 2).toInt = a.toInt) ∨ (¬ (0 ≤ a.toInt ∧ a.toInt ≤ (h 23 2).toInt) ∧ (h' 23 2).toInt = (h 23 2).toInt)) ∧ (((h' 23 4).toInt = (h 23 4).toInt)))) → Q (some (.int r)) h') : qm_PW X 91 [.ref 0, .int a] h Q := by
  have hm1 : mq 1 h := hp.1
  have ⟨⟨_, _⟩, ⟨_, _⟩, _, _⟩ := hm1
  have hm8 : mq 8 h := hp.2.1
  have ⟨⟨_, _⟩, ⟨_, _⟩, _, _⟩ := hm8
  have hm15 : mq 15 h := hp.2.2.1
  have ⟨⟨_, _⟩, ⟨_, _⟩, _, _⟩ := hm15
  have hmsq : sq h := hp.2.2.2
  refine qm_seg_ok (C := qc_91) (rt := some .int) rfl rfl (cuts := []) 400 _ _ _ _ ?_
  show (a.toInt < 0 → (Q (some (.int (-1 : Int32))) h)) ∧ (0 ≤ a.toInt → ((a.toInt ≤ (h 23 2).toInt → (Q (some (.int (h 23 2))) (qm_row h 23 (upd (h 23) 2 a)))) ∧ ((h 23 2).toInt < a.toInt → (Q (some (.int (-1 : Int32))) h))))
  refine ⟨fun c1 => ?_, fun c2 => ?_⟩
  · exact hq (-1 : Int32) h ⟨hm1, hm8, hm15, hmsq, (fun k hk => rfl), (by show (((0 ≤ a.toInt ∧ a.toInt ≤ (h 23 2).toInt) ∧ (h 23 2).toInt = a.toInt) ∨ (¬ (0 ≤ a.toInt ∧ a.toInt ≤ (h 23 2).toInt) ∧ (h 23 2).toInt = (h 23 2).toInt)) ∧ (((h 23 4).toInt = (h 23 4).toInt)); omega)⟩
  · refine ⟨fun c3 => ?_, fun c4 => ?_⟩
    · exact hq (h 23 2) (qm_row h 23 (upd (h 23) 2 a)) ⟨(by exact hm1), (by exact hm8), (by exact hm15), (by exact hmsq), (fun k hk => by simp only [qm_row]; rw [if_neg (by omega)]), (by show (((0 ≤ a.toInt ∧ a.toInt ≤ (h 23 2).toInt) ∧ a.toInt = a.toInt) ∨ (¬ (0 ≤ a.toInt ∧ a.toInt ≤ (h 23 2).toInt) ∧ a.toInt = (h 23 2).toInt)) ∧ (((h 23 4).toInt = (h 23 4).toInt)); omega)⟩
    · exact hq (-1 : Int32) h ⟨hm1, hm8, hm15, hmsq, (fun k hk => rfl), (by show (((0 ≤ a.toInt ∧ a.toInt ≤ (h 23 2).toInt) ∧ (h 23 2).toInt = a.toInt) ∨ (¬ (0 ≤ a.toInt ∧ a.toInt ≤ (h 23 2).toInt) ∧ (h 23 2).toInt = (h 23 2).toInt)) ∧ (((h 23 4).toInt = (h 23 4).toInt)); omega)⟩
-- ThreadBank.text()I
set_option maxRecDepth 100000 in
set_option maxHeartbeats 4000000 in
theorem tx_92 (X : qm_X) (h : qm_H) (hp : mq 1 h ∧ mq 8 h ∧ mq 15 h ∧ sq h ∧ (0 ≤ (h 23 2).toInt ∧ (h 23 2).toInt ≤ 160)) (Q : qm_Q) (hq : ∀ r : Int32, ∀ h' : qm_H, (mq 1 h' ∧ mq 8 h' ∧ mq 15 h' ∧ sq h' ∧ (∀ k, (k < 1 ∨ 31 < k ∨ k = 8 ∨ k = 9 ∨ k = 10 ∨ k = 11 ∨ k = 12 ∨ k = 13 ∨ k = 14 ∨ k = 15 ∨ k = 16 ∨ k = 17 ∨ k = 18 ∨ k = 19 ∨ k = 20 ∨ k = 21) → h' k = h k) ∧ ((h' 23 2).toInt = 0 ∧ (h' 24) = (h 24) ∧ txQ (txF (h 24) (h 23 2).toInt.toNat 161 0 0 txS) r.toInt (h' 23 4).toInt (h 23 2).toInt ∧ ikQ (h' 23 4).toInt (h 22) (h' 22) ∧ txM (h' 23 4).toInt (txF (h 24) (h 23 2).toInt.toNat 161 0 0 txS) (mC h) (mC h'))) → Q (some (.int r)) h') : qm_PW X 92 [.ref 0] h Q := by
  have hm1 : mq 1 h := hp.1
  have ⟨⟨_, _⟩, ⟨_, _⟩, _, _⟩ := hm1
  have hm8 : mq 8 h := hp.2.1
  have ⟨⟨_, _⟩, ⟨_, _⟩, _, _⟩ := hm8
  have hm15 : mq 15 h := hp.2.2.1
  have ⟨⟨_, _⟩, ⟨_, _⟩, _, _⟩ := hm15
  have hmsq : sq h := hp.2.2.2.1
  have hp0 : 0 ≤ (h 23 2).toInt ∧ (h 23 2).toInt ≤ 160 := hp.2.2.2.2
  refine qm_seg_ok (C := qc_92) (rt := some .int) rfl rfl (cuts := []) 400 _ _ _ _ ?_
  show qm_PW X 76 [.ref 23] h _
  refine tx_76 X h  (by show 0 ≤ (h 23 2).toInt ∧ (h 23 2).toInt ≤ 160; omega) _ (fun r1 g2 p3 => ?_)
  obtain ⟨p3_0, p3_1, p3_2, p3_3, p3_4⟩ := p3
  have f4 : ∀ k, (k < 1 ∨ 31 < k ∨ k = 8 ∨ k = 9 ∨ k = 10 ∨ k = 11 ∨ k = 12 ∨ k = 13 ∨ k = 14 ∨ k = 15 ∨ k = 16 ∨ k = 17 ∨ k = 18 ∨ k = 19 ∨ k = 20 ∨ k = 21) → g2 k = h k := fun k hk => (p3_3 k (by omega)).trans (rfl)
  have k5 : mq 1 g2 := by unfold mq; rw [p3_3 1 (by omega)]; exact hm1
  have k6 : mq 8 g2 := by unfold mq; rw [p3_3 8 (by omega)]; exact hm8
  have k7 : mq 15 g2 := by unfold mq; rw [p3_3 15 (by omega)]; exact hm15
  have k8 : sq g2 := by unfold sq; rw [p3_3 37 (by omega)]; exact hmsq
  have o9 : (r1 = 0 ∨ r1 = 1) ∧ (g2 24) = (h 24) ∧ (((g2 23 2).toInt = (h 23 2).toInt)) ∧ rdQ (txF (h 24) (h 23 2).toInt.toNat 161 0 0 txS) r1.toInt (g2 23 4).toInt (g2 23 5).toInt (g2 23 3).toInt (h 23 2).toInt g2 := p3_4
  clear p3_4
  have f22 : g2 22 = h 22 := p3_3 22 (by omega)
  have fm76 := p3_3
  show (¬ r1 = 0 → (qm_PW X 23 [.ref 1, .ref 25] (qm_row g2 23 (upd (g2 23) 2 0)) _)) ∧ (r1 = 0 → (Q (some (.int ((-10 : Int32) - (g2 23 5)))) (qm_row g2 23 (upd (g2 23) 2 0))))
  refine ⟨fun c10 => ?_, fun c11 => ?_⟩
  · have := ti_neK 0 rfl c10
    refine ty_23_1_25 X (qm_row g2 23 (upd (g2 23) 2 0))  (by exact p3_1) _ (fun g12 p13 => ?_)
    obtain ⟨p13_0, p13_1, p13_2⟩ := p13
    have f14 : ∀ k, (k < 1 ∨ 31 < k ∨ k = 8 ∨ k = 9 ∨ k = 10 ∨ k = 11 ∨ k = 12 ∨ k = 13 ∨ k = 14 ∨ k = 15 ∨ k = 16 ∨ k = 17 ∨ k = 18 ∨ k = 19 ∨ k = 20 ∨ k = 21) → g12 k = h k := fun k hk => (p13_1 k (by omega)).trans (by simp only [qm_row]; rw [if_neg (by omega)]; exact f4 k hk)
    have k15 : mq 8 g12 := by unfold mq; rw [p13_1 8 (by omega)]; exact k6
    have k16 : mq 15 g12 := by unfold mq; rw [p13_1 15 (by omega)]; exact k7
    have k17 : sq g12 := by unfold sq; rw [p13_1 37 (by omega)]; exact k8
    have k18 : mq 25 g12 := by unfold mq; rw [p13_1 25 (by omega)]; exact p3_1
    have k19 : z9 g12 := by unfold z9; rw [p13_1 25 (by omega)]; exact p3_2
    have o20 : mC g12 = mCt (qm_row g2 23 (upd (g2 23) 2 0)) := p13_2
    clear p13_2
    have e21 : (g12 23 2).toInt = 0 := (congrArg (fun f : Nat → Int32 => (f 2).toInt) (p13_1 23 (by omega))).trans rfl
    have e22 : (g12 23 3).toInt = (g2 23 3).toInt := (congrArg (fun f : Nat → Int32 => (f 3).toInt) (p13_1 23 (by omega))).trans rfl
    have e23 : (g12 23 4).toInt = (g2 23 4).toInt := (congrArg (fun f : Nat → Int32 => (f 4).toInt) (p13_1 23 (by omega))).trans rfl
    have e24_g12 : g12 24 = (g2 24) := p13_1 24 (by omega)
    have e22_g12 : g12 22 = (g2 22) := p13_1 22 (by omega)
    show (0 ≤ (0 : Int) ∧ (0 : Int) < 2) ∧ ((0 ≤ (1 : Int) ∧ (1 : Int) < 2) ∧ (Q (some (.int (g12 23 3))) (qm_row (qm_row g12 22 (upd (g12 22) 0 (vp_nar .boolean 0))) 22 (upd (upd (g12 22) 0 (vp_nar .boolean 0)) 1 (vp_nar .boolean 0)))))
    refine ⟨by decide, ?_⟩
    refine ⟨by decide, ?_⟩
    exact hq (g12 23 3) (qm_row (qm_row g12 22 (upd (g12 22) 0 (vp_nar .boolean 0))) 22 (upd (upd (g12 22) 0 (vp_nar .boolean 0)) 1 (vp_nar .boolean 0))) ⟨(by exact p13_0), (by exact k15), (by exact k16), (by exact k17), (fun k hk => by simp only [qm_row]; rw [if_neg (by omega)]; rw [if_neg (by omega)]; exact f14 k hk), (by show (g12 23 2).toInt = 0 ∧ (g12 24) = (h 24) ∧ txQ (txF (h 24) (h 23 2).toInt.toNat 161 0 0 txS) (g12 23 3).toInt (g12 23 4).toInt (h 23 2).toInt ∧ ikQ (g12 23 4).toInt (h 22) (upd (upd (g12 22) 0 (vp_nar .boolean 0)) 1 (vp_nar .boolean 0)) ∧ txM (g12 23 4).toInt (txF (h 24) (h 23 2).toInt.toNat 161 0 0 txS) (mC h) (mC (qm_row (qm_row g12 22 (upd (g12 22) 0 (vp_nar .boolean 0))) 22 (upd (upd (g12 22) 0 (vp_nar .boolean 0)) 1 (vp_nar .boolean 0)))); exact ⟨by omega, e24_g12.trans o9.2.1, by rw [show (g12 23 4).toInt = (g2 23 4).toInt by omega]; exact txQ_rd1 o9.2.2.2 (by omega) (by omega), Or.inl ⟨by have := rd_fk1 o9.2.2.2 (by omega); omega, show (upd (upd (g12 22) 0 (vp_nar .boolean 0)) 1 (vp_nar .boolean 0)) = _ from congrArg (fun f => upd (upd f 0 0) 1 0) (e22_g12.trans f22)⟩, Or.inl ⟨by have := rd_fk1 o9.2.2.2 (by omega); omega, o20.trans (memT_c (g := g2) (rd_cT o9.2.2.2 (by omega)) (by have z : 0 ≤ (g2 25 9).toInt ∧ (g2 25 9).toInt ≤ 0 := p3_2; omega))⟩⟩)⟩
  · have := ti_eqK 0 rfl c11
    exact hq ((-10 : Int32) - (g2 23 5)) (qm_row g2 23 (upd (g2 23) 2 0)) ⟨(by exact k5), (by exact k6), (by exact k7), (by exact k8), (fun k hk => by simp only [qm_row]; rw [if_neg (by omega)]; exact f4 k hk), (by have : (0 : Int32).toInt = 0 := rfl; have := ti_subL (g2 23 5) (-10 : Int32) (-10) ti_n10; show (0 : Int32).toInt = 0 ∧ (g2 24) = (h 24) ∧ txQ (txF (h 24) (h 23 2).toInt.toNat 161 0 0 txS) ((-10 : Int32) - (g2 23 5)).toInt (g2 23 4).toInt (h 23 2).toInt ∧ ikQ (g2 23 4).toInt (h 22) (g2 22) ∧ txM (g2 23 4).toInt (txF (h 24) (h 23 2).toInt.toNat 161 0 0 txS) (mC h) (mC (qm_row g2 23 (upd (g2 23) 2 0))); generalize ((-10 : Int32) - (g2 23 5)) = z10 at *; have hfp := rd_fp o9.2.2.2 (by omega) (by omega); exact ⟨rfl, o9.2.1, txQ_rd0 o9.2.2.2 (by omega) (by omega), Or.inr ⟨rd_fk0 o9.2.2.2 (by omega), f22⟩, Or.inr ⟨rd_fk0 o9.2.2.2 (by omega), mC_of (h := h) (g := g2) (fun k q1 q2 => fm76 k (by omega))⟩⟩)⟩
-- ThreadBank.fault()I
set_option maxRecDepth 100000 in
set_option maxHeartbeats 4000000 in
theorem tx_93 (X : qm_X) (h : qm_H) (hp : True) (Q : qm_Q) (hq : ∀ r : Int32, (r.toInt = (h 23 4).toInt) → Q (some (.int r)) h) : qm_PW X 93 [.ref 0] h Q := by
  refine qm_seg_ok (C := qc_93) (rt := some .int) rfl rfl (cuts := []) 400 _ _ _ _ ?_
  show Q (some (.int (h 23 4))) h
  exact hq (h 23 4) (by show (h 23 4).toInt = (h 23 4).toInt; omega)
-- ThreadBankModel.feed(I)I
set_option maxRecDepth 100000 in
set_option maxHeartbeats 4000000 in
theorem tx_145 (X : qm_X) (h : qm_H) (a : Int32) (hp : mi h ∧ sm h ∧ zs h ∧ rw_ h) (Q : qm_Q) (hq : ∀ r : Int32, ∀ h' : qm_H, (mi h' ∧ sm h' ∧ zs h' ∧ rw_ h' ∧ (h' 39 3 = h 39 3) ∧ (∀ k, (k < 39 ∨ 44 < k ∨ k = 40 ∨ k = 41 ∨ k = 42 ∨ k = 43) → h' k = h k) ∧ ((((h' 39 14).toInt = (h 39 14).toInt)) ∧ fdQ a (h 39 9).toInt (h' 39 9).toInt (h 44) (h' 44))) → Q (some (.int r)) h') : qm_PW X 145 [.ref 39, .int a] h Q := by
  have hmmi : mi h := hp.1
  have ⟨⟨_, _⟩, ⟨_, _⟩, ⟨_, _⟩, ⟨_, _⟩, _, _⟩ := hmmi
  have hmsm : sm h := hp.2.1
  have ⟨⟨⟨_, _⟩, _, _⟩, _, _, _⟩ := hmsm
  have hmzs : zs h := hp.2.2.1
  have hmrw : rw_ h := hp.2.2.2
  refine qm_seg_ok (C := qc_145) (rt := some .int) rfl rfl (cuts := []) 400 _ _ _ _ ?_
  show qm_PW X 141 [.long (Int32.toInt64 a), .long 0, .long 127] h _
  refine sf_141 X h ((Int32.toInt64 a) : Int64) (0 : Int64) (127 : Int64) trivial _ (fun r1 p2 => ?_)
  have o3 : ¬ r1.toInt = 0 → (0 : Int64).toInt ≤ (Int32.toInt64 a).toInt ∧ (Int32.toInt64 a).toInt ≤ (127 : Int64).toInt := fun hc => p2.2.1 (fun e => hc (ti_eqK 0 rfl e))
  have o4 : r1.toInt = 0 → (Int32.toInt64 a).toInt < (0 : Int64).toInt ∨ (127 : Int64).toInt < (Int32.toInt64 a).toInt := fun hc => p2.2.2 (Int32.toInt_inj.mp hc)
  show (¬ r1 = 0 → ((¬ (h 39 9) = 160 → ((0 ≤ (h 39 9).toInt ∧ (h 39 9).toInt < 160) ∧ (Q (some (.int ((h 39 9) + 1))) (qm_row (qm_row h 44 (upd (h 44) (h 39 9).toInt.toNat a)) 39 (upd (h 39) 9 ((h 39 9) + 1)))))) ∧ ((h 39 9) = 160 → (Q (some (.int (-3 : Int32))) h)))) ∧ (r1 = 0 → (Q (some (.int (-1 : Int32))) h))
  refine ⟨fun c5 => ?_, fun c6 => ?_⟩
  · have := p2.2.1 c5
    have := ti_neK 0 rfl c5
    refine ⟨fun c7 => ?_, fun c8 => ?_⟩
    · have := ti_neK 160 rfl c7
      refine ⟨(by have : (0 : Int64).toInt = 0 := rfl; have : (127 : Int64).toInt = 127 := rfl; have := i64 a; omega), ?_⟩
      exact hq ((h 39 9) + 1) (qm_row (qm_row h 44 (upd (h 44) (h 39 9).toInt.toNat a)) 39 (upd (h 39) 9 ((h 39 9) + 1))) ⟨(by have ⟨⟨_, _⟩, ⟨_, _⟩, ⟨_, _⟩, ⟨_, _⟩, _, _⟩ := hmmi; have ⟨⟨⟨_, _⟩, _, _⟩, _, _, _⟩ := hmsm; show (0 ≤ (h 39 3).toInt ∧ (h 39 3).toInt ≤ 4) ∧ (0 ≤ ((h 39 9) + 1).toInt ∧ ((h 39 9) + 1).toInt ≤ 160) ∧ (0 ≤ (h 39 19).toInt ∧ (h 39 19).toInt ≤ 4) ∧ (0 ≤ (h 39 20).toInt ∧ (h 39 20).toInt ≤ 255) ∧ (0 ≤ (h 39 11).toInt ∧ (h 39 11).toInt ≤ 160); have := ti_addK (h 39 9) (1 : Int32) 1 rfl; have : (0 : Int64).toInt = 0 := rfl; have : (127 : Int64).toInt = 127 := rfl; have := i64 a; omega), (by exact hmsm), (by exact hmzs), (by exact hmrw), (show ((qm_row (qm_row h 44 (upd (h 44) (h 39 9).toInt.toNat a)) 39 (upd (h 39) 9 ((h 39 9) + 1))) 39 3 = h 39 3) from rfl), (fun k hk => by simp only [qm_row]; rw [if_neg (by omega)]; rw [if_neg (by omega)]), (by have := ti_addK (h 39 9) (1 : Int32) 1 rfl; have : (0 : Int64).toInt = 0 := rfl; have : (127 : Int64).toInt = 127 := rfl; have := i64 a; show (((h 39 14).toInt = (h 39 14).toInt)) ∧ fdQ a (h 39 9).toInt ((h 39 9) + 1).toInt (h 44) (upd (h 44) (h 39 9).toInt.toNat a); have := i64 a; have : (0 : Int64).toInt = 0 := rfl; have : (127 : Int64).toInt = 127 := rfl; (first | exact ⟨by omega, Or.inr ⟨by omega, rfl, rfl⟩⟩ | exact ⟨by omega, Or.inl ⟨by omega, by omega, by omega, rfl⟩⟩))⟩
    · have := ti_eqK 160 rfl c8
      exact hq (-3 : Int32) h ⟨hmmi, hmsm, hmzs, hmrw, rfl, (fun k hk => rfl), (by have : (0 : Int64).toInt = 0 := rfl; have : (127 : Int64).toInt = 127 := rfl; have := i64 a; show (((h 39 14).toInt = (h 39 14).toInt)) ∧ fdQ a (h 39 9).toInt (h 39 9).toInt (h 44) (h 44); have := i64 a; have : (0 : Int64).toInt = 0 := rfl; have : (127 : Int64).toInt = 127 := rfl; (first | exact ⟨by omega, Or.inr ⟨by omega, rfl, rfl⟩⟩ | exact ⟨by omega, Or.inl ⟨by omega, by omega, by omega, rfl⟩⟩))⟩
  · have := p2.2.2 c6
    have := ti_eqK 0 rfl c6
    exact hq (-1 : Int32) h ⟨hmmi, hmsm, hmzs, hmrw, rfl, (fun k hk => rfl), (by have : (0 : Int64).toInt = 0 := rfl; have : (127 : Int64).toInt = 127 := rfl; have := i64 a; show (((h 39 14).toInt = (h 39 14).toInt)) ∧ fdQ a (h 39 9).toInt (h 39 9).toInt (h 44) (h 44); have := i64 a; have : (0 : Int64).toInt = 0 := rfl; have : (127 : Int64).toInt = 127 := rfl; (first | exact ⟨by omega, Or.inr ⟨by omega, rfl, rfl⟩⟩ | exact ⟨by omega, Or.inl ⟨by omega, by omega, by omega, rfl⟩⟩))⟩
-- ThreadBankModel.end(I)I
set_option maxRecDepth 100000 in
set_option maxHeartbeats 4000000 in
theorem tx_146 (X : qm_X) (h : qm_H) (a : Int32) (hp : mi h ∧ sm h ∧ zs h ∧ rw_ h) (Q : qm_Q) (hq : ∀ r : Int32, ∀ h' : qm_H, (mi h' ∧ sm h' ∧ zs h' ∧ rw_ h' ∧ (h' 39 3 = h 39 3) ∧ (∀ k, (k < 39 ∨ 39 < k) → h' k = h k) ∧ ((((0 ≤ a.toInt ∧ a.toInt ≤ (h 39 9).toInt) ∧ (h' 39 9).toInt = a.toInt) ∨ (¬ (0 ≤ a.toInt ∧ a.toInt ≤ (h 39 9).toInt) ∧ (h' 39 9).toInt = (h 39 9).toInt)) ∧ (((h' 39 14).toInt = (h 39 14).toInt)))) → Q (some (.int r)) h') : qm_PW X 146 [.ref 39, .int a] h Q := by
  have hmmi : mi h := hp.1
  have ⟨⟨_, _⟩, ⟨_, _⟩, ⟨_, _⟩, ⟨_, _⟩, _, _⟩ := hmmi
  have hmsm : sm h := hp.2.1
  have ⟨⟨⟨_, _⟩, _, _⟩, _, _, _⟩ := hmsm
  have hmzs : zs h := hp.2.2.1
  have hmrw : rw_ h := hp.2.2.2
  refine qm_seg_ok (C := qc_146) (rt := some .int) rfl rfl (cuts := []) 400 _ _ _ _ ?_
  show qm_PW X 141 [.long (Int32.toInt64 a), .long 0, .long (Int32.toInt64 (h 39 9))] h _
  refine sf_141 X h ((Int32.toInt64 a) : Int64) (0 : Int64) ((Int32.toInt64 (h 39 9)) : Int64) trivial _ (fun r1 p2 => ?_)
  have o3 : ¬ r1.toInt = 0 → (0 : Int64).toInt ≤ (Int32.toInt64 a).toInt ∧ (Int32.toInt64 a).toInt ≤ (Int32.toInt64 (h 39 9)).toInt := fun hc => p2.2.1 (fun e => hc (ti_eqK 0 rfl e))
  have o4 : r1.toInt = 0 → (Int32.toInt64 a).toInt < (0 : Int64).toInt ∨ (Int32.toInt64 (h 39 9)).toInt < (Int32.toInt64 a).toInt := fun hc => p2.2.2 (Int32.toInt_inj.mp hc)
  show (¬ r1 = 0 → (Q (some (.int (h 39 9))) (qm_row h 39 (upd (h 39) 9 a)))) ∧ (r1 = 0 → (Q (some (.int (-1 : Int32))) h))
  refine ⟨fun c5 => ?_, fun c6 => ?_⟩
  · have := p2.2.1 c5
    exact hq (h 39 9) (qm_row h 39 (upd (h 39) 9 a)) ⟨(by have ⟨⟨_, _⟩, ⟨_, _⟩, ⟨_, _⟩, ⟨_, _⟩, _, _⟩ := hmmi; have ⟨⟨⟨_, _⟩, _, _⟩, _, _, _⟩ := hmsm; show (0 ≤ (h 39 3).toInt ∧ (h 39 3).toInt ≤ 4) ∧ (0 ≤ a.toInt ∧ a.toInt ≤ 160) ∧ (0 ≤ (h 39 19).toInt ∧ (h 39 19).toInt ≤ 4) ∧ (0 ≤ (h 39 20).toInt ∧ (h 39 20).toInt ≤ 255) ∧ (0 ≤ (h 39 11).toInt ∧ (h 39 11).toInt ≤ 160); have : (0 : Int64).toInt = 0 := rfl; have := i64 a; have := i64 (h 39 9); omega), (by exact hmsm), (by exact hmzs), (by exact hmrw), (show ((qm_row h 39 (upd (h 39) 9 a)) 39 3 = h 39 3) from rfl), (fun k hk => by simp only [qm_row]; rw [if_neg (by omega)]), (by have : (0 : Int64).toInt = 0 := rfl; have := i64 a; have := i64 (h 39 9); show (((0 ≤ a.toInt ∧ a.toInt ≤ (h 39 9).toInt) ∧ a.toInt = a.toInt) ∨ (¬ (0 ≤ a.toInt ∧ a.toInt ≤ (h 39 9).toInt) ∧ a.toInt = (h 39 9).toInt)) ∧ (((h 39 14).toInt = (h 39 14).toInt)); omega)⟩
  · have := p2.2.2 c6
    exact hq (-1 : Int32) h ⟨hmmi, hmsm, hmzs, hmrw, rfl, (fun k hk => rfl), (by have : (0 : Int64).toInt = 0 := rfl; have := i64 a; have := i64 (h 39 9); show (((0 ≤ a.toInt ∧ a.toInt ≤ (h 39 9).toInt) ∧ (h 39 9).toInt = a.toInt) ∨ (¬ (0 ≤ a.toInt ∧ a.toInt ≤ (h 39 9).toInt) ∧ (h 39 9).toInt = (h 39 9).toInt)) ∧ (((h 39 14).toInt = (h 39 14).toInt)); omega)⟩
-- ThreadBankModel.fault()I
set_option maxRecDepth 100000 in
set_option maxHeartbeats 4000000 in
theorem tx_163 (X : qm_X) (h : qm_H) (hp : True) (Q : qm_Q) (hq : ∀ r : Int32, (r.toInt = (h 39 14).toInt) → Q (some (.int r)) h) : qm_PW X 163 [.ref 39] h Q := by
  refine qm_seg_ok (C := qc_163) (rt := some .int) rfl rfl (cuts := []) 400 _ _ _ _ ?_
  show Q (some (.int (h 39 14))) h
  exact hq (h 39 14) (by show (h 39 14).toInt = (h 39 14).toInt; omega)
-- ThreadBank.isImage(I)Z
set_option maxRecDepth 100000 in
set_option maxHeartbeats 4000000 in
theorem tx_135 (X : qm_X) (h : qm_H) (a : Int32) (hp : True) (Q : qm_Q) (hq : ∀ r : Int32, ((r = 0 ∨ r = 1) ∧ ((r.toInt = 1 ∧ 0 ≤ a.toInt ∧ a.toInt ≤ 1) ∨ (r.toInt = 0 ∧ ¬ (0 ≤ a.toInt ∧ a.toInt ≤ 1)))) → Q (some (.int r)) h) : qm_PW X 135 [.int a] h Q := by
  refine qm_seg_ok (C := qc_135) (rt := some .boolean) rfl rfl (cuts := []) 400 _ _ _ _ ?_
  show (a = 0 → (((1 : Int32) = 0 ∨ (1 : Int32) = 1) ∧ Q (some (.int 1)) h)) ∧ (¬ a = 0 → ((¬ a = 1 → (((0 : Int32) = 0 ∨ (0 : Int32) = 1) ∧ Q (some (.int 0)) h)) ∧ (a = 1 → (((1 : Int32) = 0 ∨ (1 : Int32) = 1) ∧ Q (some (.int 1)) h))))
  refine ⟨fun c1 => ?_, fun c2 => ?_⟩
  · have := ti_eqK 0 rfl c1
    exact ⟨Or.inr rfl, hq 1 (by have : (1 : Int32).toInt = 1 := rfl; show ((1 : Int32) = 0 ∨ (1 : Int32) = 1) ∧ (((1 : Int32).toInt = 1 ∧ 0 ≤ a.toInt ∧ a.toInt ≤ 1) ∨ ((1 : Int32).toInt = 0 ∧ ¬ (0 ≤ a.toInt ∧ a.toInt ≤ 1))); first | exact ⟨Or.inr rfl, by omega⟩ | exact ⟨Or.inl rfl, by omega⟩)⟩
  · have := ti_neK 0 rfl c2
    refine ⟨fun c3 => ?_, fun c4 => ?_⟩
    · have := ti_neK 1 rfl c3
      exact ⟨Or.inl rfl, hq 0 (by have : (0 : Int32).toInt = 0 := rfl; show ((0 : Int32) = 0 ∨ (0 : Int32) = 1) ∧ (((0 : Int32).toInt = 1 ∧ 0 ≤ a.toInt ∧ a.toInt ≤ 1) ∨ ((0 : Int32).toInt = 0 ∧ ¬ (0 ≤ a.toInt ∧ a.toInt ≤ 1))); first | exact ⟨Or.inr rfl, by omega⟩ | exact ⟨Or.inl rfl, by omega⟩)⟩
    · have := ti_eqK 1 rfl c4
      exact ⟨Or.inr rfl, hq 1 (by have : (1 : Int32).toInt = 1 := rfl; show ((1 : Int32) = 0 ∨ (1 : Int32) = 1) ∧ (((1 : Int32).toInt = 1 ∧ 0 ≤ a.toInt ∧ a.toInt ≤ 1) ∨ ((1 : Int32).toInt = 0 ∧ ¬ (0 ≤ a.toInt ∧ a.toInt ≤ 1))); first | exact ⟨Or.inr rfl, by omega⟩ | exact ⟨Or.inl rfl, by omega⟩)⟩
