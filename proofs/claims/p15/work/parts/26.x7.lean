-- ThreadBank.greatestShared(JJ)J
set_option maxRecDepth 100000 in
set_option maxHeartbeats 4000000 in
theorem sf_140_c (X : qm_X) (h : qm_H) (a : Int64) (b : Int64) (hp : True) (Q : qm_Q) (hq : ∀ r : Int64, (True) → Q (some (.long r)) h) : ∀ n : Nat, (∀ (l4 : Int64) (l6 : Int64) (l8 : Int32), (0 ≤ l8.toInt ∧ l8.toInt ≤ 100) → (100 - l8.toInt).toNat < n → qm_PA X 140 9 [(0, .long a), (2, .long b), (4, .long l4), (6, .long l6), (8, .int l8)] [] h Q) := by
  intro n
  induction n with
  | zero => exact fun _ _ _ _ h0 => absurd h0 (Nat.not_lt_zero _)
  | succ n ih =>
    intro l4 l6 l8 hi hr
    refine qm_seg_ok (C := qc_140) (rt := some .long) rfl rfl (cuts := [(9, [0, 2, 4, 6, 8])]) 400 _ _ _ _ ?_
    show (100 ≤ l8.toInt → (Q (some (.long l4)) h)) ∧ (l8.toInt < 100 → (((lg_cmp l6 0) = 0 → (Q (some (.long l4)) h)) ∧ (¬ (lg_cmp l6 0) = 0 → (¬ l6 = 0 ∧ (qm_PA X 140 9 [(0, .long a), (2, .long b), (4, .long l6), (6, .long (l4 - l4 / l6 * l6)), (8, .int (l8 + 1))] [] h Q)))))
    refine ⟨fun c1 => ?_, fun c2 => ?_⟩
    · exact hq l4 trivial
    · refine ⟨fun c3 => ?_, fun c4 => ?_⟩
      · exact hq l4 trivial
      · refine ⟨(lg_ne (by assumption)), ?_⟩
        exact ih l6 (l4 - l4 / l6 * l6) (l8 + 1) (by have := ti_addK l8 (1 : Int32) 1 rfl; have := lg_cmp_i l6 0; omega) (by have := ti_addK l8 (1 : Int32) 1 rfl; have := lg_cmp_i l6 0; omega)
set_option maxRecDepth 100000 in
set_option maxHeartbeats 4000000 in
theorem sf_140 (X : qm_X) (h : qm_H) (a : Int64) (b : Int64) (hp : True) (Q : qm_Q) (hq : ∀ r : Int64, (True) → Q (some (.long r)) h) : qm_PW X 140 [.long a, .long b] h Q := by
  refine qm_seg_ok (C := qc_140) (rt := some .long) rfl rfl (cuts := [(9, [0, 2, 4, 6, 8])]) 400 _ _ _ _ ?_
  show qm_PA X 140 9 [(0, .long a), (2, .long b), (4, .long a), (6, .long b), (8, .int 0)] [] h Q
  exact (sf_140_c X h a b hp Q hq _) a b (0 : Int32) (by have : (0 : Int32).toInt = 0 := rfl; omega) (Nat.lt_succ_self _)
-- ThreadBank.partOf(JJI)J
set_option maxRecDepth 100000 in
set_option maxHeartbeats 4000000 in
theorem sf_139 (X : qm_X) (h : qm_H) (a : Int64) (b : Int64) (c : Int32) (hp : True) (Q : qm_Q) (hq : ∀ r : Int64, (True) → Q (some (.long r)) h) : qm_PW X 139 [.long a, .long b, .int c] h Q := by
  refine qm_seg_ok (C := qc_139) (rt := some .long) rfl rfl (cuts := []) 400 _ _ _ _ ?_
  show qm_PW X 140 [.long a, .long b] h _
  refine sf_140 X h (a : Int64) (b : Int64) trivial _ (fun r1 p2 => ?_)
  show (¬ (lg_cmp r1 0) = 0 → ((¬ c = 0 → (¬ r1 = 0 ∧ (Q (some (.long (b / r1))) h))) ∧ (c = 0 → (¬ r1 = 0 ∧ (Q (some (.long (a / r1))) h))))) ∧ ((lg_cmp r1 0) = 0 → (Q (some (.long 0)) h))
  refine ⟨fun c3 => ?_, fun c4 => ?_⟩
  · refine ⟨fun c5 => ?_, fun c6 => ?_⟩
    · refine ⟨(lg_ne (by assumption)), ?_⟩
      exact hq (b / r1) trivial
    · refine ⟨(lg_ne (by assumption)), ?_⟩
      exact hq (a / r1) trivial
  · exact hq 0 trivial
-- ThreadBank.isImage(I)Z
set_option maxRecDepth 100000 in
set_option maxHeartbeats 4000000 in
theorem sf_135 (X : qm_X) (h : qm_H) (a : Int32) (hp : True) (Q : qm_Q) (hq : ∀ r : Int32, ((r = 0 ∨ r = 1) ∧ (¬ r = 0 → 0 ≤ a.toInt ∧ a.toInt < 2)) → Q (some (.int r)) h) : qm_PW X 135 [.int a] h Q := by
  refine qm_seg_ok (C := qc_135) (rt := some .boolean) rfl rfl (cuts := []) 400 _ _ _ _ ?_
  show (a = 0 → (((1 : Int32) = 0 ∨ (1 : Int32) = 1) ∧ Q (some (.int 1)) h)) ∧ (¬ a = 0 → ((¬ a = 1 → (((0 : Int32) = 0 ∨ (0 : Int32) = 1) ∧ Q (some (.int 0)) h)) ∧ (a = 1 → (((1 : Int32) = 0 ∨ (1 : Int32) = 1) ∧ Q (some (.int 1)) h))))
  refine ⟨fun c1 => ?_, fun c2 => ?_⟩
  · exact ⟨Or.inr rfl, hq 1 (by first | exact ⟨Or.inl rfl, fun hc => absurd rfl hc⟩ | (subst_vars; exact ⟨Or.inr rfl, fun _ => by decide⟩))⟩
  · refine ⟨fun c3 => ?_, fun c4 => ?_⟩
    · exact ⟨Or.inl rfl, hq 0 (by first | exact ⟨Or.inl rfl, fun hc => absurd rfl hc⟩ | (subst_vars; exact ⟨Or.inr rfl, fun _ => by decide⟩))⟩
    · exact ⟨Or.inr rfl, hq 1 (by first | exact ⟨Or.inl rfl, fun hc => absurd rfl hc⟩ | (subst_vars; exact ⟨Or.inr rfl, fun _ => by decide⟩))⟩
-- ThreadBank.isOdds(I)Z
set_option maxRecDepth 100000 in
set_option maxHeartbeats 4000000 in
theorem sf_136 (X : qm_X) (h : qm_H) (a : Int32) (hp : True) (Q : qm_Q) (hq : ∀ r : Int32, ((r = 0 ∨ r = 1) ∧ (¬ r = 0 → 0 ≤ a.toInt ∧ a.toInt ≤ 10)) → Q (some (.int r)) h) : qm_PW X 136 [.int a] h Q := by
  refine qm_seg_ok (C := qc_136) (rt := some .boolean) rfl rfl (cuts := []) 400 _ _ _ _ ?_
  show (a.toInt < 0 → (((0 : Int32) = 0 ∨ (0 : Int32) = 1) ∧ Q (some (.int 0)) h)) ∧ (0 ≤ a.toInt → ((10 < a.toInt → (((0 : Int32) = 0 ∨ (0 : Int32) = 1) ∧ Q (some (.int 0)) h)) ∧ (a.toInt ≤ 10 → (((1 : Int32) = 0 ∨ (1 : Int32) = 1) ∧ Q (some (.int 1)) h))))
  refine ⟨fun c1 => ?_, fun c2 => ?_⟩
  · exact ⟨Or.inl rfl, hq 0 (by first | omega | exact ⟨Or.inl rfl, fun hc => absurd rfl hc⟩ | exact ⟨Or.inr rfl, fun hc => absurd hc (by decide)⟩ | (refine ⟨Or.inr rfl, fun _ => ?_⟩; omega) | (refine ⟨Or.inl rfl, fun _ => ?_⟩; omega) | (simp; done))⟩
  · refine ⟨fun c3 => ?_, fun c4 => ?_⟩
    · exact ⟨Or.inl rfl, hq 0 (by first | omega | exact ⟨Or.inl rfl, fun hc => absurd rfl hc⟩ | exact ⟨Or.inr rfl, fun hc => absurd hc (by decide)⟩ | (refine ⟨Or.inr rfl, fun _ => ?_⟩; omega) | (refine ⟨Or.inl rfl, fun _ => ?_⟩; omega) | (simp; done))⟩
    · exact ⟨Or.inr rfl, hq 1 (by first | omega | exact ⟨Or.inl rfl, fun hc => absurd rfl hc⟩ | exact ⟨Or.inr rfl, fun hc => absurd hc (by decide)⟩ | (refine ⟨Or.inr rfl, fun _ => ?_⟩; omega) | (refine ⟨Or.inl rfl, fun _ => ?_⟩; omega) | (simp; done))⟩
-- ThreadBank.isPart(I)Z
set_option maxRecDepth 100000 in
set_option maxHeartbeats 4000000 in
theorem sf_137 (X : qm_X) (h : qm_H) (a : Int32) (hp : True) (Q : qm_Q) (hq : ∀ r : Int32, (r = 0 ∨ r = 1) → Q (some (.int r)) h) : qm_PW X 137 [.int a] h Q := by
  refine qm_seg_ok (C := qc_137) (rt := some .boolean) rfl rfl (cuts := []) 400 _ _ _ _ ?_
  show (a = 0 → (((1 : Int32) = 0 ∨ (1 : Int32) = 1) ∧ Q (some (.int 1)) h)) ∧ (¬ a = 0 → ((¬ a = 1 → (((0 : Int32) = 0 ∨ (0 : Int32) = 1) ∧ Q (some (.int 0)) h)) ∧ (a = 1 → (((1 : Int32) = 0 ∨ (1 : Int32) = 1) ∧ Q (some (.int 1)) h))))
  refine ⟨fun c1 => ?_, fun c2 => ?_⟩
  · exact ⟨Or.inr rfl, hq 1 (Or.inr rfl)⟩
  · refine ⟨fun c3 => ?_, fun c4 => ?_⟩
    · exact ⟨Or.inl rfl, hq 0 (Or.inl rfl)⟩
    · exact ⟨Or.inr rfl, hq 1 (Or.inr rfl)⟩
-- ThreadBank.feed(I)I
set_option maxRecDepth 100000 in
set_option maxHeartbeats 4000000 in
theorem sf_90_0 (X : qm_X) (h : qm_H) (a : Int32) (hp : mq 1 h ∧ mq 8 h ∧ mq 15 h ∧ sq h) (Q : qm_Q) (hq : ∀ r : Int32, ∀ h' : qm_H, (mq 1 h' ∧ mq 8 h' ∧ mq 15 h' ∧ sq h' ∧ (∀ k, (k < 23 ∨ 24 < k) → h' k = h k) ∧ ((r.toInt = -1 ∧ (h' 23 2).toInt = (h 23 2).toInt ∧ (a.toInt < 0 ∨ 127 < a.toInt)) ∨ (r.toInt = -3 ∧ (h' 23 2).toInt = (h 23 2).toInt ∧ (0 ≤ a.toInt ∧ a.toInt ≤ 127) ∧ ((h 23 2).toInt < 0 ∨ 160 ≤ (h 23 2).toInt)) ∨ (r.toInt = (h 23 2).toInt + 1 ∧ (h' 23 2).toInt = (h 23 2).toInt + 1 ∧ (0 ≤ a.toInt ∧ a.toInt ≤ 127) ∧ (0 ≤ (h 23 2).toInt ∧ (h 23 2).toInt < 160)))) → Q (some (.int r)) h') : qm_PW X 90 [.ref 0, .int a] h Q := by
  have hm1 : mq 1 h := hp.1
  have ⟨⟨_, _⟩, ⟨_, _⟩, _, _⟩ := hm1
  have hm8 : mq 8 h := hp.2.1
  have ⟨⟨_, _⟩, ⟨_, _⟩, _, _⟩ := hm8
  have hm15 : mq 15 h := hp.2.2.1
  have ⟨⟨_, _⟩, ⟨_, _⟩, _, _⟩ := hm15
  have hmsq : sq h := hp.2.2.2
  refine qm_seg_ok (C := qc_90) (rt := some .int) rfl rfl (cuts := []) 400 _ _ _ _ ?_
  show (a.toInt < 0 → (Q (some (.int (-1 : Int32))) h)) ∧ (0 ≤ a.toInt → ((a.toInt ≤ 127 → (qm_PW X 75 [.ref 23, .int a] h _)) ∧ (127 < a.toInt → (Q (some (.int (-1 : Int32))) h))))
  refine ⟨fun c1 => ?_, fun c2 => ?_⟩
  · exact hq (-1 : Int32) h ⟨hm1, hm8, hm15, hmsq, (fun k hk => rfl), (by show ((-1 : Int32).toInt = -1 ∧ (h 23 2).toInt = (h 23 2).toInt ∧ (a.toInt < 0 ∨ 127 < a.toInt)) ∨ ((-1 : Int32).toInt = -3 ∧ (h 23 2).toInt = (h 23 2).toInt ∧ (0 ≤ a.toInt ∧ a.toInt ≤ 127) ∧ ((h 23 2).toInt < 0 ∨ 160 ≤ (h 23 2).toInt)) ∨ ((-1 : Int32).toInt = (h 23 2).toInt + 1 ∧ (h 23 2).toInt = (h 23 2).toInt + 1 ∧ (0 ≤ a.toInt ∧ a.toInt ≤ 127) ∧ (0 ≤ (h 23 2).toInt ∧ (h 23 2).toInt < 160)); rw [ti_n1]; omega)⟩
  · refine ⟨fun c3 => ?_, fun c4 => ?_⟩
    · refine sf_75_23 X h a trivial _ (fun r5 g6 p7 => ?_)
      have f8 : ∀ k, (k < 23 ∨ 24 < k) → g6 k = h k := fun k hk => (p7.1 k (by omega)).trans (rfl)
      have k9 : mq 1 g6 := by unfold mq; rw [p7.1 1 (by omega)]; exact hm1
      have k10 : mq 8 g6 := by unfold mq; rw [p7.1 8 (by omega)]; exact hm8
      have k11 : mq 15 g6 := by unfold mq; rw [p7.1 15 (by omega)]; exact hm15
      have k12 : sq g6 := by unfold sq; rw [p7.1 37 (by omega)]; exact hmsq
      have o13 : (r5 = 0 ∨ r5 = 1) ∧ (¬ r5 = 0 → (0 ≤ (h 23 2).toInt ∧ (h 23 2).toInt < 160) ∧ (g6 23 2).toInt = (h 23 2).toInt + 1) ∧ (r5 = 0 → ((h 23 2).toInt < 0 ∨ 160 ≤ (h 23 2).toInt) ∧ (g6 23 2).toInt = (h 23 2).toInt) := p7.2
      show (r5 = 0 → (Q (some (.int (-3 : Int32))) g6)) ∧ (¬ r5 = 0 → (Q (some (.int (g6 23 2))) g6))
      refine ⟨fun c14 => ?_, fun c15 => ?_⟩
      · have := p7.2.2.2 c14
        exact hq (-3 : Int32) g6 ⟨k9, k10, k11, k12, (fun k hk => f8 k hk), (by show ((-3 : Int32).toInt = -1 ∧ (g6 23 2).toInt = (h 23 2).toInt ∧ (a.toInt < 0 ∨ 127 < a.toInt)) ∨ ((-3 : Int32).toInt = -3 ∧ (g6 23 2).toInt = (h 23 2).toInt ∧ (0 ≤ a.toInt ∧ a.toInt ≤ 127) ∧ ((h 23 2).toInt < 0 ∨ 160 ≤ (h 23 2).toInt)) ∨ ((-3 : Int32).toInt = (h 23 2).toInt + 1 ∧ (g6 23 2).toInt = (h 23 2).toInt + 1 ∧ (0 ≤ a.toInt ∧ a.toInt ≤ 127) ∧ (0 ≤ (h 23 2).toInt ∧ (h 23 2).toInt < 160)); rw [ti_n3]; omega)⟩
      · have := p7.2.2.1 c15
        exact hq (g6 23 2) g6 ⟨k9, k10, k11, k12, (fun k hk => f8 k hk), (by show ((g6 23 2).toInt = -1 ∧ (g6 23 2).toInt = (h 23 2).toInt ∧ (a.toInt < 0 ∨ 127 < a.toInt)) ∨ ((g6 23 2).toInt = -3 ∧ (g6 23 2).toInt = (h 23 2).toInt ∧ (0 ≤ a.toInt ∧ a.toInt ≤ 127) ∧ ((h 23 2).toInt < 0 ∨ 160 ≤ (h 23 2).toInt)) ∨ ((g6 23 2).toInt = (h 23 2).toInt + 1 ∧ (g6 23 2).toInt = (h 23 2).toInt + 1 ∧ (0 ≤ a.toInt ∧ a.toInt ≤ 127) ∧ (0 ≤ (h 23 2).toInt ∧ (h 23 2).toInt < 160)); omega)⟩
    · exact hq (-1 : Int32) h ⟨hm1, hm8, hm15, hmsq, (fun k hk => rfl), (by show ((-1 : Int32).toInt = -1 ∧ (h 23 2).toInt = (h 23 2).toInt ∧ (a.toInt < 0 ∨ 127 < a.toInt)) ∨ ((-1 : Int32).toInt = -3 ∧ (h 23 2).toInt = (h 23 2).toInt ∧ (0 ≤ a.toInt ∧ a.toInt ≤ 127) ∧ ((h 23 2).toInt < 0 ∨ 160 ≤ (h 23 2).toInt)) ∨ ((-1 : Int32).toInt = (h 23 2).toInt + 1 ∧ (h 23 2).toInt = (h 23 2).toInt + 1 ∧ (0 ≤ a.toInt ∧ a.toInt ≤ 127) ∧ (0 ≤ (h 23 2).toInt ∧ (h 23 2).toInt < 160)); rw [ti_n1]; omega)⟩
-- ThreadBank.end(I)I
set_option maxRecDepth 100000 in
set_option maxHeartbeats 4000000 in
theorem sf_91_0 (X : qm_X) (h : qm_H) (a : Int32) (hp : mq 1 h ∧ mq 8 h ∧ mq 15 h ∧ sq h) (Q : qm_Q) (hq : ∀ r : Int32, ∀ h' : qm_H, (mq 1 h' ∧ mq 8 h' ∧ mq 15 h' ∧ sq h' ∧ (∀ k, (k < 23 ∨ 23 < k) → h' k = h k) ∧ ((r.toInt = -1 ∧ (h' 23 2).toInt = (h 23 2).toInt ∧ (a.toInt < 0 ∨ (h 23 2).toInt < a.toInt)) ∨ (r.toInt = (h 23 2).toInt ∧ (h' 23 2).toInt = a.toInt ∧ (0 ≤ a.toInt ∧ a.toInt ≤ (h 23 2).toInt)))) → Q (some (.int r)) h') : qm_PW X 91 [.ref 0, .int a] h Q := by
  have hm1 : mq 1 h := hp.1
  have ⟨⟨_, _⟩, ⟨_, _⟩, _, _⟩ := hm1
  have hm8 : mq 8 h := hp.2.1
  have ⟨⟨_, _⟩, ⟨_, _⟩, _, _⟩ := hm8
  have hm15 : mq 15 h := hp.2.2.1
  have ⟨⟨_, _⟩, ⟨_, _⟩, _, _⟩ := hm15
  have hmsq : sq h := hp.2.2.2
  refine qm_seg_ok (C := qc_91) (rt := some .int) rfl rfl (cuts := []) 400 _ _ _ _ ?_
  show (a.toInt < 0 → (Q (some (.int (-1 : Int32))) h)) ∧ (0 ≤ a.toInt → ((a.toInt ≤ (h 23 2).toInt → (Q (some (.int (h 23 2))) (qm_row h 23 (upd (h 23) 2 a)))) ∧ ((h 23 2).toInt < a.toInt → (Q (some (.int (-1 : Int32))) h))))
  refine ⟨fun c1 => ?_, fun c2 => ?_⟩
  · exact hq (-1 : Int32) h ⟨hm1, hm8, hm15, hmsq, (fun k hk => rfl), (by show ((-1 : Int32).toInt = -1 ∧ (h 23 2).toInt = (h 23 2).toInt ∧ (a.toInt < 0 ∨ (h 23 2).toInt < a.toInt)) ∨ ((-1 : Int32).toInt = (h 23 2).toInt ∧ (h 23 2).toInt = a.toInt ∧ (0 ≤ a.toInt ∧ a.toInt ≤ (h 23 2).toInt)); rw [ti_n1]; omega)⟩
  · refine ⟨fun c3 => ?_, fun c4 => ?_⟩
    · exact hq (h 23 2) (qm_row h 23 (upd (h 23) 2 a)) ⟨(by exact hm1), (by exact hm8), (by exact hm15), (by exact hmsq), (fun k hk => by simp only [qm_row]; rw [if_neg (by omega)]), (by show ((h 23 2).toInt = -1 ∧ a.toInt = (h 23 2).toInt ∧ (a.toInt < 0 ∨ (h 23 2).toInt < a.toInt)) ∨ ((h 23 2).toInt = (h 23 2).toInt ∧ a.toInt = a.toInt ∧ (0 ≤ a.toInt ∧ a.toInt ≤ (h 23 2).toInt)); omega)⟩
    · exact hq (-1 : Int32) h ⟨hm1, hm8, hm15, hmsq, (fun k hk => rfl), (by show ((-1 : Int32).toInt = -1 ∧ (h 23 2).toInt = (h 23 2).toInt ∧ (a.toInt < 0 ∨ (h 23 2).toInt < a.toInt)) ∨ ((-1 : Int32).toInt = (h 23 2).toInt ∧ (h 23 2).toInt = a.toInt ∧ (0 ≤ a.toInt ∧ a.toInt ≤ (h 23 2).toInt)); rw [ti_n1]; omega)⟩
-- ThreadBank.text()I
set_option maxRecDepth 100000 in
set_option maxHeartbeats 4000000 in
theorem sf_92_0 (X : qm_X) (h : qm_H) (hp : mq 1 h ∧ mq 8 h ∧ mq 15 h ∧ sq h) (Q : qm_Q) (hq : ∀ r : Int32, ∀ h' : qm_H, (mq 1 h' ∧ mq 8 h' ∧ mq 15 h' ∧ sq h' ∧ (∀ k, (k < 1 ∨ 31 < k) → h' k = h k) ∧ ((h' 23 2).toInt = 0)) → Q (some (.int r)) h') : qm_PW X 92 [.ref 0] h Q := by
  have hm1 : mq 1 h := hp.1
  have ⟨⟨_, _⟩, ⟨_, _⟩, _, _⟩ := hm1
  have hm8 : mq 8 h := hp.2.1
  have ⟨⟨_, _⟩, ⟨_, _⟩, _, _⟩ := hm8
  have hm15 : mq 15 h := hp.2.2.1
  have ⟨⟨_, _⟩, ⟨_, _⟩, _, _⟩ := hm15
  have hmsq : sq h := hp.2.2.2
  refine qm_seg_ok (C := qc_92) (rt := some .int) rfl rfl (cuts := []) 400 _ _ _ _ ?_
  show qm_PW X 76 [.ref 23] h _
  refine sf_76_23 X h  trivial _ (fun r1 g2 p3 => ?_)
  have f4 : ∀ k, (k < 1 ∨ 31 < k) → g2 k = h k := fun k hk => (p3.2.1 k (by omega)).trans (rfl)
  have k5 : mq 1 g2 := by unfold mq; rw [p3.2.1 1 (by omega)]; exact hm1
  have k6 : mq 8 g2 := by unfold mq; rw [p3.2.1 8 (by omega)]; exact hm8
  have k7 : mq 15 g2 := by unfold mq; rw [p3.2.1 15 (by omega)]; exact hm15
  have k8 : sq g2 := by unfold sq; rw [p3.2.1 37 (by omega)]; exact hmsq
  have e39_g2 : (g2 39 9).toInt = (h 39 9).toInt := congrArg (fun f : Nat → Int32 => (f 9).toInt) (p3.2.1 39 (by omega))
  have e39_g2 : (g2 39 14).toInt = (h 39 14).toInt := congrArg (fun f : Nat → Int32 => (f 14).toInt) (p3.2.1 39 (by omega))
  show (¬ r1 = 0 → (qm_PW X 23 [.ref 1, .ref 25] (qm_row g2 23 (upd (g2 23) 2 0)) _)) ∧ (r1 = 0 → (Q (some (.int ((-10 : Int32) - (g2 23 5)))) (qm_row g2 23 (upd (g2 23) 2 0))))
  refine ⟨fun c9 => ?_, fun c10 => ?_⟩
  · refine sf_23_1_25 X (qm_row g2 23 (upd (g2 23) 2 0))  (by exact p3.1) _ (fun g11 p12 => ?_)
    have f13 : ∀ k, (k < 1 ∨ 31 < k) → g11 k = h k := fun k hk => (p12.2 k (by omega)).trans (by simp only [qm_row]; rw [if_neg (by omega)]; exact f4 k hk)
    have k14 : mq 8 g11 := by unfold mq; rw [p12.2 8 (by omega)]; exact k6
    have k15 : mq 15 g11 := by unfold mq; rw [p12.2 15 (by omega)]; exact k7
    have k16 : sq g11 := by unfold sq; rw [p12.2 37 (by omega)]; exact k8
    have k17 : mq 25 g11 := by unfold mq; rw [p12.2 25 (by omega)]; exact p3.1
    have e39_g11 : (g11 39 9).toInt = (g2 39 9).toInt := congrArg (fun f : Nat → Int32 => (f 9).toInt) (p12.2 39 (by omega))
    have e39_g11 : (g11 39 14).toInt = (g2 39 14).toInt := congrArg (fun f : Nat → Int32 => (f 14).toInt) (p12.2 39 (by omega))
    have e23_g11 : (g11 23 2).toInt = 0 := congrArg (fun f : Nat → Int32 => (f 2).toInt) (p12.2 23 (by omega))
    show (0 ≤ (0 : Int) ∧ (0 : Int) < 2) ∧ ((0 ≤ (1 : Int) ∧ (1 : Int) < 2) ∧ (Q (some (.int (g11 23 3))) (qm_row (qm_row g11 22 (upd (g11 22) 0 (vp_nar .boolean 0))) 22 (upd (upd (g11 22) 0 (vp_nar .boolean 0)) 1 (vp_nar .boolean 0)))))
    refine ⟨by decide, ?_⟩
    refine ⟨by decide, ?_⟩
    exact hq (g11 23 3) (qm_row (qm_row g11 22 (upd (g11 22) 0 (vp_nar .boolean 0))) 22 (upd (upd (g11 22) 0 (vp_nar .boolean 0)) 1 (vp_nar .boolean 0))) ⟨(by exact p12.1), (by exact k14), (by exact k15), (by exact k16), (fun k hk => by simp only [qm_row]; rw [if_neg (by omega)]; rw [if_neg (by omega)]; exact f13 k hk), (by show (g11 23 2).toInt = 0; omega)⟩
  · exact hq ((-10 : Int32) - (g2 23 5)) (qm_row g2 23 (upd (g2 23) 2 0)) ⟨(by exact k5), (by exact k6), (by exact k7), (by exact k8), (fun k hk => by simp only [qm_row]; rw [if_neg (by omega)]; exact f4 k hk), (by have : (0 : Int32).toInt = 0 := rfl; show (0 : Int32).toInt = 0; omega)⟩
-- ThreadBank.fault()I
set_option maxRecDepth 100000 in
set_option maxHeartbeats 4000000 in
theorem sf_93_0 (X : qm_X) (h : qm_H) (hp : True) (Q : qm_Q) (hq : ∀ r : Int32, (True) → Q (some (.int r)) h) : qm_PW X 93 [.ref 0] h Q := by
  refine qm_seg_ok (C := qc_93) (rt := some .int) rfl rfl (cuts := []) 400 _ _ _ _ ?_
  show Q (some (.int (h 23 4))) h
  exact hq (h 23 4) trivial
-- ThreadBank.rule(I)I
set_option maxRecDepth 100000 in
set_option maxHeartbeats 4000000 in
theorem sf_94_0 (X : qm_X) (h : qm_H) (a : Int32) (hp : mq 1 h) (Q : qm_Q) (hq : ∀ r : Int32, (True) → Q (some (.int r)) h) : qm_PW X 94 [.ref 0, .int a] h Q := by
  have hm1 : mq 1 h := hp
  have ⟨⟨_, _⟩, ⟨_, _⟩, _, _⟩ := hm1
  refine qm_seg_ok (C := qc_94) (rt := some .int) rfl rfl (cuts := []) 400 _ _ _ _ ?_
  show ((a = 0 → (Q (some (.int (h 1 6))) h)) ∧ (¬ a = 0 → ((a = 1 → (Q (some (.int (h 1 7))) h)) ∧ (¬ a = 1 → ((a = 2 → (Q (some (.int (h 1 8))) h)) ∧ (¬ a = 2 → ((a = 3 → (qm_PW X 39 [.ref 1] h _)) ∧ (¬ a = 3 → ((a = 4 → (qm_PW X 43 [.ref 1] h _)) ∧ (¬ a = 4 → (Q (some (.int (-1 : Int32))) h)))))))))))
  refine ⟨fun c1 => ?_, fun c2 => ?_⟩
  · exact hq (h 1 6) trivial
  · refine ⟨fun c3 => ?_, fun c4 => ?_⟩
    · exact hq (h 1 7) trivial
    · refine ⟨fun c5 => ?_, fun c6 => ?_⟩
      · exact hq (h 1 8) trivial
      · refine ⟨fun c7 => ?_, fun c8 => ?_⟩
        · refine sf_39_1 X h  hm1 _ (fun r9 p10 => ?_)
          show Q (some (.int r9)) h
          exact hq r9 trivial
        · refine ⟨fun c11 => ?_, fun c12 => ?_⟩
          · refine sf_43_1 X h  hm1 _ (fun r13 p14 => ?_)
            show Q (some (.int r13)) h
            exact hq r13 trivial
          · exact hq (-1 : Int32) trivial
-- ThreadBank.clerk(II)I
set_option maxRecDepth 100000 in
set_option maxHeartbeats 4000000 in
theorem sf_95_0 (X : qm_X) (h : qm_H) (a : Int32) (b : Int32) (hp : mq 1 h) (Q : qm_Q) (hq : ∀ r : Int32, (True) → Q (some (.int r)) h) : qm_PW X 95 [.ref 0, .int a, .int b] h Q := by
  have hm1 : mq 1 h := hp
  have ⟨⟨_, _⟩, ⟨_, _⟩, _, _⟩ := hm1
  refine qm_seg_ok (C := qc_95) (rt := some .int) rfl rfl (cuts := []) 400 _ _ _ _ ?_
  show qm_PW X 28 [.ref 1, .int a] h _
  refine sf_28_1 X h a trivial _ (fun r1 p2 => ?_)
  show (¬ r1 = 0 → (((b = 0 → (qm_PW X 32 [.ref 1, .int a] h _)) ∧ (¬ b = 0 → ((b = 1 → (qm_PW X 36 [.ref 1, .int a] h _)) ∧ (¬ b = 1 → ((b = 2 → (qm_PW X 38 [.ref 1, .int a] h _)) ∧ (¬ b = 2 → ((b = 3 → (qm_PW X 55 [.ref 1, .int a] h _)) ∧ (¬ b = 3 → (Q (some (.int (-1 : Int32))) h))))))))))) ∧ (r1 = 0 → (Q (some (.int (-1 : Int32))) h))
  refine ⟨fun c3 => ?_, fun c4 => ?_⟩
  · have := p2.2 c3
    refine ⟨fun c5 => ?_, fun c6 => ?_⟩
    · refine sf_32_1 X h a hm1 _ (fun r7 p8 => ?_)
      show Q (some (.int r7)) h
      exact hq r7 trivial
    · refine ⟨fun c9 => ?_, fun c10 => ?_⟩
      · refine sf_36_1 X h a hm1 _ (fun r11 p12 => ?_)
        show Q (some (.int r11)) h
        exact hq r11 trivial
      · refine ⟨fun c13 => ?_, fun c14 => ?_⟩
        · refine sf_38_1 X h a hm1 _ (fun r15 p16 => ?_)
          show Q (some (.int r15)) h
          exact hq r15 trivial
        · refine ⟨fun c17 => ?_, fun c18 => ?_⟩
          · refine sf_55_1 X h a hm1 _ (fun r19 p20 => ?_)
            show Q (some (.int (1000 + r19))) h
            exact hq (1000 + r19) trivial
          · exact hq (-1 : Int32) trivial
  · exact hq (-1 : Int32) trivial
-- ThreadBank.finger(II)I
set_option maxRecDepth 100000 in
set_option maxHeartbeats 4000000 in
theorem sf_96_0 (X : qm_X) (h : qm_H) (a : Int32) (b : Int32) (hp : mq 1 h) (Q : qm_Q) (hq : ∀ r : Int32, (True) → Q (some (.int r)) h) : qm_PW X 96 [.ref 0, .int a, .int b] h Q := by
  have hm1 : mq 1 h := hp
  have ⟨⟨_, _⟩, ⟨_, _⟩, _, _⟩ := hm1
  refine qm_seg_ok (C := qc_96) (rt := some .int) rfl rfl (cuts := []) 400 _ _ _ _ ?_
  show qm_PW X 30 [.ref 1, .int a] h _
  refine sf_30_1 X h a trivial _ (fun r1 p2 => ?_)
  show (r1 = 0 → (Q (some (.int (-1 : Int32))) h)) ∧ (¬ r1 = 0 → ((b.toInt < 0 → (Q (some (.int (-1 : Int32))) h)) ∧ (0 ≤ b.toInt → ((b.toInt ≤ 1 → ((¬ b = 0 → (qm_PW X 35 [.ref 1, .int a] h _)) ∧ (b = 0 → (qm_PW X 37 [.ref 1, .int a] h _)))) ∧ (1 < b.toInt → (Q (some (.int (-1 : Int32))) h))))))
  refine ⟨fun c3 => ?_, fun c4 => ?_⟩
  · exact hq (-1 : Int32) trivial
  · refine ⟨fun c5 => ?_, fun c6 => ?_⟩
    · exact hq (-1 : Int32) trivial
    · refine ⟨fun c7 => ?_, fun c8 => ?_⟩
      · refine ⟨fun c9 => ?_, fun c10 => ?_⟩
        · refine sf_35_1 X h a hm1 _ (fun r11 p12 => ?_)
          show Q (some (.int r11)) h
          exact hq r11 trivial
        · refine sf_37_1 X h a hm1 _ (fun r13 p14 => ?_)
          show Q (some (.int r13)) h
          exact hq r13 trivial
      · exact hq (-1 : Int32) trivial
-- ThreadBank.thread(II)I
set_option maxRecDepth 100000 in
set_option maxHeartbeats 4000000 in
theorem sf_97_0 (X : qm_X) (h : qm_H) (a : Int32) (b : Int32) (hp : mq 1 h) (Q : qm_Q) (hq : ∀ r : Int32, (True) → Q (some (.int r)) h) : qm_PW X 97 [.ref 0, .int a, .int b] h Q := by
  have hm1 : mq 1 h := hp
  have ⟨⟨_, _⟩, ⟨_, _⟩, _, _⟩ := hm1
  refine qm_seg_ok (C := qc_97) (rt := some .int) rfl rfl (cuts := []) 400 _ _ _ _ ?_
  show qm_PW X 29 [.ref 1, .int a] h _
  refine sf_29_1 X h a trivial _ (fun r1 p2 => ?_)
  show (¬ r1 = 0 → (((b = 0 → ((0 ≤ a.toInt ∧ a.toInt < 10) ∧ (Q (some (.int (h 3 a.toInt.toNat))) h))) ∧ (¬ b = 0 → ((b = 1 → ((0 ≤ a.toInt ∧ a.toInt < 10) ∧ (Q (some (.int (h 4 a.toInt.toNat))) h))) ∧ (¬ b = 1 → ((b = 2 → ((0 ≤ a.toInt ∧ a.toInt < 10) ∧ (Q (some (.int (h 5 a.toInt.toNat))) h))) ∧ (¬ b = 2 → ((b = 3 → (qm_PW X 51 [.ref 1, .int a] h _)) ∧ (¬ b = 3 → (Q (some (.int (-1 : Int32))) h))))))))))) ∧ (r1 = 0 → (Q (some (.int (-1 : Int32))) h))
  refine ⟨fun c3 => ?_, fun c4 => ?_⟩
  · have := p2.2 c3
    refine ⟨fun c5 => ?_, fun c6 => ?_⟩
    · refine ⟨(by omega), ?_⟩
      exact hq (h 3 a.toInt.toNat) trivial
    · refine ⟨fun c7 => ?_, fun c8 => ?_⟩
      · refine ⟨(by omega), ?_⟩
        exact hq (h 4 a.toInt.toNat) trivial
      · refine ⟨fun c9 => ?_, fun c10 => ?_⟩
        · refine ⟨(by omega), ?_⟩
          exact hq (h 5 a.toInt.toNat) trivial
        · refine ⟨fun c11 => ?_, fun c12 => ?_⟩
          · refine sf_51_1 X h a hm1 _ (fun r13 p14 => ?_)
            show (r13 = 0 → (Q (some (.int 0)) h)) ∧ (¬ r13 = 0 → (Q (some (.int 1)) h))
            refine ⟨fun c15 => ?_, fun c16 => ?_⟩
            · exact hq 0 trivial
            · exact hq 1 trivial
          · exact hq (-1 : Int32) trivial
  · exact hq (-1 : Int32) trivial
-- ThreadBank.tie(III)I
set_option maxRecDepth 100000 in
set_option maxHeartbeats 4000000 in
theorem sf_98_0 (X : qm_X) (h : qm_H) (a : Int32) (b : Int32) (c : Int32) (hp : mq 1 h ∧ mq 8 h ∧ mq 15 h ∧ sq h) (Q : qm_Q) (hq : ∀ r : Int32, ∀ h' : qm_H, (mq 1 h' ∧ mq 8 h' ∧ mq 15 h' ∧ sq h' ∧ (∀ k, (k < 1 ∨ 7 < k) → h' k = h k)) → Q (some (.int r)) h') : qm_PW X 98 [.ref 0, .int a, .int b, .int c] h Q := by
  have hm1 : mq 1 h := hp.1
  have ⟨⟨_, _⟩, ⟨_, _⟩, _, _⟩ := hm1
  have hm8 : mq 8 h := hp.2.1
  have ⟨⟨_, _⟩, ⟨_, _⟩, _, _⟩ := hm8
  have hm15 : mq 15 h := hp.2.2.1
  have ⟨⟨_, _⟩, ⟨_, _⟩, _, _⟩ := hm15
  have hmsq : sq h := hp.2.2.2
  refine qm_seg_ok (C := qc_98) (rt := some .int) rfl rfl (cuts := []) 400 _ _ _ _ ?_
  show qm_PW X 47 [.ref 1, .int a, .int b, .int c] h _
  refine sf_47_1 X h a b c hm1 _ (fun r1 g2 p3 => ?_)
  have f4 : ∀ k, (k < 1 ∨ 7 < k) → g2 k = h k := fun k hk => (p3.2 k (by omega)).trans (rfl)
  have k5 : mq 8 g2 := by unfold mq; rw [p3.2 8 (by omega)]; exact hm8
  have k6 : mq 15 g2 := by unfold mq; rw [p3.2 15 (by omega)]; exact hm15
  have k7 : sq g2 := by unfold sq; rw [p3.2 37 (by omega)]; exact hmsq
  show Q (some (.int r1)) g2
  exact hq r1 g2 ⟨p3.1, k5, k6, k7, (fun k hk => f4 k hk)⟩
-- ThreadBank.cut(I)I
set_option maxRecDepth 100000 in
set_option maxHeartbeats 4000000 in
theorem sf_99_0 (X : qm_X) (h : qm_H) (a : Int32) (hp : mq 1 h ∧ mq 8 h ∧ mq 15 h ∧ sq h) (Q : qm_Q) (hq : ∀ r : Int32, ∀ h' : qm_H, (mq 1 h' ∧ mq 8 h' ∧ mq 15 h' ∧ sq h' ∧ (∀ k, (k < 1 ∨ 7 < k) → h' k = h k)) → Q (some (.int r)) h') : qm_PW X 99 [.ref 0, .int a] h Q := by
  have hm1 : mq 1 h := hp.1
  have ⟨⟨_, _⟩, ⟨_, _⟩, _, _⟩ := hm1
  have hm8 : mq 8 h := hp.2.1
  have ⟨⟨_, _⟩, ⟨_, _⟩, _, _⟩ := hm8
  have hm15 : mq 15 h := hp.2.2.1
  have ⟨⟨_, _⟩, ⟨_, _⟩, _, _⟩ := hm15
  have hmsq : sq h := hp.2.2.2
  refine qm_seg_ok (C := qc_99) (rt := some .int) rfl rfl (cuts := []) 400 _ _ _ _ ?_
  show qm_PW X 29 [.ref 1, .int a] h _
  refine sf_29_1 X h a trivial _ (fun r1 p2 => ?_)
  show (¬ r1 = 0 → (qm_PW X 48 [.ref 1, .int a] h _)) ∧ (r1 = 0 → (Q (some (.int (-1 : Int32))) h))
  refine ⟨fun c3 => ?_, fun c4 => ?_⟩
  · have := p2.2 c3
    refine sf_48_1 X h a hm1 _ (fun g5 p6 => ?_)
    have f7 : ∀ k, (k < 1 ∨ 7 < k) → g5 k = h k := fun k hk => (p6.2 k (by omega)).trans (rfl)
    have k8 : mq 8 g5 := by unfold mq; rw [p6.2 8 (by omega)]; exact hm8
    have k9 : mq 15 g5 := by unfold mq; rw [p6.2 15 (by omega)]; exact hm15
    have k10 : sq g5 := by unfold sq; rw [p6.2 37 (by omega)]; exact hmsq
    show Q (some (.int (g5 1 7))) g5
    exact hq (g5 1 7) g5 ⟨p6.1, k8, k9, k10, (fun k hk => f7 k hk)⟩
  · exact hq (-1 : Int32) h ⟨hm1, hm8, hm15, hmsq, (fun k hk => rfl)⟩
-- ThreadBank.move(II)I
set_option maxRecDepth 100000 in
set_option maxHeartbeats 4000000 in
theorem sf_100_0 (X : qm_X) (h : qm_H) (a : Int32) (b : Int32) (hp : mq 1 h ∧ mq 8 h ∧ mq 15 h ∧ sq h) (Q : qm_Q) (hq : ∀ r : Int32, ∀ h' : qm_H, (mq 1 h' ∧ mq 8 h' ∧ mq 15 h' ∧ sq h' ∧ (∀ k, (k < 1 ∨ 7 < k) → h' k = h k)) → Q (some (.int r)) h') : qm_PW X 100 [.ref 0, .int a, .int b] h Q := by
  have hm1 : mq 1 h := hp.1
  have ⟨⟨_, _⟩, ⟨_, _⟩, _, _⟩ := hm1
  have hm8 : mq 8 h := hp.2.1
  have ⟨⟨_, _⟩, ⟨_, _⟩, _, _⟩ := hm8
  have hm15 : mq 15 h := hp.2.2.1
  have ⟨⟨_, _⟩, ⟨_, _⟩, _, _⟩ := hm15
  have hmsq : sq h := hp.2.2.2
  refine qm_seg_ok (C := qc_100) (rt := some .int) rfl rfl (cuts := []) 400 _ _ _ _ ?_
  show qm_PW X 29 [.ref 1, .int a] h _
  refine sf_29_1 X h a trivial _ (fun r1 p2 => ?_)
  show (r1 = 0 → (Q (some (.int (-1 : Int32))) h)) ∧ (¬ r1 = 0 → (qm_PW X 30 [.ref 1, .int b] h _))
  refine ⟨fun c3 => ?_, fun c4 => ?_⟩
  · exact hq (-1 : Int32) h ⟨hm1, hm8, hm15, hmsq, (fun k hk => rfl)⟩
  · have := p2.2 c4
    refine sf_30_1 X h b trivial _ (fun r5 p6 => ?_)
    show (¬ r5 = 0 → ((0 ≤ a.toInt ∧ a.toInt < 10) ∧ ((¬ (h 3 a.toInt.toNat) = b → (qm_PW X 40 [.ref 1, .int b] h _)) ∧ ((h 3 a.toInt.toNat) = b → (Q (some (.int (-2 : Int32))) h))))) ∧ (r5 = 0 → (Q (some (.int (-1 : Int32))) h))
    refine ⟨fun c7 => ?_, fun c8 => ?_⟩
    · refine ⟨(by omega), ?_⟩
      refine ⟨fun c9 => ?_, fun c10 => ?_⟩
      · refine sf_40_1 X h b hm1 _ (fun r11 p12 => ?_)
        show (0 < r11.toInt → ((0 ≤ a.toInt ∧ a.toInt < 10) ∧ (Q (some (.int (h 3 a.toInt.toNat))) (qm_row h 3 (upd (h 3) a.toInt.toNat b))))) ∧ (r11.toInt ≤ 0 → (Q (some (.int (-3 : Int32))) h))
        refine ⟨fun c13 => ?_, fun c14 => ?_⟩
        · refine ⟨(by omega), ?_⟩
          exact hq (h 3 a.toInt.toNat) (qm_row h 3 (upd (h 3) a.toInt.toNat b)) ⟨(by exact hm1), (by exact hm8), (by exact hm15), (by exact hmsq), (fun k hk => by simp only [qm_row]; rw [if_neg (by omega)])⟩
        · exact hq (-3 : Int32) h ⟨hm1, hm8, hm15, hmsq, (fun k hk => rfl)⟩
      · exact hq (-2 : Int32) h ⟨hm1, hm8, hm15, hmsq, (fun k hk => rfl)⟩
    · exact hq (-1 : Int32) h ⟨hm1, hm8, hm15, hmsq, (fun k hk => rfl)⟩
-- ThreadBank.lose(I)I
set_option maxRecDepth 100000 in
set_option maxHeartbeats 4000000 in
theorem sf_101_0_c (X : qm_X) (h : qm_H) (a : Int32) (hp : mq 1 h ∧ mq 8 h ∧ mq 15 h ∧ sq h) (Q : qm_Q) (hq : ∀ r : Int32, ∀ h' : qm_H, (mq 1 h' ∧ mq 8 h' ∧ mq 15 h' ∧ sq h' ∧ (∀ k, (k < 1 ∨ 7 < k) → h' k = h k)) → Q (some (.int r)) h') : ∀ n : Nat, (∀ (l2 : Int32) (l3 : Int32) (g : qm_H), ((-1 ≤ l3.toInt ∧ l3.toInt ≤ 9) ∧ mq 1 g ∧ mq 8 g ∧ mq 15 g ∧ sq g ∧ ∀ k, (k < 1 ∨ 7 < k) → g k = h k) → (l3.toInt + 1).toNat < n → qm_PA X 101 25 [(0, .ref 0), (1, .int a), (2, .int l2), (3, .int l3)] [] g Q) := by
  have hm1 : mq 1 h := hp.1
  have ⟨⟨_, _⟩, ⟨_, _⟩, _, _⟩ := hm1
  have hm8 : mq 8 h := hp.2.1
  have ⟨⟨_, _⟩, ⟨_, _⟩, _, _⟩ := hm8
  have hm15 : mq 15 h := hp.2.2.1
  have ⟨⟨_, _⟩, ⟨_, _⟩, _, _⟩ := hm15
  have hmsq : sq h := hp.2.2.2
  intro n
  induction n with
  | zero => exact fun _ _ _ _ h0 => absurd h0 (Nat.not_lt_zero _)
  | succ n ih =>
    intro l2 l3 g hi hr
    obtain ⟨hi0, hg1, hg8, hg15, hgsq, hgf⟩ := hi
    have ⟨⟨_, _⟩, ⟨_, _⟩, _, _⟩ := hg1
    have ⟨⟨_, _⟩, ⟨_, _⟩, _, _⟩ := hg8
    have ⟨⟨_, _⟩, ⟨_, _⟩, _, _⟩ := hg15
    refine qm_seg_ok (C := qc_101) (rt := some .int) rfl rfl (cuts := [(25, [0, 1, 2, 3])]) 400 _ _ _ _ ?_
    show (l3.toInt < 0 → (Q (some (.int (l2 - (g 1 7)))) g)) ∧ (0 ≤ l3.toInt → (qm_PW X 33 [.ref 1, .int l3] g _))
    refine ⟨fun c1 => ?_, fun c2 => ?_⟩
    · exact hq (l2 - (g 1 7)) g ⟨hg1, hg8, hg15, hgsq, (fun k hk => hgf k hk)⟩
    · refine sf_33_1 X g l3 hg1 _ (fun r3 p4 => ?_)
      show (¬ r3 = a → (qm_PA X 101 25 [(0, .ref 0), (1, .int a), (2, .int l2), (3, .int (l3 + (-1 : Int32)))] [] g Q)) ∧ (r3 = a → (qm_PW X 48 [.ref 1, .int l3] g _))
      refine ⟨fun c5 => ?_, fun c6 => ?_⟩
      · have hz7 := ti_addK l3 (-1 : Int32) (-1) ti_n1 (by have := ti_rng l3; omega)
        revert hz7
        generalize l3 + (-1 : Int32) = z7
        intro hz7
        exact ih l2 z7 g ⟨(by show -1 ≤ z7.toInt ∧ z7.toInt ≤ 9; omega), hg1, hg8, hg15, hgsq, (fun k hk => hgf k hk)⟩ (by show (z7.toInt + 1).toNat < n; omega)
      · refine sf_48_1 X g l3 hg1 _ (fun g8 p9 => ?_)
        have f10 : ∀ k, (k < 1 ∨ 7 < k) → g8 k = h k := fun k hk => (p9.2 k (by omega)).trans (hgf k hk)
        have k11 : mq 8 g8 := by unfold mq; rw [p9.2 8 (by omega)]; exact hg8
        have k12 : mq 15 g8 := by unfold mq; rw [p9.2 15 (by omega)]; exact hg15
        have k13 : sq g8 := by unfold sq; rw [p9.2 37 (by omega)]; exact hgsq
        show qm_PA X 101 25 [(0, .ref 0), (1, .int a), (2, .int l2), (3, .int (l3 + (-1 : Int32)))] [] g8 Q
        have hz14 := ti_addK l3 (-1 : Int32) (-1) ti_n1 (by have := ti_rng l3; omega)
        revert hz14
        generalize l3 + (-1 : Int32) = z14
        intro hz14
        exact ih l2 z14 g8 ⟨(by show -1 ≤ z14.toInt ∧ z14.toInt ≤ 9; omega), p9.1, k11, k12, k13, (fun k hk => f10 k hk)⟩ (by show (z14.toInt + 1).toNat < n; omega)
set_option maxRecDepth 100000 in
set_option maxHeartbeats 4000000 in
theorem sf_101_0 (X : qm_X) (h : qm_H) (a : Int32) (hp : mq 1 h ∧ mq 8 h ∧ mq 15 h ∧ sq h) (Q : qm_Q) (hq : ∀ r : Int32, ∀ h' : qm_H, (mq 1 h' ∧ mq 8 h' ∧ mq 15 h' ∧ sq h' ∧ (∀ k, (k < 1 ∨ 7 < k) → h' k = h k)) → Q (some (.int r)) h') : qm_PW X 101 [.ref 0, .int a] h Q := by
  have hm1 : mq 1 h := hp.1
  have ⟨⟨_, _⟩, ⟨_, _⟩, _, _⟩ := hm1
  have hm8 : mq 8 h := hp.2.1
  have ⟨⟨_, _⟩, ⟨_, _⟩, _, _⟩ := hm8
  have hm15 : mq 15 h := hp.2.2.1
  have ⟨⟨_, _⟩, ⟨_, _⟩, _, _⟩ := hm15
  have hmsq : sq h := hp.2.2.2
  refine qm_seg_ok (C := qc_101) (rt := some .int) rfl rfl (cuts := [(25, [0, 1, 2, 3])]) 400 _ _ _ _ ?_
  show qm_PW X 28 [.ref 1, .int a] h _
  refine sf_28_1 X h a trivial _ (fun r1 p2 => ?_)
  show (¬ r1 = 0 → (qm_PA X 101 25 [(0, .ref 0), (1, .int a), (2, .int (h 1 7)), (3, .int ((h 1 7) - 1))] [] h Q)) ∧ (r1 = 0 → (Q (some (.int (-1 : Int32))) h))
  refine ⟨fun c3 => ?_, fun c4 => ?_⟩
  · have := p2.2 c3
    exact (sf_101_0_c X h a hp Q hq _) (h 1 7) ((h 1 7) - 1) h ⟨(by have := ti_subK (h 1 7) (1 : Int32) 1 rfl; show -1 ≤ ((h 1 7) - 1).toInt ∧ ((h 1 7) - 1).toInt ≤ 9; omega), hm1, hm8, hm15, hmsq, (fun k hk => rfl)⟩ (Nat.lt_succ_self _)
  · exact hq (-1 : Int32) h ⟨hm1, hm8, hm15, hmsq, (fun k hk => rfl)⟩
-- ThreadBank.teach(II)I
set_option maxRecDepth 100000 in
set_option maxHeartbeats 4000000 in
theorem sf_102_0_c (X : qm_X) (h : qm_H) (a : Int32) (b : Int32) (hp : mq 1 h ∧ mq 8 h ∧ mq 15 h ∧ sq h) (Q : qm_Q) (hq : ∀ r : Int32, ∀ h' : qm_H, (mq 1 h' ∧ mq 8 h' ∧ mq 15 h' ∧ sq h' ∧ (∀ k, (k < 1 ∨ 7 < k) → h' k = h k)) → Q (some (.int r)) h') : ∀ n : Nat, (∀ (l3 : Int32), (0 ≤ l3.toInt ∧ l3.toInt ≤ 5 ∧ 0 ≤ a.toInt ∧ a.toInt < 4) → (5 - l3.toInt).toNat < n → qm_PA X 102 24 [(0, .ref 0), (1, .int a), (2, .int b), (3, .int l3)] [] h Q) := by
  have hm1 : mq 1 h := hp.1
  have ⟨⟨_, _⟩, ⟨_, _⟩, _, _⟩ := hm1
  have hm8 : mq 8 h := hp.2.1
  have ⟨⟨_, _⟩, ⟨_, _⟩, _, _⟩ := hm8
  have hm15 : mq 15 h := hp.2.2.1
  have ⟨⟨_, _⟩, ⟨_, _⟩, _, _⟩ := hm15
  have hmsq : sq h := hp.2.2.2
  intro n
  induction n with
  | zero => exact fun _ _ h0 => absurd h0 (Nat.not_lt_zero _)
  | succ n ih =>
    intro l3 hi hr
    have ti_l3 := ti_rng l3
    refine qm_seg_ok (C := qc_102) (rt := some .int) rfl rfl (cuts := [(24, [0, 1, 2, 3])]) 400 _ _ _ _ ?_
    show (5 ≤ l3.toInt → (qm_PW X 32 [.ref 1, .int a] h _)) ∧ (l3.toInt < 5 → (qm_PW X 35 [.ref 1, .int ((10 * a) + l3)] h _))
    refine ⟨fun c1 => ?_, fun c2 => ?_⟩
    · refine sf_32_1 X h a hm1 _ (fun r3 p4 => ?_)
      show (0 ≤ a.toInt ∧ a.toInt < 4) ∧ (Q (some (.int r3)) (qm_row h 2 (upd (h 2) a.toInt.toNat b)))
      refine ⟨(by omega), ?_⟩
      exact hq r3 (qm_row h 2 (upd (h 2) a.toInt.toNat b)) ⟨(by exact hm1), (by exact hm8), (by exact hm15), (by exact hmsq), (fun k hk => by simp only [qm_row]; rw [if_neg (by omega)])⟩
    · refine sf_35_1 X h ((10 * a) + l3) hm1 _ (fun r5 p6 => ?_)
      show qm_PW X 27 [.int b, .int l3] h _
      refine sf_27 X h b l3 trivial _ (fun r7 p8 => ?_)
      show (r5.toInt ≤ r7.toInt → (qm_PA X 102 24 [(0, .ref 0), (1, .int a), (2, .int b), (3, .int (l3 + 1))] [] h Q)) ∧ (r7.toInt < r5.toInt → (Q (some (.int (-3 : Int32))) h))
      refine ⟨fun c9 => ?_, fun c10 => ?_⟩
      · exact ih (l3 + 1) (by have := ti_addK l3 (1 : Int32) 1 rfl; omega) (by have := ti_addK l3 (1 : Int32) 1 rfl; omega)
      · exact hq (-3 : Int32) h ⟨hm1, hm8, hm15, hmsq, (fun k hk => rfl)⟩
set_option maxRecDepth 100000 in
set_option maxHeartbeats 4000000 in
theorem sf_102_0 (X : qm_X) (h : qm_H) (a : Int32) (b : Int32) (hp : mq 1 h ∧ mq 8 h ∧ mq 15 h ∧ sq h) (Q : qm_Q) (hq : ∀ r : Int32, ∀ h' : qm_H, (mq 1 h' ∧ mq 8 h' ∧ mq 15 h' ∧ sq h' ∧ (∀ k, (k < 1 ∨ 7 < k) → h' k = h k)) → Q (some (.int r)) h') : qm_PW X 102 [.ref 0, .int a, .int b] h Q := by
  have hm1 : mq 1 h := hp.1
  have ⟨⟨_, _⟩, ⟨_, _⟩, _, _⟩ := hm1
  have hm8 : mq 8 h := hp.2.1
  have ⟨⟨_, _⟩, ⟨_, _⟩, _, _⟩ := hm8
  have hm15 : mq 15 h := hp.2.2.1
  have ⟨⟨_, _⟩, ⟨_, _⟩, _, _⟩ := hm15
  have hmsq : sq h := hp.2.2.2
  refine qm_seg_ok (C := qc_102) (rt := some .int) rfl rfl (cuts := [(24, [0, 1, 2, 3])]) 400 _ _ _ _ ?_
  show qm_PW X 28 [.ref 1, .int a] h _
  refine sf_28_1 X h a trivial _ (fun r1 p2 => ?_)
  show (r1 = 0 → (Q (some (.int (-1 : Int32))) h)) ∧ (¬ r1 = 0 → ((b.toInt < 0 → (Q (some (.int (-1 : Int32))) h)) ∧ (0 ≤ b.toInt → ((b.toInt < 4 → (qm_PA X 102 24 [(0, .ref 0), (1, .int a), (2, .int b), (3, .int 0)] [] h Q)) ∧ (4 ≤ b.toInt → (Q (some (.int (-1 : Int32))) h))))))
  refine ⟨fun c3 => ?_, fun c4 => ?_⟩
  · exact hq (-1 : Int32) h ⟨hm1, hm8, hm15, hmsq, (fun k hk => rfl)⟩
  · have := p2.2 c4
    refine ⟨fun c5 => ?_, fun c6 => ?_⟩
    · exact hq (-1 : Int32) h ⟨hm1, hm8, hm15, hmsq, (fun k hk => rfl)⟩
    · refine ⟨fun c7 => ?_, fun c8 => ?_⟩
      · exact (sf_102_0_c X h a b hp Q hq _) (0 : Int32) (by have : (0 : Int32).toInt = 0 := rfl; omega) (Nat.lt_succ_self _)
      · exact hq (-1 : Int32) h ⟨hm1, hm8, hm15, hmsq, (fun k hk => rfl)⟩
-- ThreadBank.day(I)I
set_option maxRecDepth 100000 in
set_option maxHeartbeats 4000000 in
theorem sf_103_0 (X : qm_X) (h : qm_H) (a : Int32) (hp : mq 1 h ∧ mq 8 h ∧ mq 15 h ∧ sq h) (Q : qm_Q) (hq : ∀ r : Int32, ∀ h' : qm_H, (mq 1 h' ∧ mq 8 h' ∧ mq 15 h' ∧ sq h' ∧ (∀ k, (k < 1 ∨ 7 < k) → h' k = h k)) → Q (some (.int r)) h') : qm_PW X 103 [.ref 0, .int a] h Q := by
  have hm1 : mq 1 h := hp.1
  have ⟨⟨_, _⟩, ⟨_, _⟩, _, _⟩ := hm1
  have hm8 : mq 8 h := hp.2.1
  have ⟨⟨_, _⟩, ⟨_, _⟩, _, _⟩ := hm8
  have hm15 : mq 15 h := hp.2.2.1
  have ⟨⟨_, _⟩, ⟨_, _⟩, _, _⟩ := hm15
  have hmsq : sq h := hp.2.2.2
  refine qm_seg_ok (C := qc_103) (rt := some .int) rfl rfl (cuts := []) 400 _ _ _ _ ?_
  show (a.toInt < 0 → (Q (some (.int (-1 : Int32))) h)) ∧ (0 ≤ a.toInt → ((a.toInt ≤ 9 → (Q (some (.int (h 1 8))) (qm_row h 1 (upd (h 1) 8 a)))) ∧ (9 < a.toInt → (Q (some (.int (-1 : Int32))) h))))
  refine ⟨fun c1 => ?_, fun c2 => ?_⟩
  · exact hq (-1 : Int32) h ⟨hm1, hm8, hm15, hmsq, (fun k hk => rfl)⟩
  · refine ⟨fun c3 => ?_, fun c4 => ?_⟩
    · exact hq (h 1 8) (qm_row h 1 (upd (h 1) 8 a)) ⟨(by have ⟨⟨_, _⟩, ⟨_, _⟩, _, _⟩ := hm1; have ⟨⟨_, _⟩, ⟨_, _⟩, _, _⟩ := hm8; have ⟨⟨_, _⟩, ⟨_, _⟩, _, _⟩ := hm15; show (0 ≤ (h 1 6).toInt ∧ (h 1 6).toInt ≤ 4) ∧ (0 ≤ (h 1 7).toInt ∧ (h 1 7).toInt ≤ 10) ∧ (0 ≤ (h 1 9).toInt ∧ (h 1 9).toInt ≤ 6); omega), (by exact hm8), (by exact hm15), (by exact hmsq), (fun k hk => by simp only [qm_row]; rw [if_neg (by omega)])⟩
    · exact hq (-1 : Int32) h ⟨hm1, hm8, hm15, hmsq, (fun k hk => rfl)⟩
