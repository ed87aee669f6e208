-- ThreadBankModel.in(JJJ)Z
set_option maxRecDepth 100000 in
set_option maxHeartbeats 4000000 in
theorem sf_141 (X : qm_X) (h : qm_H) (a : Int64) (b : Int64) (c : Int64) (hp : True) (Q : qm_Q) (hq : ∀ r : Int32, ((r = 0 ∨ r = 1) ∧ (¬ r = 0 → b.toInt ≤ a.toInt ∧ a.toInt ≤ c.toInt) ∧ (r = 0 → a.toInt < b.toInt ∨ c.toInt < a.toInt)) → Q (some (.int r)) h) : qm_PW X 141 [.long a, .long b, .long c] h Q := by
  refine qm_seg_ok (C := qc_141) (rt := some .boolean) rfl rfl (cuts := []) 400 _ _ _ _ ?_
  show ((lg_cmp a b).toInt < 0 → (((0 : Int32) = 0 ∨ (0 : Int32) = 1) ∧ Q (some (.int 0)) h)) ∧ (0 ≤ (lg_cmp a b).toInt → ((0 < (lg_cmp a c).toInt → (((0 : Int32) = 0 ∨ (0 : Int32) = 1) ∧ Q (some (.int 0)) h)) ∧ ((lg_cmp a c).toInt ≤ 0 → (((1 : Int32) = 0 ∨ (1 : Int32) = 1) ∧ Q (some (.int 1)) h))))
  refine ⟨fun c1 => ?_, fun c2 => ?_⟩
  · exact ⟨Or.inl rfl, hq 0 (by have := lg_cmp_i a b; first | exact ⟨Or.inl rfl, fun hc => absurd rfl hc, fun _ => by omega⟩ | exact ⟨Or.inr rfl, fun _ => by omega, fun hc => absurd hc (by decide)⟩)⟩
  · refine ⟨fun c3 => ?_, fun c4 => ?_⟩
    · exact ⟨Or.inl rfl, hq 0 (by have := lg_cmp_i a b; have := lg_cmp_i a c; first | exact ⟨Or.inl rfl, fun hc => absurd rfl hc, fun _ => by omega⟩ | exact ⟨Or.inr rfl, fun _ => by omega, fun hc => absurd hc (by decide)⟩)⟩
    · exact ⟨Or.inr rfl, hq 1 (by have := lg_cmp_i a b; have := lg_cmp_i a c; first | exact ⟨Or.inl rfl, fun hc => absurd rfl hc, fun _ => by omega⟩ | exact ⟨Or.inr rfl, fun _ => by omega, fun hc => absurd hc (by decide)⟩)⟩
-- ThreadBankModel.flag(Z)I
set_option maxRecDepth 100000 in
set_option maxHeartbeats 4000000 in
theorem sf_142 (X : qm_X) (h : qm_H) (a : Int32) (hp : True) (Q : qm_Q) (hq : ∀ r : Int32, (r = 0 ∨ r = 1) → Q (some (.int r)) h) : qm_PW X 142 [.int a] h Q := by
  refine qm_seg_ok (C := qc_142) (rt := some .int) rfl rfl (cuts := []) 400 _ _ _ _ ?_
  show (a = 0 → (Q (some (.int 0)) h)) ∧ (¬ a = 0 → (Q (some (.int 1)) h))
  refine ⟨fun c1 => ?_, fun c2 => ?_⟩
  · exact hq 0 (Or.inl rfl)
  · exact hq 1 (Or.inr rfl)
-- ThreadBankModel.roomOf(II)I
set_option maxRecDepth 100000 in
set_option maxHeartbeats 4000000 in
theorem sf_160 (X : qm_X) (h : qm_H) (a : Int32) (b : Int32) (hp : True) (Q : qm_Q) (hq : ∀ r : Int32, (True) → Q (some (.int r)) h) : qm_PW X 160 [.int a, .int b] h Q := by
  refine qm_seg_ok (C := qc_160) (rt := some .int) rfl rfl (cuts := []) 400 _ _ _ _ ?_
  show ((a = 1 → ((¬ b = 3 → (Q (some (.int 2)) h)) ∧ (b = 3 → (Q (some (.int 0)) h)))) ∧ (¬ a = 1 → ((a = 2 → ((¬ b = 3 → (Q (some (.int 3)) h)) ∧ (b = 3 → (Q (some (.int 0)) h)))) ∧ (¬ a = 2 → ((a = 3 → (Q (some (.int 1)) h)) ∧ (¬ a = 3 → (Q (some (.int 2)) h)))))))
  refine ⟨fun c1 => ?_, fun c2 => ?_⟩
  · refine ⟨fun c3 => ?_, fun c4 => ?_⟩
    · exact hq 2 trivial
    · exact hq 0 trivial
  · refine ⟨fun c5 => ?_, fun c6 => ?_⟩
    · refine ⟨fun c7 => ?_, fun c8 => ?_⟩
      · exact hq 3 trivial
      · exact hq 0 trivial
    · refine ⟨fun c9 => ?_, fun c10 => ?_⟩
      · exact hq 1 trivial
      · exact hq 2 trivial
-- ThreadBankModel.power(II)I
set_option maxRecDepth 100000 in
set_option maxHeartbeats 4000000 in
theorem sf_200_c (X : qm_X) (h : qm_H) (a : Int32) (b : Int32) (hp : a.toInt = 4 ∧ 0 ≤ b.toInt ∧ b.toInt ≤ 4) (Q : qm_Q) (hq : ∀ r : Int32, (0 ≤ r.toInt ∧ r.toInt ≤ 256) → Q (some (.int r)) h) : ∀ n : Nat, (∀ (l2 : Int32) (l3 : Int32), ((l3.toInt = 0 ∧ l2.toInt = 1) ∨ (l3.toInt = 1 ∧ l2.toInt = 4) ∨ (l3.toInt = 2 ∧ l2.toInt = 16) ∨ (l3.toInt = 3 ∧ l2.toInt = 64) ∨ (l3.toInt = 4 ∧ l2.toInt = 256)) → (4 - l3.toInt).toNat < n → qm_PA X 200 4 [(0, .int a), (1, .int b), (2, .int l2), (3, .int l3)] [] h Q) := by
  have hp0 : a.toInt = 4 ∧ 0 ≤ b.toInt ∧ b.toInt ≤ 4 := hp
  intro n
  induction n with
  | zero => exact fun _ _ _ h0 => absurd h0 (Nat.not_lt_zero _)
  | succ n ih =>
    intro l2 l3 hi hr
    have := ti_mulR a 4 hp.1 l2
    refine qm_seg_ok (C := qc_200) (rt := some .int) rfl rfl (cuts := [(4, [0, 1, 2, 3])]) 400 _ _ _ _ ?_
    show (b.toInt ≤ l3.toInt → (Q (some (.int l2)) h)) ∧ (l3.toInt < b.toInt → (qm_PA X 200 4 [(0, .int a), (1, .int b), (2, .int (l2 * a)), (3, .int (l3 + 1))] [] h Q))
    refine ⟨fun c1 => ?_, fun c2 => ?_⟩
    · exact hq l2 (by omega)
    · exact ih (l2 * a) (l3 + 1) (by have := ti_addK l3 (1 : Int32) 1 rfl; omega) (by have := ti_addK l3 (1 : Int32) 1 rfl; omega)
set_option maxRecDepth 100000 in
set_option maxHeartbeats 4000000 in
theorem sf_200 (X : qm_X) (h : qm_H) (a : Int32) (b : Int32) (hp : a.toInt = 4 ∧ 0 ≤ b.toInt ∧ b.toInt ≤ 4) (Q : qm_Q) (hq : ∀ r : Int32, (0 ≤ r.toInt ∧ r.toInt ≤ 256) → Q (some (.int r)) h) : qm_PW X 200 [.int a, .int b] h Q := by
  have hp0 : a.toInt = 4 ∧ 0 ≤ b.toInt ∧ b.toInt ≤ 4 := hp
  refine qm_seg_ok (C := qc_200) (rt := some .int) rfl rfl (cuts := [(4, [0, 1, 2, 3])]) 400 _ _ _ _ ?_
  show qm_PA X 200 4 [(0, .int a), (1, .int b), (2, .int 1), (3, .int 0)] [] h Q
  exact (sf_200_c X h a b hp Q hq _) (1 : Int32) (0 : Int32) (by have : (1 : Int32).toInt = 1 := rfl; have : (0 : Int32).toInt = 0 := rfl; omega) (Nat.lt_succ_self _)
-- ThreadBankModel.bitsOf(I)I
set_option maxRecDepth 100000 in
set_option maxHeartbeats 4000000 in
theorem sf_207_c (X : qm_X) (h : qm_H) (a : Int32) (hp : True) (Q : qm_Q) (hq : ∀ r : Int32, (True) → Q (some (.int r)) h) : ∀ n : Nat, (∀ (l1 : Int32) (l2 : Int32), (0 ≤ l2.toInt ∧ l2.toInt ≤ 10) → (10 - l2.toInt).toNat < n → qm_PA X 207 4 [(0, .int a), (1, .int l1), (2, .int l2)] [] h Q) := by
  intro n
  induction n with
  | zero => exact fun _ _ _ h0 => absurd h0 (Nat.not_lt_zero _)
  | succ n ih =>
    intro l1 l2 hi hr
    have ti_l2 := ti_rng l2
    refine qm_seg_ok (C := qc_207) (rt := some .int) rfl rfl (cuts := [(4, [0, 1, 2])]) 400 _ _ _ _ ?_
    show (10 ≤ l2.toInt → (Q (some (.int l1)) h)) ∧ (l2.toInt < 10 → (qm_PA X 207 4 [(0, .int a), (1, .int (l1 + ((a >>> (l2 &&& 31)) &&& 1))), (2, .int (l2 + 1))] [] h Q))
    refine ⟨fun c1 => ?_, fun c2 => ?_⟩
    · exact hq l1 trivial
    · exact ih (l1 + ((a >>> (l2 &&& 31)) &&& 1)) (l2 + 1) (by have := ti_addK l2 (1 : Int32) 1 rfl; omega) (by have := ti_addK l2 (1 : Int32) 1 rfl; omega)
set_option maxRecDepth 100000 in
set_option maxHeartbeats 4000000 in
theorem sf_207 (X : qm_X) (h : qm_H) (a : Int32) (hp : True) (Q : qm_Q) (hq : ∀ r : Int32, (True) → Q (some (.int r)) h) : qm_PW X 207 [.int a] h Q := by
  refine qm_seg_ok (C := qc_207) (rt := some .int) rfl rfl (cuts := [(4, [0, 1, 2])]) 400 _ _ _ _ ?_
  show qm_PA X 207 4 [(0, .int a), (1, .int 0), (2, .int 0)] [] h Q
  exact (sf_207_c X h a hp Q hq _) (0 : Int32) (0 : Int32) (by have : (0 : Int32).toInt = 0 := rfl; omega) (Nat.lt_succ_self _)
-- ThreadBankModel.isClerk(I)Z
set_option maxRecDepth 100000 in
set_option maxHeartbeats 4000000 in
theorem sf_164_39 (X : qm_X) (h : qm_H) (a : Int32) (hp : mi h) (Q : qm_Q) (hq : ∀ r : Int32, ((r = 0 ∨ r = 1) ∧ (¬ r = 0 → 0 ≤ a.toInt ∧ a.toInt < (h 39 3).toInt)) → Q (some (.int r)) h) : qm_PW X 164 [.ref 39, .int a] h Q := by
  have hmmi : mi h := hp
  have ⟨⟨_, _⟩, ⟨_, _⟩, ⟨_, _⟩, ⟨_, _⟩, _, _⟩ := hmmi
  refine qm_seg_ok (C := qc_164) (rt := some .boolean) rfl rfl (cuts := []) 400 _ _ _ _ ?_
  show qm_PW X 141 [.long (Int32.toInt64 a), .long 0, .long (Int32.toInt64 ((h 39 3) - 1))] h _
  refine sf_141 X h ((Int32.toInt64 a) : Int64) (0 : Int64) ((Int32.toInt64 ((h 39 3) - 1)) : Int64) trivial _ (fun r1 p2 => ?_)
  show (r1 = 0 ∨ r1 = 1) ∧ Q (some (.int r1)) h
  exact ⟨p2.1, hq r1 ⟨p2.1, fun hc => (by have := ti_subK (h 39 3) (1 : Int32) 1 rfl; have : (0 : Int64).toInt = 0 := rfl; have := i64 a; have := i64 ((h 39 3) - 1); have := p2.2.1 hc; omega)⟩⟩
-- ThreadBankModel.isPlace(I)Z
set_option maxRecDepth 100000 in
set_option maxHeartbeats 4000000 in
theorem sf_165_39 (X : qm_X) (h : qm_H) (a : Int32) (hp : mi h) (Q : qm_Q) (hq : ∀ r : Int32, ((r = 0 ∨ r = 1) ∧ (¬ r = 0 → 0 ≤ a.toInt ∧ a.toInt ≤ 39)) → Q (some (.int r)) h) : qm_PW X 165 [.ref 39, .int a] h Q := by
  have hmmi : mi h := hp
  have ⟨⟨_, _⟩, ⟨_, _⟩, ⟨_, _⟩, ⟨_, _⟩, _, _⟩ := hmmi
  refine qm_seg_ok (C := qc_165) (rt := some .boolean) rfl rfl (cuts := []) 400 _ _ _ _ ?_
  show (a.toInt < 0 → (((0 : Int32) = 0 ∨ (0 : Int32) = 1) ∧ Q (some (.int 0)) h)) ∧ (0 ≤ a.toInt → (¬ (10 : Int32) = 0 ∧ (qm_PW X 164 [.ref 39, .int (a / 10)] h _)))
  refine ⟨fun c1 => ?_, fun c2 => ?_⟩
  · exact ⟨Or.inl rfl, hq 0 (by first | omega | exact ⟨Or.inl rfl, fun hc => absurd rfl hc⟩ | exact ⟨Or.inr rfl, fun hc => absurd hc (by decide)⟩ | (refine ⟨Or.inr rfl, fun _ => ?_⟩; omega) | (refine ⟨Or.inl rfl, fun _ => ?_⟩; omega) | (simp; done))⟩
  · refine ⟨by decide, ?_⟩
    refine sf_164_39 X h (a / 10) hmmi _ (fun r3 p4 => ?_)
    show (r3 = 0 → (((0 : Int32) = 0 ∨ (0 : Int32) = 1) ∧ Q (some (.int 0)) h)) ∧ (¬ r3 = 0 → (¬ (10 : Int32) = 0 ∧ ((5 ≤ (a - a / 10 * 10).toInt → (((0 : Int32) = 0 ∨ (0 : Int32) = 1) ∧ Q (some (.int 0)) h)) ∧ ((a - a / 10 * 10).toInt < 5 → (((1 : Int32) = 0 ∨ (1 : Int32) = 1) ∧ Q (some (.int 1)) h)))))
    refine ⟨fun c5 => ?_, fun c6 => ?_⟩
    · exact ⟨Or.inl rfl, hq 0 (by have := ti_div (10 : Int32) 10 rfl a (by decide); first | omega | exact ⟨Or.inl rfl, fun hc => absurd rfl hc⟩ | exact ⟨Or.inr rfl, fun hc => absurd hc (by decide)⟩ | (refine ⟨Or.inr rfl, fun _ => ?_⟩; omega) | (refine ⟨Or.inl rfl, fun _ => ?_⟩; omega) | (simp; done))⟩
    · have := p4.2 c6
      refine ⟨by decide, ?_⟩
      refine ⟨fun c7 => ?_, fun c8 => ?_⟩
      · exact ⟨Or.inl rfl, hq 0 (by have := ti_div (10 : Int32) 10 rfl a (by decide); have := ti_rem (10 : Int32) 10 rfl a (by decide); first | omega | exact ⟨Or.inl rfl, fun hc => absurd rfl hc⟩ | exact ⟨Or.inr rfl, fun hc => absurd hc (by decide)⟩ | (refine ⟨Or.inr rfl, fun _ => ?_⟩; omega) | (refine ⟨Or.inl rfl, fun _ => ?_⟩; omega) | (simp; done))⟩
      · exact ⟨Or.inr rfl, hq 1 (by have := ti_div (10 : Int32) 10 rfl a (by decide); have := ti_rem (10 : Int32) 10 rfl a (by decide); first | omega | exact ⟨Or.inl rfl, fun hc => absurd rfl hc⟩ | exact ⟨Or.inr rfl, fun hc => absurd hc (by decide)⟩ | (refine ⟨Or.inr rfl, fun _ => ?_⟩; omega) | (refine ⟨Or.inl rfl, fun _ => ?_⟩; omega) | (simp; done))⟩
-- ThreadBankModel.isPair(I)Z
set_option maxRecDepth 100000 in
set_option maxHeartbeats 4000000 in
theorem sf_166_39 (X : qm_X) (h : qm_H) (a : Int32) (hp : mi h) (Q : qm_Q) (hq : ∀ r : Int32, ((r = 0 ∨ r = 1) ∧ (¬ r = 0 → 0 ≤ a.toInt ∧ a.toInt / 10 ≤ 3 ∧ a.toInt % 10 ≤ 3)) → Q (some (.int r)) h) : qm_PW X 166 [.ref 39, .int a] h Q := by
  have hmmi : mi h := hp
  have ⟨⟨_, _⟩, ⟨_, _⟩, ⟨_, _⟩, ⟨_, _⟩, _, _⟩ := hmmi
  refine qm_seg_ok (C := qc_166) (rt := some .boolean) rfl rfl (cuts := []) 400 _ _ _ _ ?_
  show (a.toInt < 0 → (((0 : Int32) = 0 ∨ (0 : Int32) = 1) ∧ Q (some (.int 0)) h)) ∧ (0 ≤ a.toInt → (¬ (10 : Int32) = 0 ∧ (qm_PW X 164 [.ref 39, .int (a / 10)] h _)))
  refine ⟨fun c1 => ?_, fun c2 => ?_⟩
  · exact ⟨Or.inl rfl, hq 0 (by first | omega | exact ⟨Or.inl rfl, fun hc => absurd rfl hc⟩ | exact ⟨Or.inr rfl, fun hc => absurd hc (by decide)⟩ | (refine ⟨Or.inr rfl, fun _ => ?_⟩; omega) | (refine ⟨Or.inl rfl, fun _ => ?_⟩; omega) | (simp; done))⟩
  · refine ⟨by decide, ?_⟩
    refine sf_164_39 X h (a / 10) hmmi _ (fun r3 p4 => ?_)
    show (r3 = 0 → (((0 : Int32) = 0 ∨ (0 : Int32) = 1) ∧ Q (some (.int 0)) h)) ∧ (¬ r3 = 0 → (¬ (10 : Int32) = 0 ∧ (qm_PW X 164 [.ref 39, .int (a - a / 10 * 10)] h _)))
    refine ⟨fun c5 => ?_, fun c6 => ?_⟩
    · exact ⟨Or.inl rfl, hq 0 (by have := ti_div (10 : Int32) 10 rfl a (by decide); first | omega | exact ⟨Or.inl rfl, fun hc => absurd rfl hc⟩ | exact ⟨Or.inr rfl, fun hc => absurd hc (by decide)⟩ | (refine ⟨Or.inr rfl, fun _ => ?_⟩; omega) | (refine ⟨Or.inl rfl, fun _ => ?_⟩; omega) | (simp; done))⟩
    · have := p4.2 c6
      refine ⟨by decide, ?_⟩
      refine sf_164_39 X h (a - a / 10 * 10) hmmi _ (fun r7 p8 => ?_)
      show (r7 = 0 → (((0 : Int32) = 0 ∨ (0 : Int32) = 1) ∧ Q (some (.int 0)) h)) ∧ (¬ r7 = 0 → (¬ (10 : Int32) = 0 ∧ (¬ (10 : Int32) = 0 ∧ (((a / 10) = (a - a / 10 * 10) → (((0 : Int32) = 0 ∨ (0 : Int32) = 1) ∧ Q (some (.int 0)) h)) ∧ (¬ (a / 10) = (a - a / 10 * 10) → (((1 : Int32) = 0 ∨ (1 : Int32) = 1) ∧ Q (some (.int 1)) h))))))
      refine ⟨fun c9 => ?_, fun c10 => ?_⟩
      · exact ⟨Or.inl rfl, hq 0 (by have := ti_div (10 : Int32) 10 rfl a (by decide); have := ti_rem (10 : Int32) 10 rfl a (by decide); first | omega | exact ⟨Or.inl rfl, fun hc => absurd rfl hc⟩ | exact ⟨Or.inr rfl, fun hc => absurd hc (by decide)⟩ | (refine ⟨Or.inr rfl, fun _ => ?_⟩; omega) | (refine ⟨Or.inl rfl, fun _ => ?_⟩; omega) | (simp; done))⟩
      · have := p8.2 c10
        refine ⟨by decide, ?_⟩
        refine ⟨by decide, ?_⟩
        refine ⟨fun c11 => ?_, fun c12 => ?_⟩
        · exact ⟨Or.inl rfl, hq 0 (by have := ti_div (10 : Int32) 10 rfl a (by decide); have := ti_rem (10 : Int32) 10 rfl a (by decide); first | omega | exact ⟨Or.inl rfl, fun hc => absurd rfl hc⟩ | exact ⟨Or.inr rfl, fun hc => absurd hc (by decide)⟩ | (refine ⟨Or.inr rfl, fun _ => ?_⟩; omega) | (refine ⟨Or.inl rfl, fun _ => ?_⟩; omega) | (simp; done))⟩
        · exact ⟨Or.inr rfl, hq 1 (by have := ti_div (10 : Int32) 10 rfl a (by decide); have := ti_rem (10 : Int32) 10 rfl a (by decide); first | omega | exact ⟨Or.inl rfl, fun hc => absurd rfl hc⟩ | exact ⟨Or.inr rfl, fun hc => absurd hc (by decide)⟩ | (refine ⟨Or.inr rfl, fun _ => ?_⟩; omega) | (refine ⟨Or.inl rfl, fun _ => ?_⟩; omega) | (simp; done))⟩
-- ThreadBankModel.isThread(I)Z
set_option maxRecDepth 100000 in
set_option maxHeartbeats 4000000 in
theorem sf_167_39 (X : qm_X) (h : qm_H) (a : Int32) (hp : sm h) (Q : qm_Q) (hq : ∀ r : Int32, ((r = 0 ∨ r = 1) ∧ (¬ r = 0 → 0 ≤ a.toInt ∧ a.toInt < (h 40 4).toInt)) → Q (some (.int r)) h) : qm_PW X 167 [.ref 39, .int a] h Q := by
  have hmsm : sm h := hp
  have ⟨⟨⟨_, _⟩, _, _⟩, _, _, _⟩ := hmsm
  refine qm_seg_ok (C := qc_167) (rt := some .boolean) rfl rfl (cuts := []) 400 _ _ _ _ ?_
  show (0 ≤ (4 : Int) ∧ (4 : Int) < 147) ∧ (qm_PW X 141 [.long (Int32.toInt64 a), .long 0, .long (Int32.toInt64 ((h 40 4) - 1))] h _)
  refine ⟨by decide, ?_⟩
  refine sf_141 X h ((Int32.toInt64 a) : Int64) (0 : Int64) ((Int32.toInt64 ((h 40 4) - 1)) : Int64) trivial _ (fun r1 p2 => ?_)
  show (r1 = 0 ∨ r1 = 1) ∧ Q (some (.int r1)) h
  exact ⟨p2.1, hq r1 ⟨p2.1, fun hc => (by have := ti_subK (h 40 4) (1 : Int32) 1 rfl; have : (0 : Int64).toInt = 0 := rfl; have := i64 a; have := i64 ((h 40 4) - 1); have := p2.2.1 hc; omega)⟩⟩
-- ThreadBankModel.isPart(I)Z
set_option maxRecDepth 100000 in
set_option maxHeartbeats 4000000 in
theorem sf_168 (X : qm_X) (h : qm_H) (a : Int32) (hp : True) (Q : qm_Q) (hq : ∀ r : Int32, ((r = 0 ∨ r = 1) ∧ (¬ r = 0 → 0 ≤ a.toInt ∧ a.toInt ≤ 1)) → Q (some (.int r)) h) : qm_PW X 168 [.int a] h Q := by
  refine qm_seg_ok (C := qc_168) (rt := some .boolean) rfl rfl (cuts := []) 400 _ _ _ _ ?_
  show qm_PW X 141 [.long (Int32.toInt64 a), .long 0, .long 1] h _
  refine sf_141 X h ((Int32.toInt64 a) : Int64) (0 : Int64) (1 : Int64) trivial _ (fun r1 p2 => ?_)
  show (r1 = 0 ∨ r1 = 1) ∧ Q (some (.int r1)) h
  exact ⟨p2.1, hq r1 ⟨p2.1, fun hc => (by have : (0 : Int64).toInt = 0 := rfl; have : (1 : Int64).toInt = 1 := rfl; have := i64 a; have := p2.2.1 hc; omega)⟩⟩
