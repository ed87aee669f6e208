-- ThreadBank$Clearing.sizeOf(I)I
set_option maxRecDepth 100000 in
set_option maxHeartbeats 4000000 in
theorem sf_20 (X : qm_X) (h : qm_H) (a : Int32) (hp : True) (Q : qm_Q) (hq : ∀ r : Int32, (0 ≤ r.toInt ∧ r.toInt ≤ 4) → Q (some (.int r)) h) : qm_PW X 20 [.int a] h Q := by
  refine qm_seg_ok (C := qc_20) (rt := some .int) rfl rfl (cuts := []) 400 _ _ _ _ ?_
  show (a.toInt < 0 → (Q (some (.int 0)) h)) ∧ (0 ≤ a.toInt → ((100 ≤ a.toInt → (Q (some (.int 0)) h)) ∧ (a.toInt < 100 → ((0 ≤ a.toInt ∧ a.toInt < 100) ∧ (Q (some (.int (qm_rings.getD a.toInt.toNat 0))) h)))))
  refine ⟨fun c1 => ?_, fun c2 => ?_⟩
  · exact hq 0 (by have : (0 : Int32).toInt = 0 := rfl; first | omega | (have := rings_le a.toInt.toNat; omega) | decide)
  · refine ⟨fun c3 => ?_, fun c4 => ?_⟩
    · exact hq 0 (by have : (0 : Int32).toInt = 0 := rfl; first | omega | (have := rings_le a.toInt.toNat; omega) | decide)
    · refine ⟨(by omega), ?_⟩
      exact hq (qm_rings.getD a.toInt.toNat 0) (by first | omega | (have := rings_le a.toInt.toNat; omega) | decide)
-- ThreadBank$Clearing.clerkIn(II)I
set_option maxRecDepth 100000 in
set_option maxHeartbeats 4000000 in
theorem sf_21 (X : qm_X) (h : qm_H) (a : Int32) (b : Int32) (hp : True) (Q : qm_Q) (hq : ∀ r : Int32, (True) → Q (some (.int r)) h) : qm_PW X 21 [.int a, .int b] h Q := by
  refine qm_seg_ok (C := qc_21) (rt := some .int) rfl rfl (cuts := []) 400 _ _ _ _ ?_
  show qm_PW X 20 [.int a] h _
  refine sf_20 X h a trivial _ (fun r1 p2 => ?_)
  show (r1.toInt ≤ b.toInt → ((((a + 1) + 0).toInt < 0 → (Q (some (.int 0)) h)) ∧ (0 ≤ ((a + 1) + 0).toInt → ((100 ≤ ((a + 1) + 0).toInt → (Q (some (.int 0)) h)) ∧ (((a + 1) + 0).toInt < 100 → ((0 ≤ ((a + 1) + 0).toInt ∧ ((a + 1) + 0).toInt < 100) ∧ (Q (some (.int (qm_rings.getD ((a + 1) + 0).toInt.toNat 0))) h))))))) ∧ (b.toInt < r1.toInt → ((((a + 1) + b).toInt < 0 → (Q (some (.int 0)) h)) ∧ (0 ≤ ((a + 1) + b).toInt → ((100 ≤ ((a + 1) + b).toInt → (Q (some (.int 0)) h)) ∧ (((a + 1) + b).toInt < 100 → ((0 ≤ ((a + 1) + b).toInt ∧ ((a + 1) + b).toInt < 100) ∧ (Q (some (.int (qm_rings.getD ((a + 1) + b).toInt.toNat 0))) h)))))))
  refine ⟨fun c3 => ?_, fun c4 => ?_⟩
  · refine ⟨fun c5 => ?_, fun c6 => ?_⟩
    · exact hq 0 trivial
    · refine ⟨fun c7 => ?_, fun c8 => ?_⟩
      · exact hq 0 trivial
      · refine ⟨(by have := ti_addK a (1 : Int32) 1 rfl; have := ti_addK (a + 1) (0 : Int32) 0 rfl; omega), ?_⟩
        exact hq (qm_rings.getD ((a + 1) + 0).toInt.toNat 0) trivial
  · refine ⟨fun c9 => ?_, fun c10 => ?_⟩
    · exact hq 0 trivial
    · refine ⟨fun c11 => ?_, fun c12 => ?_⟩
      · exact hq 0 trivial
      · refine ⟨(by have := ti_addK a (1 : Int32) 1 rfl; have := ti_add (a + 1) b; omega), ?_⟩
        exact hq (qm_rings.getD ((a + 1) + b).toInt.toNat 0) trivial
-- ThreadBank$Clearing.begin(LThreadBank$Memory;)V
set_option maxRecDepth 100000 in
set_option maxHeartbeats 4000000 in
theorem sf_10_32_1_c (X : qm_X) (h : qm_H) (hp : mq 1 h) (Q : qm_Q) (hq : ∀ h' : qm_H, ((∀ k, (k < 33 ∨ 33 < k) → h' k = h k)) → Q none h') : ∀ n : Nat, (∀ (l2 : Int32) (g : qm_H), ((0 ≤ l2.toInt ∧ l2.toInt ≤ 4) ∧ mq 1 g ∧ ∀ k, (k < 33 ∨ 33 < k) → g k = h k) → ((4 - l2.toInt) * 100 + 50).toNat < n → qm_PA X 10 2 [(0, .ref 32), (1, .ref 1), (2, .int l2)] [] g Q) ∧ (∀ (l2 : Int32) (l3 : Int32) (g : qm_H), ((0 ≤ l2.toInt ∧ l2.toInt ≤ 3 ∧ 0 ≤ l3.toInt ∧ l3.toInt ≤ 4) ∧ mq 1 g ∧ ∀ k, (k < 33 ∨ 33 < k) → g k = h k) → ((4 - l2.toInt) * 100 + 40 - l3.toInt).toNat < n → qm_PA X 10 9 [(0, .ref 32), (1, .ref 1), (2, .int l2), (3, .int l3)] [] g Q) := by
  have hm1 : mq 1 h := hp
  have ⟨⟨_, _⟩, ⟨_, _⟩, _, _⟩ := hm1
  intro n
  induction n with
  | zero => exact ⟨fun _ _ _ h0 => absurd h0 (Nat.not_lt_zero _), fun _ _ _ _ h0 => absurd h0 (Nat.not_lt_zero _)⟩
  | succ n ih =>
    refine ⟨?_, ?_⟩
    · intro l2 g hi hr
      obtain ⟨hi0, hg1, hgf⟩ := hi
      have ⟨⟨_, _⟩, ⟨_, _⟩, _, _⟩ := hg1
      refine qm_seg_ok (C := qc_10) (rt := none) rfl rfl (cuts := [(2, [0, 1, 2]), (9, [0, 1, 2, 3])]) 400 _ _ _ _ ?_
      show (4 ≤ l2.toInt → (Q none g)) ∧ (l2.toInt < 4 → (qm_PA X 10 9 [(0, .ref 32), (1, .ref 1), (2, .int l2), (3, .int 0)] [] g Q))
      refine ⟨fun c1 => ?_, fun c2 => ?_⟩
      · exact hq g (fun k hk => hgf k hk)
      · exact ih.2 l2 (0 : Int32) g ⟨(by have : (0 : Int32).toInt = 0 := rfl; show 0 ≤ l2.toInt ∧ l2.toInt ≤ 3 ∧ 0 ≤ (0 : Int32).toInt ∧ (0 : Int32).toInt ≤ 4; omega), hg1, (fun k hk => hgf k hk)⟩ (by have : (0 : Int32).toInt = 0 := rfl; show ((4 - l2.toInt) * 100 + 40 - (0 : Int32).toInt).toNat < n; omega)
    · intro l2 l3 g hi hr
      obtain ⟨hi0, hg1, hgf⟩ := hi
      have ⟨⟨_, _⟩, ⟨_, _⟩, _, _⟩ := hg1
      refine qm_seg_ok (C := qc_10) (rt := none) rfl rfl (cuts := [(2, [0, 1, 2]), (9, [0, 1, 2, 3])]) 400 _ _ _ _ ?_
      show (4 ≤ l3.toInt → (qm_PA X 10 2 [(0, .ref 32), (1, .ref 1), (2, .int (l2 + 1))] [] g Q)) ∧ (l3.toInt < 4 → (qm_PW X 53 [.ref 1, .int ((10 * l2) + l3), .int 9] g _))
      refine ⟨fun c1 => ?_, fun c2 => ?_⟩
      · exact ih.1 (l2 + 1) g ⟨(by have := ti_addK l2 (1 : Int32) 1 rfl; show 0 ≤ (l2 + 1).toInt ∧ (l2 + 1).toInt ≤ 4; omega), hg1, (fun k hk => hgf k hk)⟩ (by have := ti_addK l2 (1 : Int32) 1 rfl; show ((4 - (l2 + 1).toInt) * 100 + 50).toNat < n; omega)
      · refine sf_53_1 X g ((10 * l2) + l3) (9 : Int32) hg1 _ (fun r3 p4 => ?_)
        show (0 ≤ ((4 * l2) + l3).toInt ∧ ((4 * l2) + l3).toInt < 16) ∧ (qm_PA X 10 9 [(0, .ref 32), (1, .ref 1), (2, .int l2), (3, .int (l3 + 1))] [] (qm_row g 33 (upd (g 33) ((4 * l2) + l3).toInt.toNat r3)) Q)
        refine ⟨(by have := ti_mulL (4 : Int32) 4 rfl l2; have := ti_add (4 * l2) l3; omega), ?_⟩
        exact ih.2 l2 (l3 + 1) (qm_row g 33 (upd (g 33) ((4 * l2) + l3).toInt.toNat r3)) ⟨(by have := ti_addK l3 (1 : Int32) 1 rfl; show 0 ≤ l2.toInt ∧ l2.toInt ≤ 3 ∧ 0 ≤ (l3 + 1).toInt ∧ (l3 + 1).toInt ≤ 4; omega), (by exact hg1), (fun k hk => by simp only [qm_row]; rw [if_neg (by omega)]; exact hgf k hk)⟩ (by have := ti_addK l3 (1 : Int32) 1 rfl; show ((4 - l2.toInt) * 100 + 40 - (l3 + 1).toInt).toNat < n; omega)
set_option maxRecDepth 100000 in
set_option maxHeartbeats 4000000 in
theorem sf_10_32_1 (X : qm_X) (h : qm_H) (hp : mq 1 h) (Q : qm_Q) (hq : ∀ h' : qm_H, ((∀ k, (k < 33 ∨ 33 < k) → h' k = h k)) → Q none h') : qm_PW X 10 [.ref 32, .ref 1] h Q := by
  have hm1 : mq 1 h := hp
  have ⟨⟨_, _⟩, ⟨_, _⟩, _, _⟩ := hm1
  refine qm_seg_ok (C := qc_10) (rt := none) rfl rfl (cuts := [(2, [0, 1, 2]), (9, [0, 1, 2, 3])]) 400 _ _ _ _ ?_
  show qm_PA X 10 2 [(0, .ref 32), (1, .ref 1), (2, .int 0)] [] h Q
  exact (sf_10_32_1_c X h hp Q hq _).1 (0 : Int32) h ⟨(by have : (0 : Int32).toInt = 0 := rfl; show 0 ≤ (0 : Int32).toInt ∧ (0 : Int32).toInt ≤ 4; omega), hm1, (fun k hk => rfl)⟩ (Nat.lt_succ_self _)
-- ThreadBank$Clearing.owes(II)I
set_option maxRecDepth 100000 in
set_option maxHeartbeats 4000000 in
theorem sf_11_32 (X : qm_X) (h : qm_H) (a : Int32) (b : Int32) (hp : True) (Q : qm_Q) (hq : ∀ r : Int32, (True) → Q (some (.int r)) h) : qm_PW X 11 [.ref 32, .int a, .int b] h Q := by
  refine qm_seg_ok (C := qc_11) (rt := some .int) rfl rfl (cuts := []) 400 _ _ _ _ ?_
  show (((4 * a) + b).toInt < 0 → (Q (some (.int 0)) h)) ∧ (0 ≤ ((4 * a) + b).toInt → ((16 ≤ ((4 * a) + b).toInt → (Q (some (.int 0)) h)) ∧ (((4 * a) + b).toInt < 16 → ((0 ≤ ((4 * a) + b).toInt ∧ ((4 * a) + b).toInt < 16) ∧ (Q (some (.int (h 33 ((4 * a) + b).toInt.toNat))) h)))))
  refine ⟨fun c1 => ?_, fun c2 => ?_⟩
  · exact hq 0 trivial
  · refine ⟨fun c3 => ?_, fun c4 => ?_⟩
    · exact hq 0 trivial
    · refine ⟨(by have := ti_mulL (4 : Int32) 4 rfl a; have := ti_add (4 * a) b; omega), ?_⟩
      exact hq (h 33 ((4 * a) + b).toInt.toNat) trivial
-- ThreadBank$Clearing.owedStill()I
set_option maxRecDepth 100000 in
set_option maxHeartbeats 4000000 in
theorem sf_12_32_c (X : qm_X) (h : qm_H) (hp : True) (Q : qm_Q) (hq : ∀ r : Int32, (True) → Q (some (.int r)) h) : ∀ n : Nat, (∀ (l1 : Int32) (l2 : Int32), (0 ≤ l2.toInt ∧ l2.toInt ≤ 16) → (16 - l2.toInt).toNat < n → qm_PA X 12 4 [(0, .ref 32), (1, .int l1), (2, .int l2)] [] h Q) := by
  intro n
  induction n with
  | zero => exact fun _ _ _ h0 => absurd h0 (Nat.not_lt_zero _)
  | succ n ih =>
    intro l1 l2 hi hr
    have ti_l2 := ti_rng l2
    refine qm_seg_ok (C := qc_12) (rt := some .int) rfl rfl (cuts := [(4, [0, 1, 2])]) 400 _ _ _ _ ?_
    show (16 ≤ l2.toInt → (Q (some (.int l1)) h)) ∧ (l2.toInt < 16 → ((0 ≤ l2.toInt ∧ l2.toInt < 16) ∧ (qm_PA X 12 4 [(0, .ref 32), (1, .int (l1 + (h 33 l2.toInt.toNat))), (2, .int (l2 + 1))] [] h Q)))
    refine ⟨fun c1 => ?_, fun c2 => ?_⟩
    · exact hq l1 trivial
    · refine ⟨(by omega), ?_⟩
      exact ih (l1 + (h 33 l2.toInt.toNat)) (l2 + 1) (by have := ti_addK l2 (1 : Int32) 1 rfl; omega) (by have := ti_addK l2 (1 : Int32) 1 rfl; omega)
set_option maxRecDepth 100000 in
set_option maxHeartbeats 4000000 in
theorem sf_12_32 (X : qm_X) (h : qm_H) (hp : True) (Q : qm_Q) (hq : ∀ r : Int32, (True) → Q (some (.int r)) h) : qm_PW X 12 [.ref 32] h Q := by
  refine qm_seg_ok (C := qc_12) (rt := some .int) rfl rfl (cuts := [(4, [0, 1, 2])]) 400 _ _ _ _ ?_
  show qm_PA X 12 4 [(0, .ref 32), (1, .int 0), (2, .int 0)] [] h Q
  exact (sf_12_32_c X h hp Q hq _) (0 : Int32) (0 : Int32) (by have : (0 : Int32).toInt = 0 := rfl; omega) (Nat.lt_succ_self _)
-- ThreadBank$Clearing.leastIn(I)I
set_option maxRecDepth 100000 in
set_option maxHeartbeats 4000000 in
theorem sf_19_32_c (X : qm_X) (h : qm_H) (a : Int32) (hp : True) (Q : qm_Q) (hq : ∀ r : Int32, (True) → Q (some (.int r)) h) : ∀ n : Nat, (∀ (l2 : Int32) (l3 : Int32), (0 ≤ l3.toInt ∧ l3.toInt ≤ 4) → (4 - l3.toInt).toNat < n → qm_PA X 19 17 [(0, .ref 32), (1, .int a), (2, .int l2), (3, .int l3)] [] h Q) := by
  intro n
  induction n with
  | zero => exact fun _ _ _ h0 => absurd h0 (Nat.not_lt_zero _)
  | succ n ih =>
    intro l2 l3 hi hr
    have ti_l3 := ti_rng l3
    refine qm_seg_ok (C := qc_19) (rt := some .int) rfl rfl (cuts := [(17, [0, 1, 2, 3])]) 400 _ _ _ _ ?_
    show qm_PW X 20 [.int a] h _
    refine sf_20 X h a trivial _ (fun r1 p2 => ?_)
    show (r1.toInt ≤ l3.toInt → (Q (some (.int l2)) h)) ∧ (l3.toInt < r1.toInt → (qm_PW X 21 [.int a, .int l3] h _))
    refine ⟨fun c3 => ?_, fun c4 => ?_⟩
    · exact hq l2 trivial
    · refine sf_21 X h a l3 trivial _ (fun r5 p6 => ?_)
      show qm_PW X 21 [.int a, .int (l3 + 1)] h _
      refine sf_21 X h a (l3 + 1) trivial _ (fun r7 p8 => ?_)
      show qm_PW X 11 [.ref 32, .int r5, .int r7] h _
      refine sf_11_32 X h r5 r7 trivial _ (fun r9 p10 => ?_)
      show qm_PW X 2 [.int l2, .int r9] h _
      refine sf_2 X h l2 r9 trivial _ (fun r11 p12 => ?_)
      show qm_PA X 19 17 [(0, .ref 32), (1, .int a), (2, .int r11), (3, .int (l3 + 1))] [] h Q
      exact ih r11 (l3 + 1) (by have := ti_addK l3 (1 : Int32) 1 rfl; omega) (by have := ti_addK l3 (1 : Int32) 1 rfl; omega)
set_option maxRecDepth 100000 in
set_option maxHeartbeats 4000000 in
theorem sf_19_32 (X : qm_X) (h : qm_H) (a : Int32) (hp : True) (Q : qm_Q) (hq : ∀ r : Int32, (True) → Q (some (.int r)) h) : qm_PW X 19 [.ref 32, .int a] h Q := by
  refine qm_seg_ok (C := qc_19) (rt := some .int) rfl rfl (cuts := [(17, [0, 1, 2, 3])]) 400 _ _ _ _ ?_
  show qm_PW X 21 [.int a, .int 0] h _
  refine sf_21 X h a (0 : Int32) trivial _ (fun r1 p2 => ?_)
  show qm_PW X 21 [.int a, .int 1] h _
  refine sf_21 X h a (1 : Int32) trivial _ (fun r3 p4 => ?_)
  show qm_PW X 11 [.ref 32, .int r1, .int r3] h _
  refine sf_11_32 X h r1 r3 trivial _ (fun r5 p6 => ?_)
  show qm_PA X 19 17 [(0, .ref 32), (1, .int a), (2, .int r5), (3, .int 1)] [] h Q
  exact (sf_19_32_c X h a hp Q hq _) r5 (1 : Int32) (by have : (1 : Int32).toInt = 1 := rfl; omega) (Nat.lt_succ_self _)
-- ThreadBank$Clearing.findBest()Z
set_option maxRecDepth 100000 in
set_option maxHeartbeats 4000000 in
theorem sf_13_32_c (X : qm_X) (h : qm_H) (hp : True) (Q : qm_Q) (hq : ∀ r : Int32, ∀ h' : qm_H, ((∀ k, (k < 32 ∨ 32 < k) → h' k = h k) ∧ (r = 0 ∨ r = 1)) → Q (some (.int r)) h') : ∀ n : Nat, (∀ (l1 : Int32) (g : qm_H), ((0 ≤ l1.toInt ∧ l1.toInt ≤ 104) ∧ ∀ k, (k < 32 ∨ 32 < k) → g k = h k) → (104 - l1.toInt).toNat < n → qm_PA X 13 12 [(0, .ref 32), (1, .int l1)] [] g Q) := by
  intro n
  induction n with
  | zero => exact fun _ _ _ h0 => absurd h0 (Nat.not_lt_zero _)
  | succ n ih =>
    intro l1 g hi hr
    obtain ⟨hi0, hgf⟩ := hi
    refine qm_seg_ok (C := qc_13) (rt := some .boolean) rfl rfl (cuts := [(12, [0, 1])]) 400 _ _ _ _ ?_
    show (100 ≤ l1.toInt → (((g 32 2).toInt ≤ 0 → (((0 : Int32) = 0 ∨ (0 : Int32) = 1) ∧ Q (some (.int 0)) g)) ∧ (0 < (g 32 2).toInt → (((1 : Int32) = 0 ∨ (1 : Int32) = 1) ∧ Q (some (.int 1)) g)))) ∧ (l1.toInt < 100 → (qm_PW X 19 [.ref 32, .int l1] g _))
    refine ⟨fun c1 => ?_, fun c2 => ?_⟩
    · refine ⟨fun c3 => ?_, fun c4 => ?_⟩
      · exact ⟨Or.inl rfl, hq 0 g ⟨(fun k hk => hgf k hk), (Or.inl rfl)⟩⟩
      · exact ⟨Or.inr rfl, hq 1 g ⟨(fun k hk => hgf k hk), (Or.inr rfl)⟩⟩
    · refine sf_19_32 X g l1 trivial _ (fun r5 p6 => ?_)
      show qm_PW X 20 [.int l1] g _
      refine sf_20 X g l1 trivial _ (fun r7 p8 => ?_)
      show ((r5 * r7).toInt ≤ (g 32 2).toInt → (qm_PA X 13 12 [(0, .ref 32), (1, .int (l1 + 5))] [] g Q)) ∧ ((g 32 2).toInt < (r5 * r7).toInt → (qm_PA X 13 12 [(0, .ref 32), (1, .int (l1 + 5))] [] (qm_row (qm_row g 32 (upd (g 32) 2 (r5 * r7))) 32 (upd (upd (g 32) 2 (r5 * r7)) 1 l1)) Q))
      refine ⟨fun c9 => ?_, fun c10 => ?_⟩
      · exact ih (l1 + 5) g ⟨(by have := ti_addK l1 (5 : Int32) 5 rfl; show 0 ≤ (l1 + 5).toInt ∧ (l1 + 5).toInt ≤ 104; omega), (fun k hk => hgf k hk)⟩ (by have := ti_addK l1 (5 : Int32) 5 rfl; show (104 - (l1 + 5).toInt).toNat < n; omega)
      · exact ih (l1 + 5) (qm_row (qm_row g 32 (upd (g 32) 2 (r5 * r7))) 32 (upd (upd (g 32) 2 (r5 * r7)) 1 l1)) ⟨(by have := ti_addK l1 (5 : Int32) 5 rfl; show 0 ≤ (l1 + 5).toInt ∧ (l1 + 5).toInt ≤ 104; omega), (fun k hk => by simp only [qm_row]; rw [if_neg (by omega)]; rw [if_neg (by omega)]; exact hgf k hk)⟩ (by have := ti_addK l1 (5 : Int32) 5 rfl; show (104 - (l1 + 5).toInt).toNat < n; omega)
set_option maxRecDepth 100000 in
set_option maxHeartbeats 4000000 in
theorem sf_13_32 (X : qm_X) (h : qm_H) (hp : True) (Q : qm_Q) (hq : ∀ r : Int32, ∀ h' : qm_H, ((∀ k, (k < 32 ∨ 32 < k) → h' k = h k) ∧ (r = 0 ∨ r = 1)) → Q (some (.int r)) h') : qm_PW X 13 [.ref 32] h Q := by
  refine qm_seg_ok (C := qc_13) (rt := some .boolean) rfl rfl (cuts := [(12, [0, 1])]) 400 _ _ _ _ ?_
  show qm_PA X 13 12 [(0, .ref 32), (1, .int 0)] [] (qm_row (qm_row h 32 (upd (h 32) 1 0)) 32 (upd (upd (h 32) 1 0) 2 0)) Q
  exact (sf_13_32_c X h hp Q hq _) (0 : Int32) (qm_row (qm_row h 32 (upd (h 32) 1 0)) 32 (upd (upd (h 32) 1 0) 2 0)) ⟨(by have : (0 : Int32).toInt = 0 := rfl; show 0 ≤ (0 : Int32).toInt ∧ (0 : Int32).toInt ≤ 104; omega), (fun k hk => by simp only [qm_row]; rw [if_neg (by omega)]; rw [if_neg (by omega)])⟩ (Nat.lt_succ_self _)
-- ThreadBank$Clearing.gainOfBest()I
set_option maxRecDepth 100000 in
set_option maxHeartbeats 4000000 in
theorem sf_14_32 (X : qm_X) (h : qm_H) (hp : True) (Q : qm_Q) (hq : ∀ r : Int32, (True) → Q (some (.int r)) h) : qm_PW X 14 [.ref 32] h Q := by
  refine qm_seg_ok (C := qc_14) (rt := some .int) rfl rfl (cuts := []) 400 _ _ _ _ ?_
  show Q (some (.int (h 32 2))) h
  exact hq (h 32 2) trivial
-- ThreadBank$Clearing.sizeOfBest()I
set_option maxRecDepth 100000 in
set_option maxHeartbeats 4000000 in
theorem sf_15_32 (X : qm_X) (h : qm_H) (hp : True) (Q : qm_Q) (hq : ∀ r : Int32, (True) → Q (some (.int r)) h) : qm_PW X 15 [.ref 32] h Q := by
  refine qm_seg_ok (C := qc_15) (rt := some .int) rfl rfl (cuts := []) 400 _ _ _ _ ?_
  show qm_PW X 20 [.int (h 32 1)] h _
  refine sf_20 X h (h 32 1) trivial _ (fun r1 p2 => ?_)
  show Q (some (.int r1)) h
  exact hq r1 trivial
-- ThreadBank$Clearing.clerkOfBest(I)I
set_option maxRecDepth 100000 in
set_option maxHeartbeats 4000000 in
theorem sf_16_32 (X : qm_X) (h : qm_H) (a : Int32) (hp : True) (Q : qm_Q) (hq : ∀ r : Int32, (True) → Q (some (.int r)) h) : qm_PW X 16 [.ref 32, .int a] h Q := by
  refine qm_seg_ok (C := qc_16) (rt := some .int) rfl rfl (cuts := []) 400 _ _ _ _ ?_
  show (a.toInt < 0 → (Q (some (.int (-4 : Int32))) h)) ∧ (0 ≤ a.toInt → (qm_PW X 20 [.int (h 32 1)] h _))
  refine ⟨fun c1 => ?_, fun c2 => ?_⟩
  · exact hq (-4 : Int32) trivial
  · refine sf_20 X h (h 32 1) trivial _ (fun r3 p4 => ?_)
    show (r3.toInt ≤ a.toInt → (Q (some (.int (-4 : Int32))) h)) ∧ (a.toInt < r3.toInt → (qm_PW X 21 [.int (h 32 1), .int a] h _))
    refine ⟨fun c5 => ?_, fun c6 => ?_⟩
    · exact hq (-4 : Int32) trivial
    · refine sf_21 X h (h 32 1) a trivial _ (fun r7 p8 => ?_)
      show Q (some (.int r7)) h
      exact hq r7 trivial
-- ThreadBank$Clearing.takeBest()V
set_option maxRecDepth 100000 in
set_option maxHeartbeats 4000000 in
theorem sf_18_32_c (X : qm_X) (h : qm_H) (hp : True) (Q : qm_Q) (hq : ∀ h' : qm_H, ((∀ k, (k < 33 ∨ 33 < k) → h' k = h k)) → Q none h') : ∀ n : Nat, (∀ (l1 : Int32) (l2 : Int32) (g : qm_H), ((0 ≤ l2.toInt ∧ l2.toInt ≤ 4) ∧ ∀ k, (k < 33 ∨ 33 < k) → g k = h k) → (4 - l2.toInt).toNat < n → qm_PA X 18 11 [(0, .ref 32), (1, .int l1), (2, .int l2)] [] g Q) := by
  intro n
  induction n with
  | zero => exact fun _ _ _ _ h0 => absurd h0 (Nat.not_lt_zero _)
  | succ n ih =>
    intro l1 l2 g hi hr
    obtain ⟨hi0, hgf⟩ := hi
    refine qm_seg_ok (C := qc_18) (rt := none) rfl rfl (cuts := [(11, [0, 1, 2])]) 400 _ _ _ _ ?_
    show qm_PW X 20 [.int (g 32 1)] g _
    refine sf_20 X g (g 32 1) trivial _ (fun r1 p2 => ?_)
    show (r1.toInt ≤ l2.toInt → (Q none g)) ∧ (l2.toInt < r1.toInt → (qm_PW X 21 [.int (g 32 1), .int l2] g _))
    refine ⟨fun c3 => ?_, fun c4 => ?_⟩
    · exact hq g (fun k hk => hgf k hk)
    · refine sf_21 X g (g 32 1) l2 trivial _ (fun r5 p6 => ?_)
      show qm_PW X 21 [.int (g 32 1), .int (l2 + 1)] g _
      refine sf_21 X g (g 32 1) (l2 + 1) trivial _ (fun r7 p8 => ?_)
      show (((4 * r5) + r7).toInt < 0 → (qm_PA X 18 11 [(0, .ref 32), (1, .int l1), (2, .int (l2 + 1))] [] g Q)) ∧ (0 ≤ ((4 * r5) + r7).toInt → ((16 ≤ ((4 * r5) + r7).toInt → (qm_PA X 18 11 [(0, .ref 32), (1, .int l1), (2, .int (l2 + 1))] [] g Q)) ∧ (((4 * r5) + r7).toInt < 16 → ((0 ≤ ((4 * r5) + r7).toInt ∧ ((4 * r5) + r7).toInt < 16) ∧ ((0 ≤ ((4 * r5) + r7).toInt ∧ ((4 * r5) + r7).toInt < 16) ∧ (qm_PA X 18 11 [(0, .ref 32), (1, .int l1), (2, .int (l2 + 1))] [] (qm_row g 33 (upd (g 33) ((4 * r5) + r7).toInt.toNat ((g 33 ((4 * r5) + r7).toInt.toNat) - l1))) Q))))))
      refine ⟨fun c9 => ?_, fun c10 => ?_⟩
      · exact ih l1 (l2 + 1) g ⟨(by have := ti_addK l2 (1 : Int32) 1 rfl; have := ti_mulL (4 : Int32) 4 rfl r5; have := ti_add (4 * r5) r7; show 0 ≤ (l2 + 1).toInt ∧ (l2 + 1).toInt ≤ 4; omega), (fun k hk => hgf k hk)⟩ (by have := ti_addK l2 (1 : Int32) 1 rfl; have := ti_mulL (4 : Int32) 4 rfl r5; have := ti_add (4 * r5) r7; show (4 - (l2 + 1).toInt).toNat < n; omega)
      · refine ⟨fun c11 => ?_, fun c12 => ?_⟩
        · exact ih l1 (l2 + 1) g ⟨(by have := ti_addK l2 (1 : Int32) 1 rfl; have := ti_mulL (4 : Int32) 4 rfl r5; have := ti_add (4 * r5) r7; show 0 ≤ (l2 + 1).toInt ∧ (l2 + 1).toInt ≤ 4; omega), (fun k hk => hgf k hk)⟩ (by have := ti_addK l2 (1 : Int32) 1 rfl; have := ti_mulL (4 : Int32) 4 rfl r5; have := ti_add (4 * r5) r7; show (4 - (l2 + 1).toInt).toNat < n; omega)
        · refine ⟨(by have := ti_mulL (4 : Int32) 4 rfl r5; have := ti_add (4 * r5) r7; omega), ?_⟩
          refine ⟨(by have := ti_mulL (4 : Int32) 4 rfl r5; have := ti_add (4 * r5) r7; omega), ?_⟩
          exact ih l1 (l2 + 1) (qm_row g 33 (upd (g 33) ((4 * r5) + r7).toInt.toNat ((g 33 ((4 * r5) + r7).toInt.toNat) - l1))) ⟨(by have := ti_addK l2 (1 : Int32) 1 rfl; have := ti_mulL (4 : Int32) 4 rfl r5; have := ti_add (4 * r5) r7; show 0 ≤ (l2 + 1).toInt ∧ (l2 + 1).toInt ≤ 4; omega), (fun k hk => by simp only [qm_row]; rw [if_neg (by omega)]; exact hgf k hk)⟩ (by have := ti_addK l2 (1 : Int32) 1 rfl; have := ti_mulL (4 : Int32) 4 rfl r5; have := ti_add (4 * r5) r7; show (4 - (l2 + 1).toInt).toNat < n; omega)
set_option maxRecDepth 100000 in
set_option maxHeartbeats 4000000 in
theorem sf_18_32 (X : qm_X) (h : qm_H) (hp : True) (Q : qm_Q) (hq : ∀ h' : qm_H, ((∀ k, (k < 33 ∨ 33 < k) → h' k = h k)) → Q none h') : qm_PW X 18 [.ref 32] h Q := by
  refine qm_seg_ok (C := qc_18) (rt := none) rfl rfl (cuts := [(11, [0, 1, 2])]) 400 _ _ _ _ ?_
  show qm_PW X 19 [.ref 32, .int (h 32 1)] h _
  refine sf_19_32 X h (h 32 1) trivial _ (fun r1 p2 => ?_)
  show qm_PA X 18 11 [(0, .ref 32), (1, .int r1), (2, .int 0)] [] h Q
  exact (sf_18_32_c X h hp Q hq _) r1 (0 : Int32) h ⟨(by have : (0 : Int32).toInt = 0 := rfl; show 0 ≤ (0 : Int32).toInt ∧ (0 : Int32).toInt ≤ 4; omega), (fun k hk => rfl)⟩ (Nat.lt_succ_self _)
-- ThreadBank$Clearing.takeAll()I
set_option maxRecDepth 100000 in
set_option maxHeartbeats 4000000 in
theorem sf_17_32_c (X : qm_X) (h : qm_H) (hp : True) (Q : qm_Q) (hq : ∀ r : Int32, ∀ h' : qm_H, ((∀ k, (k < 32 ∨ 33 < k) → h' k = h k)) → Q (some (.int r)) h') : ∀ n : Nat, (∀ (l1 : Int32) (g : qm_H), ((0 ≤ l1.toInt ∧ l1.toInt ≤ 12) ∧ ∀ k, (k < 32 ∨ 33 < k) → g k = h k) → (12 - l1.toInt).toNat < n → qm_PA X 17 2 [(0, .ref 32), (1, .int l1)] [] g Q) := by
  intro n
  induction n with
  | zero => exact fun _ _ _ h0 => absurd h0 (Nat.not_lt_zero _)
  | succ n ih =>
    intro l1 g hi hr
    obtain ⟨hi0, hgf⟩ := hi
    refine qm_seg_ok (C := qc_17) (rt := some .int) rfl rfl (cuts := [(2, [0, 1])]) 400 _ _ _ _ ?_
    show (12 ≤ l1.toInt → (Q (some (.int l1)) g)) ∧ (l1.toInt < 12 → (qm_PW X 13 [.ref 32] g _))
    refine ⟨fun c1 => ?_, fun c2 => ?_⟩
    · exact hq l1 g (fun k hk => hgf k hk)
    · refine sf_13_32 X g  trivial _ (fun r3 g4 p5 => ?_)
      have f6 : ∀ k, (k < 32 ∨ 33 < k) → g4 k = h k := fun k hk => (p5.1 k (by omega)).trans (hgf k hk)
      show (r3 = 0 → (Q (some (.int l1)) g4)) ∧ (¬ r3 = 0 → (qm_PW X 18 [.ref 32] g4 _))
      refine ⟨fun c7 => ?_, fun c8 => ?_⟩
      · exact hq l1 g4 (fun k hk => f6 k hk)
      · refine sf_18_32 X g4  trivial _ (fun g9 p10 => ?_)
        have f11 : ∀ k, (k < 32 ∨ 33 < k) → g9 k = h k := fun k hk => (p10 k (by omega)).trans (f6 k hk)
        show qm_PA X 17 2 [(0, .ref 32), (1, .int (l1 + 1))] [] g9 Q
        exact ih (l1 + 1) g9 ⟨(by have := ti_addK l1 (1 : Int32) 1 rfl; show 0 ≤ (l1 + 1).toInt ∧ (l1 + 1).toInt ≤ 12; omega), (fun k hk => f11 k hk)⟩ (by have := ti_addK l1 (1 : Int32) 1 rfl; show (12 - (l1 + 1).toInt).toNat < n; omega)
set_option maxRecDepth 100000 in
set_option maxHeartbeats 4000000 in
theorem sf_17_32 (X : qm_X) (h : qm_H) (hp : True) (Q : qm_Q) (hq : ∀ r : Int32, ∀ h' : qm_H, ((∀ k, (k < 32 ∨ 33 < k) → h' k = h k)) → Q (some (.int r)) h') : qm_PW X 17 [.ref 32] h Q := by
  refine qm_seg_ok (C := qc_17) (rt := some .int) rfl rfl (cuts := [(2, [0, 1])]) 400 _ _ _ _ ?_
  show qm_PA X 17 2 [(0, .ref 32), (1, .int 0)] [] h Q
  exact (sf_17_32_c X h hp Q hq _) (0 : Int32) h ⟨(by have : (0 : Int32).toInt = 0 := rfl; show 0 ≤ (0 : Int32).toInt ∧ (0 : Int32).toInt ≤ 12; omega), (fun k hk => rfl)⟩ (Nat.lt_succ_self _)
