-- ThreadBank.kept(III)J
set_option maxRecDepth 100000 in
set_option maxHeartbeats 4000000 in
theorem sf_116_0_c (X : qm_X) (h : qm_H) (a : Int32) (b : Int32) (c : Int32) (hp : mq 1 h) (Q : qm_Q) (hq : ∀ r : Int64, (True) → Q (some (.long r)) h) : ∀ n : Nat, (∀ (l4 : Int64) (l6 : Int64) (l8 : Int32), (0 ≤ l8.toInt ∧ l8.toInt ≤ 10) → (10 - l8.toInt).toNat < n → qm_PA X 116 38 [(0, .ref 0), (1, .int a), (2, .int b), (3, .int c), (4, .long l4), (6, .long l6), (8, .int l8)] [] h Q) := by
  have hm1 : mq 1 h := hp
  have ⟨⟨_, _⟩, ⟨_, _⟩, _, _⟩ := hm1
  intro n
  induction n with
  | zero => exact fun _ _ _ _ h0 => absurd h0 (Nat.not_lt_zero _)
  | succ n ih =>
    intro l4 l6 l8 hi hr
    have ti_l8 := ti_rng l8
    refine qm_seg_ok (C := qc_116) (rt := some .long) rfl rfl (cuts := [(38, [0, 1, 2, 3, 4, 6, 8])]) 400 _ _ _ _ ?_
    show ((h 1 7).toInt ≤ l8.toInt → (qm_PW X 139 [.long (l6 - l4), .long l6, .int c] h _)) ∧ (l8.toInt < (h 1 7).toInt → (qm_PW X 49 [.ref 1, .int b, .int l8] h _))
    refine ⟨fun c1 => ?_, fun c2 => ?_⟩
    · refine sf_139 X h ((l6 - l4) : Int64) (l6 : Int64) c trivial _ (fun r3 p4 => ?_)
      show Q (some (.long r3)) h
      exact hq r3 trivial
    · refine sf_49_1 X h b l8 hm1 _ (fun r5 p6 => ?_)
      show (r5 = 0 → (qm_PA X 116 38 [(0, .ref 0), (1, .int a), (2, .int b), (3, .int c), (4, .long l4), (6, .long l6), (8, .int (l8 + 1))] [] h Q)) ∧ (¬ r5 = 0 → (qm_PW X 64 [.ref 1, .int l8, .int a] h _))
      refine ⟨fun c7 => ?_, fun c8 => ?_⟩
      · exact ih l4 l6 (l8 + 1) (by have := ti_addK l8 (1 : Int32) 1 rfl; omega) (by have := ti_addK l8 (1 : Int32) 1 rfl; omega)
      · refine sf_64_1 X h l8 a hm1 _ (fun r9 p10 => ?_)
        show qm_PA X 116 38 [(0, .ref 0), (1, .int a), (2, .int b), (3, .int c), (4, .long (l4 * (Int32.toInt64 r9))), (6, .long (l6 * 20)), (8, .int (l8 + 1))] [] h Q
        exact ih (l4 * (Int32.toInt64 r9)) (l6 * 20) (l8 + 1) (by have := ti_addK l8 (1 : Int32) 1 rfl; omega) (by have := ti_addK l8 (1 : Int32) 1 rfl; omega)
set_option maxRecDepth 100000 in
set_option maxHeartbeats 4000000 in
theorem sf_116_0 (X : qm_X) (h : qm_H) (a : Int32) (b : Int32) (c : Int32) (hp : mq 1 h) (Q : qm_Q) (hq : ∀ r : Int64, (True) → Q (some (.long r)) h) : qm_PW X 116 [.ref 0, .int a, .int b, .int c] h Q := by
  have hm1 : mq 1 h := hp
  have ⟨⟨_, _⟩, ⟨_, _⟩, _, _⟩ := hm1
  refine qm_seg_ok (C := qc_116) (rt := some .long) rfl rfl (cuts := [(38, [0, 1, 2, 3, 4, 6, 8])]) 400 _ _ _ _ ?_
  show qm_PW X 136 [.int a] h _
  refine sf_136 X h a trivial _ (fun r1 p2 => ?_)
  show (r1 = 0 → (Q (some (.long (-1 : Int64))) h)) ∧ (¬ r1 = 0 → (qm_PW X 29 [.ref 1, .int b] h _))
  refine ⟨fun c3 => ?_, fun c4 => ?_⟩
  · exact hq (-1 : Int64) trivial
  · have := p2.2 c4
    refine sf_29_1 X h b trivial _ (fun r5 p6 => ?_)
    show (r5 = 0 → (Q (some (.long (-1 : Int64))) h)) ∧ (¬ r5 = 0 → (qm_PW X 137 [.int c] h _))
    refine ⟨fun c7 => ?_, fun c8 => ?_⟩
    · exact hq (-1 : Int64) trivial
    · have := p6.2 c8
      refine sf_137 X h c trivial _ (fun r9 p10 => ?_)
      show (¬ r9 = 0 → (qm_PA X 116 38 [(0, .ref 0), (1, .int a), (2, .int b), (3, .int c), (4, .long 1), (6, .long 1), (8, .int 0)] [] h Q)) ∧ (r9 = 0 → (Q (some (.long (-1 : Int64))) h))
      refine ⟨fun c11 => ?_, fun c12 => ?_⟩
      · exact (sf_116_0_c X h a b c hp Q hq _) (1 : Int64) (1 : Int64) (0 : Int32) (by have : (0 : Int32).toInt = 0 := rfl; omega) (Nat.lt_succ_self _)
      · exact hq (-1 : Int64) trivial
-- ThreadBank.slips(II)J
set_option maxRecDepth 100000 in
set_option maxHeartbeats 4000000 in
theorem sf_117_0_c (X : qm_X) (h : qm_H) (a : Int32) (b : Int32) (hp : mq 1 h) (Q : qm_Q) (hq : ∀ r : Int64, (True) → Q (some (.long r)) h) : ∀ n : Nat, (∀ (l3 : Int64) (l5 : Int32), (0 ≤ l5.toInt ∧ l5.toInt ≤ 10) → (10 - l5.toInt).toNat < n → qm_PA X 117 23 [(0, .ref 0), (1, .int a), (2, .int b), (3, .long l3), (5, .int l5)] [] h Q) := by
  have hm1 : mq 1 h := hp
  have ⟨⟨_, _⟩, ⟨_, _⟩, _, _⟩ := hm1
  intro n
  induction n with
  | zero => exact fun _ _ _ h0 => absurd h0 (Nat.not_lt_zero _)
  | succ n ih =>
    intro l3 l5 hi hr
    have ti_l5 := ti_rng l5
    refine qm_seg_ok (C := qc_117) (rt := some .long) rfl rfl (cuts := [(23, [0, 1, 2, 3, 5])]) 400 _ _ _ _ ?_
    show ((h 1 7).toInt ≤ l5.toInt → (qm_PW X 139 [.long l3, .long 20, .int b] h _)) ∧ (l5.toInt < (h 1 7).toInt → (qm_PW X 64 [.ref 1, .int l5, .int a] h _))
    refine ⟨fun c1 => ?_, fun c2 => ?_⟩
    · refine sf_139 X h (l3 : Int64) (20 : Int64) b trivial _ (fun r3 p4 => ?_)
      show Q (some (.long r3)) h
      exact hq r3 trivial
    · refine sf_64_1 X h l5 a hm1 _ (fun r5 p6 => ?_)
      show qm_PA X 117 23 [(0, .ref 0), (1, .int a), (2, .int b), (3, .long (l3 + (Int32.toInt64 r5))), (5, .int (l5 + 1))] [] h Q
      exact ih (l3 + (Int32.toInt64 r5)) (l5 + 1) (by have := ti_addK l5 (1 : Int32) 1 rfl; omega) (by have := ti_addK l5 (1 : Int32) 1 rfl; omega)
set_option maxRecDepth 100000 in
set_option maxHeartbeats 4000000 in
theorem sf_117_0 (X : qm_X) (h : qm_H) (a : Int32) (b : Int32) (hp : mq 1 h) (Q : qm_Q) (hq : ∀ r : Int64, (True) → Q (some (.long r)) h) : qm_PW X 117 [.ref 0, .int a, .int b] h Q := by
  have hm1 : mq 1 h := hp
  have ⟨⟨_, _⟩, ⟨_, _⟩, _, _⟩ := hm1
  refine qm_seg_ok (C := qc_117) (rt := some .long) rfl rfl (cuts := [(23, [0, 1, 2, 3, 5])]) 400 _ _ _ _ ?_
  show qm_PW X 136 [.int a] h _
  refine sf_136 X h a trivial _ (fun r1 p2 => ?_)
  show (r1 = 0 → (Q (some (.long (-1 : Int64))) h)) ∧ (¬ r1 = 0 → (qm_PW X 137 [.int b] h _))
  refine ⟨fun c3 => ?_, fun c4 => ?_⟩
  · exact hq (-1 : Int64) trivial
  · have := p2.2 c4
    refine sf_137 X h b trivial _ (fun r5 p6 => ?_)
    show (¬ r5 = 0 → (qm_PA X 117 23 [(0, .ref 0), (1, .int a), (2, .int b), (3, .long 0), (5, .int 0)] [] h Q)) ∧ (r5 = 0 → (Q (some (.long (-1 : Int64))) h))
    refine ⟨fun c7 => ?_, fun c8 => ?_⟩
    · exact (sf_117_0_c X h a b hp Q hq _) (0 : Int64) (0 : Int32) (by have : (0 : Int32).toInt = 0 := rfl; omega) (Nat.lt_succ_self _)
    · exact hq (-1 : Int64) trivial
-- ThreadBank.none(II)J
set_option maxRecDepth 100000 in
set_option maxHeartbeats 4000000 in
theorem sf_118_0_c (X : qm_X) (h : qm_H) (a : Int32) (b : Int32) (hp : mq 1 h) (Q : qm_Q) (hq : ∀ r : Int64, (True) → Q (some (.long r)) h) : ∀ n : Nat, (∀ (l3 : Int64) (l5 : Int64) (l7 : Int32), (0 ≤ l7.toInt ∧ l7.toInt ≤ 10) → (10 - l7.toInt).toNat < n → qm_PA X 118 26 [(0, .ref 0), (1, .int a), (2, .int b), (3, .long l3), (5, .long l5), (7, .int l7)] [] h Q) := by
  have hm1 : mq 1 h := hp
  have ⟨⟨_, _⟩, ⟨_, _⟩, _, _⟩ := hm1
  intro n
  induction n with
  | zero => exact fun _ _ _ _ h0 => absurd h0 (Nat.not_lt_zero _)
  | succ n ih =>
    intro l3 l5 l7 hi hr
    have ti_l7 := ti_rng l7
    refine qm_seg_ok (C := qc_118) (rt := some .long) rfl rfl (cuts := [(26, [0, 1, 2, 3, 5, 7])]) 400 _ _ _ _ ?_
    show ((h 1 7).toInt ≤ l7.toInt → (qm_PW X 139 [.long l3, .long l5, .int b] h _)) ∧ (l7.toInt < (h 1 7).toInt → (qm_PW X 64 [.ref 1, .int l7, .int a] h _))
    refine ⟨fun c1 => ?_, fun c2 => ?_⟩
    · refine sf_139 X h (l3 : Int64) (l5 : Int64) b trivial _ (fun r3 p4 => ?_)
      show Q (some (.long r3)) h
      exact hq r3 trivial
    · refine sf_64_1 X h l7 a hm1 _ (fun r5 p6 => ?_)
      show qm_PA X 118 26 [(0, .ref 0), (1, .int a), (2, .int b), (3, .long (l3 * (Int32.toInt64 (20 - r5)))), (5, .long (l5 * 20)), (7, .int (l7 + 1))] [] h Q
      exact ih (l3 * (Int32.toInt64 (20 - r5))) (l5 * 20) (l7 + 1) (by have := ti_addK l7 (1 : Int32) 1 rfl; omega) (by have := ti_addK l7 (1 : Int32) 1 rfl; omega)
set_option maxRecDepth 100000 in
set_option maxHeartbeats 4000000 in
theorem sf_118_0 (X : qm_X) (h : qm_H) (a : Int32) (b : Int32) (hp : mq 1 h) (Q : qm_Q) (hq : ∀ r : Int64, (True) → Q (some (.long r)) h) : qm_PW X 118 [.ref 0, .int a, .int b] h Q := by
  have hm1 : mq 1 h := hp
  have ⟨⟨_, _⟩, ⟨_, _⟩, _, _⟩ := hm1
  refine qm_seg_ok (C := qc_118) (rt := some .long) rfl rfl (cuts := [(26, [0, 1, 2, 3, 5, 7])]) 400 _ _ _ _ ?_
  show qm_PW X 136 [.int a] h _
  refine sf_136 X h a trivial _ (fun r1 p2 => ?_)
  show (r1 = 0 → (Q (some (.long (-1 : Int64))) h)) ∧ (¬ r1 = 0 → (qm_PW X 137 [.int b] h _))
  refine ⟨fun c3 => ?_, fun c4 => ?_⟩
  · exact hq (-1 : Int64) trivial
  · have := p2.2 c4
    refine sf_137 X h b trivial _ (fun r5 p6 => ?_)
    show (¬ r5 = 0 → (qm_PA X 118 26 [(0, .ref 0), (1, .int a), (2, .int b), (3, .long 1), (5, .long 1), (7, .int 0)] [] h Q)) ∧ (r5 = 0 → (Q (some (.long (-1 : Int64))) h))
    refine ⟨fun c7 => ?_, fun c8 => ?_⟩
    · exact (sf_118_0_c X h a b hp Q hq _) (1 : Int64) (1 : Int64) (0 : Int32) (by have : (0 : Int32).toInt = 0 := rfl; omega) (Nat.lt_succ_self _)
    · exact hq (-1 : Int64) trivial
-- ThreadBank.drift(III)I
set_option maxRecDepth 100000 in
set_option maxHeartbeats 4000000 in
theorem sf_122_0_c (X : qm_X) (h : qm_H) (a : Int32) (b : Int32) (c : Int32) (hp : mq 1 h) (Q : qm_Q) (hq : ∀ r : Int32, (True) → Q (some (.int r)) h) : ∀ n : Nat, (∀ (l4 : Int32) (l5 : Int32) (l6 : Int32), (0 ≤ l6.toInt ∧ l6.toInt ≤ 20 ∧ b.toInt ≤ 20) → ((20 - l6.toInt) * 100 + 50).toNat < n → qm_PA X 122 35 [(0, .ref 0), (1, .int a), (2, .int b), (3, .int c), (4, .int l4), (5, .int l5), (6, .int l6)] [] h Q) ∧ (∀ (l4 : Int32) (l5 : Int32) (l6 : Int32) (l7 : Int32), (0 ≤ l6.toInt ∧ l6.toInt ≤ 19 ∧ 0 ≤ l7.toInt ∧ l7.toInt ≤ 10 ∧ b.toInt ≤ 20) → ((20 - l6.toInt) * 100 + 40 - l7.toInt).toNat < n → qm_PA X 122 44 [(0, .ref 0), (1, .int a), (2, .int b), (3, .int c), (4, .int l4), (5, .int l5), (6, .int l6), (7, .int l7)] [] h Q) := by
  have hm1 : mq 1 h := hp
  have ⟨⟨_, _⟩, ⟨_, _⟩, _, _⟩ := hm1
  intro n
  induction n with
  | zero => exact ⟨fun _ _ _ _ h0 => absurd h0 (Nat.not_lt_zero _), fun _ _ _ _ _ h0 => absurd h0 (Nat.not_lt_zero _)⟩
  | succ n ih =>
    refine ⟨?_, ?_⟩
    · intro l4 l5 l6 hi hr
      refine qm_seg_ok (C := qc_122) (rt := some .int) rfl rfl (cuts := [(35, [0, 1, 2, 3, 4, 5, 6]), (44, [0, 1, 2, 3, 4, 5, 6, 7])]) 400 _ _ _ _ ?_
      show (b.toInt ≤ l6.toInt → (Q (some (.int l4)) h)) ∧ (l6.toInt < b.toInt → (qm_PA X 122 44 [(0, .ref 0), (1, .int a), (2, .int b), (3, .int c), (4, .int l4), (5, .int l5), (6, .int l6), (7, .int 0)] [] h Q))
      refine ⟨fun c1 => ?_, fun c2 => ?_⟩
      · exact hq l4 trivial
      · exact ih.2 l4 l5 l6 (0 : Int32) (by have : (0 : Int32).toInt = 0 := rfl; omega) (by have : (0 : Int32).toInt = 0 := rfl; omega)
    · intro l4 l5 l6 l7 hi hr
      refine qm_seg_ok (C := qc_122) (rt := some .int) rfl rfl (cuts := [(35, [0, 1, 2, 3, 4, 5, 6]), (44, [0, 1, 2, 3, 4, 5, 6, 7])]) 400 _ _ _ _ ?_
      show ((h 1 7).toInt ≤ l7.toInt → (qm_PA X 122 35 [(0, .ref 0), (1, .int a), (2, .int b), (3, .int c), (4, .int l4), (5, .int l5), (6, .int (l6 + 1))] [] h Q)) ∧ (l7.toInt < (h 1 7).toInt → (qm_PW X 138 [.int l4, .int l7] h _))
      refine ⟨fun c1 => ?_, fun c2 => ?_⟩
      · exact ih.1 l4 l5 (l6 + 1) (by have := ti_addK l6 (1 : Int32) 1 rfl; omega) (by have := ti_addK l6 (1 : Int32) 1 rfl; omega)
      · refine sf_138 X h l4 l7 trivial _ (fun r3 p4 => ?_)
        show (r3 = 0 → (qm_PA X 122 44 [(0, .ref 0), (1, .int a), (2, .int b), (3, .int c), (4, .int l4), (5, .int l5), (6, .int l6), (7, .int (l7 + 1))] [] h Q)) ∧ (¬ r3 = 0 → (¬ (20 : Int32) = 0 ∧ (qm_PW X 64 [.ref 1, .int l7, .int c] h _)))
        refine ⟨fun c5 => ?_, fun c6 => ?_⟩
        · exact ih.2 l4 l5 l6 (l7 + 1) (by have := ti_addK l7 (1 : Int32) 1 rfl; omega) (by have := ti_addK l7 (1 : Int32) 1 rfl; omega)
        · refine ⟨by decide, ?_⟩
          refine sf_64_1 X h l7 c hm1 _ (fun r7 p8 => ?_)
          show (r7.toInt ≤ (((((Int32.toUInt32 ((l5 * 1103515245) + 12345)) >>> ((Int32.toUInt32 16) &&& Int32.toUInt32 31)).toInt32) &&& 32767) - ((((Int32.toUInt32 ((l5 * 1103515245) + 12345)) >>> ((Int32.toUInt32 16) &&& Int32.toUInt32 31)).toInt32) &&& 32767) / 20 * 20).toInt → (((0 : Int32) = 0 → (qm_PA X 122 44 [(0, .ref 0), (1, .int a), (2, .int b), (3, .int c), (4, .int l4), (5, .int ((l5 * 1103515245) + 12345)), (6, .int l6), (7, .int (l7 + 1))] [] h Q)) ∧ (¬ (0 : Int32) = 0 → (qm_PA X 122 44 [(0, .ref 0), (1, .int a), (2, .int b), (3, .int c), (4, .int (l4 &&& ((1 <<< (l7 &&& 31)) ^^^ (-1 : Int32)))), (5, .int ((l5 * 1103515245) + 12345)), (6, .int l6), (7, .int (l7 + 1))] [] h Q)))) ∧ ((((((Int32.toUInt32 ((l5 * 1103515245) + 12345)) >>> ((Int32.toUInt32 16) &&& Int32.toUInt32 31)).toInt32) &&& 32767) - ((((Int32.toUInt32 ((l5 * 1103515245) + 12345)) >>> ((Int32.toUInt32 16) &&& Int32.toUInt32 31)).toInt32) &&& 32767) / 20 * 20).toInt < r7.toInt → (((1 : Int32) = 0 → (qm_PA X 122 44 [(0, .ref 0), (1, .int a), (2, .int b), (3, .int c), (4, .int l4), (5, .int ((l5 * 1103515245) + 12345)), (6, .int l6), (7, .int (l7 + 1))] [] h Q)) ∧ (¬ (1 : Int32) = 0 → (qm_PA X 122 44 [(0, .ref 0), (1, .int a), (2, .int b), (3, .int c), (4, .int (l4 &&& ((1 <<< (l7 &&& 31)) ^^^ (-1 : Int32)))), (5, .int ((l5 * 1103515245) + 12345)), (6, .int l6), (7, .int (l7 + 1))] [] h Q))))
          refine ⟨fun c9 => ?_, fun c10 => ?_⟩
          · refine ⟨fun c11 => ?_, fun c12 => ?_⟩
            · exact ih.2 l4 ((l5 * 1103515245) + 12345) l6 (l7 + 1) (by have := ti_addK l7 (1 : Int32) 1 rfl; have := ti_rem (20 : Int32) 20 rfl ((((Int32.toUInt32 ((l5 * 1103515245) + 12345)) >>> ((Int32.toUInt32 16) &&& Int32.toUInt32 31)).toInt32) &&& 32767) (by decide); have := ti_mulR (1103515245 : Int32) 1103515245 rfl l5; omega) (by have := ti_addK l7 (1 : Int32) 1 rfl; have := ti_rem (20 : Int32) 20 rfl ((((Int32.toUInt32 ((l5 * 1103515245) + 12345)) >>> ((Int32.toUInt32 16) &&& Int32.toUInt32 31)).toInt32) &&& 32767) (by decide); have := ti_mulR (1103515245 : Int32) 1103515245 rfl l5; omega)
            · exact absurd c12 (by decide)
          · refine ⟨fun c13 => ?_, fun c14 => ?_⟩
            · exact absurd c13 (by decide)
            · exact ih.2 (l4 &&& ((1 <<< (l7 &&& 31)) ^^^ (-1 : Int32))) ((l5 * 1103515245) + 12345) l6 (l7 + 1) (by have := ti_addK l7 (1 : Int32) 1 rfl; have := ti_rem (20 : Int32) 20 rfl ((((Int32.toUInt32 ((l5 * 1103515245) + 12345)) >>> ((Int32.toUInt32 16) &&& Int32.toUInt32 31)).toInt32) &&& 32767) (by decide); have := ti_mulR (1103515245 : Int32) 1103515245 rfl l5; omega) (by have := ti_addK l7 (1 : Int32) 1 rfl; have := ti_rem (20 : Int32) 20 rfl ((((Int32.toUInt32 ((l5 * 1103515245) + 12345)) >>> ((Int32.toUInt32 16) &&& Int32.toUInt32 31)).toInt32) &&& 32767) (by decide); have := ti_mulR (1103515245 : Int32) 1103515245 rfl l5; omega)
set_option maxRecDepth 100000 in
set_option maxHeartbeats 4000000 in
theorem sf_122_0 (X : qm_X) (h : qm_H) (a : Int32) (b : Int32) (c : Int32) (hp : mq 1 h) (Q : qm_Q) (hq : ∀ r : Int32, (True) → Q (some (.int r)) h) : qm_PW X 122 [.ref 0, .int a, .int b, .int c] h Q := by
  have hm1 : mq 1 h := hp
  have ⟨⟨_, _⟩, ⟨_, _⟩, _, _⟩ := hm1
  refine qm_seg_ok (C := qc_122) (rt := some .int) rfl rfl (cuts := [(35, [0, 1, 2, 3, 4, 5, 6]), (44, [0, 1, 2, 3, 4, 5, 6, 7])]) 400 _ _ _ _ ?_
  show (b.toInt < 1 → (Q (some (.int (-1 : Int32))) h)) ∧ (1 ≤ b.toInt → ((20 < b.toInt → (Q (some (.int (-1 : Int32))) h)) ∧ (b.toInt ≤ 20 → (qm_PW X 136 [.int c] h _))))
  refine ⟨fun c1 => ?_, fun c2 => ?_⟩
  · exact hq (-1 : Int32) trivial
  · refine ⟨fun c3 => ?_, fun c4 => ?_⟩
    · exact hq (-1 : Int32) trivial
    · refine sf_136 X h c trivial _ (fun r5 p6 => ?_)
      show (¬ r5 = 0 → (qm_PW X 34 [.ref 1] h _)) ∧ (r5 = 0 → (Q (some (.int (-1 : Int32))) h))
      refine ⟨fun c7 => ?_, fun c8 => ?_⟩
      · have := p6.2 c7
        refine sf_34_1 X h  hm1 _ (fun r9 p10 => ?_)
        show qm_PA X 122 35 [(0, .ref 0), (1, .int a), (2, .int b), (3, .int c), (4, .int r9), (5, .int a), (6, .int 0)] [] h Q
        exact (sf_122_0_c X h a b c hp Q hq _).1 r9 a (0 : Int32) (by have : (0 : Int32).toInt = 0 := rfl; omega) (Nat.lt_succ_self _)
      · exact hq (-1 : Int32) trivial
-- ThreadBank.torn()I
set_option maxRecDepth 100000 in
set_option maxHeartbeats 4000000 in
theorem sf_128_0 (X : qm_X) (h : qm_H) (hp : True) (Q : qm_Q) (hq : ∀ r : Int32, (True) → Q (some (.int r)) h) : qm_PW X 128 [.ref 0] h Q := by
  refine qm_seg_ok (C := qc_128) (rt := some .int) rfl rfl (cuts := []) 400 _ _ _ _ ?_
  show Q (some (.int (h 0 8))) h
  exact hq (h 0 8) trivial
-- ThreadBank.count(I)I
set_option maxRecDepth 100000 in
set_option maxHeartbeats 4000000 in
theorem sf_129_0 (X : qm_X) (h : qm_H) (a : Int32) (hp : mq 1 h) (Q : qm_Q) (hq : ∀ r : Int32, (True) → Q (some (.int r)) h) : qm_PW X 129 [.ref 0, .int a] h Q := by
  have hm1 : mq 1 h := hp
  have ⟨⟨_, _⟩, ⟨_, _⟩, _, _⟩ := hm1
  refine qm_seg_ok (C := qc_129) (rt := some .int) rfl rfl (cuts := []) 400 _ _ _ _ ?_
  show ((a = 0 → (qm_PW X 60 [.ref 1] h _)) ∧ (¬ a = 0 → ((a = 1 → (qm_PW X 52 [.ref 1] h _)) ∧ (¬ a = 1 → ((a = 2 → (Q (some (.int (h 1 9))) h)) ∧ (¬ a = 2 → ((a = 3 → ((0 ≤ (0 : Int) ∧ (0 : Int) < 2) ∧ (((h 22 0) = 0 → ((0 ≤ (1 : Int) ∧ (1 : Int) < 2) ∧ (((h 22 1) = 0 → (Q (some (.int (0 + 0))) h)) ∧ (¬ (h 22 1) = 0 → (Q (some (.int (0 + 1))) h))))) ∧ (¬ (h 22 0) = 0 → ((0 ≤ (1 : Int) ∧ (1 : Int) < 2) ∧ (((h 22 1) = 0 → (Q (some (.int (1 + 0))) h)) ∧ (¬ (h 22 1) = 0 → (Q (some (.int (1 + 1))) h)))))))) ∧ (¬ a = 3 → ((a = 4 → (Q (some (.int (h 23 2))) h)) ∧ (¬ a = 4 → ((a = 5 → (qm_PW X 67 [.ref 34, .int 0] h _)) ∧ (¬ a = 5 → (Q (some (.int (-1 : Int32))) h)))))))))))))
  refine ⟨fun c1 => ?_, fun c2 => ?_⟩
  · refine sf_60_1 X h  hm1 _ (fun r3 p4 => ?_)
    show Q (some (.int r3)) h
    exact hq r3 trivial
  · refine ⟨fun c5 => ?_, fun c6 => ?_⟩
    · refine sf_52_1 X h  hm1 _ (fun r7 p8 => ?_)
      show Q (some (.int r7)) h
      exact hq r7 trivial
    · refine ⟨fun c9 => ?_, fun c10 => ?_⟩
      · exact hq (h 1 9) trivial
      · refine ⟨fun c11 => ?_, fun c12 => ?_⟩
        · refine ⟨by decide, ?_⟩
          refine ⟨fun c13 => ?_, fun c14 => ?_⟩
          · refine ⟨by decide, ?_⟩
            refine ⟨fun c15 => ?_, fun c16 => ?_⟩
            · exact hq (0 + 0) trivial
            · exact hq (0 + 1) trivial
          · refine ⟨by decide, ?_⟩
            refine ⟨fun c17 => ?_, fun c18 => ?_⟩
            · exact hq (1 + 0) trivial
            · exact hq (1 + 1) trivial
        · refine ⟨fun c19 => ?_, fun c20 => ?_⟩
          · exact hq (h 23 2) trivial
          · refine ⟨fun c21 => ?_, fun c22 => ?_⟩
            · refine sf_67_34 X h (0 : Int32) trivial _ (fun r23 p24 => ?_)
              show (r23 = 0 → ((0 ≤ (0 : Int) ∧ (0 : Int) < 4) ∧ (Q (some (.int (h 37 0))) h))) ∧ (¬ r23 = 0 → (Q (some (.int (-4 : Int32))) h))
              refine ⟨fun c25 => ?_, fun c26 => ?_⟩
              · have := p24.2 c25
                refine ⟨by decide, ?_⟩
                exact hq (h 37 0) trivial
              · exact hq (-4 : Int32) trivial
            · exact hq (-1 : Int32) trivial
