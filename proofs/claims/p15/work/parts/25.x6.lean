-- ThreadBank$TextReader.byteAt(I)I
set_option maxRecDepth 100000 in
set_option maxHeartbeats 4000000 in
theorem sf_87_23 (X : qm_X) (h : qm_H) (a : Int32) (hp : True) (Q : qm_Q) (hq : ∀ r : Int32, (True) → Q (some (.int r)) h) : qm_PW X 87 [.ref 23, .int a] h Q := by
  refine qm_seg_ok (C := qc_87) (rt := some .int) rfl rfl (cuts := []) 400 _ _ _ _ ?_
  show (a.toInt < 0 → (Q (some (.int (-1 : Int32))) h)) ∧ (0 ≤ a.toInt → (((h 23 2).toInt ≤ a.toInt → (Q (some (.int (-1 : Int32))) h)) ∧ (a.toInt < (h 23 2).toInt → ((160 ≤ a.toInt → (Q (some (.int (-1 : Int32))) h)) ∧ (a.toInt < 160 → ((0 ≤ a.toInt ∧ a.toInt < 160) ∧ (Q (some (.int (h 24 a.toInt.toNat))) h)))))))
  refine ⟨fun c1 => ?_, fun c2 => ?_⟩
  · exact hq (-1 : Int32) trivial
  · refine ⟨fun c3 => ?_, fun c4 => ?_⟩
    · exact hq (-1 : Int32) trivial
    · refine ⟨fun c5 => ?_, fun c6 => ?_⟩
      · exact hq (-1 : Int32) trivial
      · refine ⟨(by omega), ?_⟩
        exact hq (h 24 a.toInt.toNat) trivial
-- ThreadBank$TextReader.endOfRun(III)I
set_option maxRecDepth 100000 in
set_option maxHeartbeats 4000000 in
theorem sf_86_23_c (X : qm_X) (h : qm_H) (a : Int32) (b : Int32) (c : Int32) (hp : True) (Q : qm_Q) (hq : ∀ r : Int32, (True) → Q (some (.int r)) h) : ∀ n : Nat, (∀ (l4 : Int32), (0 ≤ l4.toInt) → (160 - l4.toInt).toNat < n → qm_PA X 86 7 [(0, .ref 23), (1, .int a), (2, .int b), (3, .int c), (4, .int l4)] [] h Q) := by
  intro n
  induction n with
  | zero => exact fun _ _ h0 => absurd h0 (Nat.not_lt_zero _)
  | succ n ih =>
    intro l4 hi hr
    refine qm_seg_ok (C := qc_86) (rt := some .int) rfl rfl (cuts := [(7, [0, 1, 2, 3, 4])]) 400 _ _ _ _ ?_
    show ((h 23 2).toInt ≤ l4.toInt → (Q (some (.int l4)) h)) ∧ (l4.toInt < (h 23 2).toInt → ((160 ≤ l4.toInt → (Q (some (.int l4)) h)) ∧ (l4.toInt < 160 → ((0 ≤ l4.toInt ∧ l4.toInt < 160) ∧ (((h 24 l4.toInt.toNat).toInt < b.toInt → (Q (some (.int l4)) h)) ∧ (b.toInt ≤ (h 24 l4.toInt.toNat).toInt → ((0 ≤ l4.toInt ∧ l4.toInt < 160) ∧ ((c.toInt < (h 24 l4.toInt.toNat).toInt → (Q (some (.int l4)) h)) ∧ ((h 24 l4.toInt.toNat).toInt ≤ c.toInt → (qm_PA X 86 7 [(0, .ref 23), (1, .int a), (2, .int b), (3, .int c), (4, .int (l4 + 1))] [] h Q))))))))))
    refine ⟨fun c1 => ?_, fun c2 => ?_⟩
    · exact hq l4 trivial
    · refine ⟨fun c3 => ?_, fun c4 => ?_⟩
      · exact hq l4 trivial
      · refine ⟨(by omega), ?_⟩
        refine ⟨fun c5 => ?_, fun c6 => ?_⟩
        · exact hq l4 trivial
        · refine ⟨(by omega), ?_⟩
          refine ⟨fun c7 => ?_, fun c8 => ?_⟩
          · exact hq l4 trivial
          · exact ih (l4 + 1) (by have := ti_addK l4 (1 : Int32) 1 rfl; omega) (by have := ti_addK l4 (1 : Int32) 1 rfl; omega)
set_option maxRecDepth 100000 in
set_option maxHeartbeats 4000000 in
theorem sf_86_23 (X : qm_X) (h : qm_H) (a : Int32) (b : Int32) (c : Int32) (hp : True) (Q : qm_Q) (hq : ∀ r : Int32, (True) → Q (some (.int r)) h) : qm_PW X 86 [.ref 23, .int a, .int b, .int c] h Q := by
  refine qm_seg_ok (C := qc_86) (rt := some .int) rfl rfl (cuts := [(7, [0, 1, 2, 3, 4])]) 400 _ _ _ _ ?_
  show qm_PW X 1 [.int 0, .int a] h _
  refine sf_1 X h (0 : Int32) a trivial _ (fun r1 p2 => ?_)
  show qm_PA X 86 7 [(0, .ref 23), (1, .int a), (2, .int b), (3, .int c), (4, .int r1)] [] h Q
  exact (sf_86_23_c X h a b c hp Q hq _) r1 (by have : (0 : Int32).toInt = 0 := rfl; omega) (Nat.lt_succ_self _)
-- ThreadBank$TextReader.fail(II)Z
set_option maxRecDepth 100000 in
set_option maxHeartbeats 4000000 in
theorem sf_78_23 (X : qm_X) (h : qm_H) (a : Int32) (b : Int32) (hp : True) (Q : qm_Q) (hq : ∀ r : Int32, ∀ h' : qm_H, ((∀ k, (k < 23 ∨ 23 < k) → h' k = h k) ∧ (r = 0)) → Q (some (.int r)) h') : qm_PW X 78 [.ref 23, .int a, .int b] h Q := by
  refine qm_seg_ok (C := qc_78) (rt := some .boolean) rfl rfl (cuts := []) 400 _ _ _ _ ?_
  show ((0 : Int32) = 0 ∨ (0 : Int32) = 1) ∧ Q (some (.int 0)) (qm_row (qm_row h 23 (upd (h 23) 4 a)) 23 (upd (upd (h 23) 4 a) 5 b))
  exact ⟨Or.inl rfl, hq 0 (qm_row (qm_row h 23 (upd (h 23) 4 a)) 23 (upd (upd (h 23) 4 a) 5 b)) ⟨(fun k hk => by simp only [qm_row]; rw [if_neg (by omega)]; rw [if_neg (by omega)]), (by rfl)⟩⟩
-- ThreadBank$TextReader.append(I)Z
set_option maxRecDepth 100000 in
set_option maxHeartbeats 4000000 in
theorem sf_75_23 (X : qm_X) (h : qm_H) (a : Int32) (hp : True) (Q : qm_Q) (hq : ∀ r : Int32, ∀ h' : qm_H, ((∀ k, (k < 23 ∨ 24 < k) → h' k = h k) ∧ ((r = 0 ∨ r = 1) ∧ (¬ r = 0 → (0 ≤ (h 23 2).toInt ∧ (h 23 2).toInt < 160) ∧ (h' 23 2).toInt = (h 23 2).toInt + 1) ∧ (r = 0 → ((h 23 2).toInt < 0 ∨ 160 ≤ (h 23 2).toInt) ∧ (h' 23 2).toInt = (h 23 2).toInt))) → Q (some (.int r)) h') : qm_PW X 75 [.ref 23, .int a] h Q := by
  refine qm_seg_ok (C := qc_75) (rt := some .boolean) rfl rfl (cuts := []) 400 _ _ _ _ ?_
  show ((h 23 2).toInt < 0 → (((0 : Int32) = 0 ∨ (0 : Int32) = 1) ∧ Q (some (.int 0)) h)) ∧ (0 ≤ (h 23 2).toInt → (((h 23 2).toInt < 160 → ((0 ≤ (h 23 2).toInt ∧ (h 23 2).toInt < 160) ∧ (((1 : Int32) = 0 ∨ (1 : Int32) = 1) ∧ Q (some (.int 1)) (qm_row (qm_row h 24 (upd (h 24) (h 23 2).toInt.toNat ((Int32.toInt8 ((Int32.toInt8 a).toInt32)).toInt32))) 23 (upd (h 23) 2 ((h 23 2) + 1)))))) ∧ (160 ≤ (h 23 2).toInt → (((0 : Int32) = 0 ∨ (0 : Int32) = 1) ∧ Q (some (.int 0)) h))))
  refine ⟨fun c1 => ?_, fun c2 => ?_⟩
  · exact ⟨Or.inl rfl, hq 0 h ⟨(fun k hk => rfl), (by show ((0 : Int32) = 0 ∨ (0 : Int32) = 1) ∧ (¬ (0 : Int32) = 0 → (0 ≤ (h 23 2).toInt ∧ (h 23 2).toInt < 160) ∧ (h 23 2).toInt = (h 23 2).toInt + 1) ∧ ((0 : Int32) = 0 → ((h 23 2).toInt < 0 ∨ 160 ≤ (h 23 2).toInt) ∧ (h 23 2).toInt = (h 23 2).toInt); first | exact ⟨Or.inl rfl, fun hc => absurd rfl hc, fun _ => by omega⟩ | exact ⟨Or.inr rfl, fun _ => by omega, fun hc => absurd hc (by decide)⟩)⟩⟩
  · refine ⟨fun c3 => ?_, fun c4 => ?_⟩
    · refine ⟨(by omega), ?_⟩
      exact ⟨Or.inr rfl, hq 1 (qm_row (qm_row h 24 (upd (h 24) (h 23 2).toInt.toNat ((Int32.toInt8 ((Int32.toInt8 a).toInt32)).toInt32))) 23 (upd (h 23) 2 ((h 23 2) + 1))) ⟨(fun k hk => by simp only [qm_row]; rw [if_neg (by omega)]; rw [if_neg (by omega)]), (by have := ti_addK (h 23 2) (1 : Int32) 1 rfl; show ((1 : Int32) = 0 ∨ (1 : Int32) = 1) ∧ (¬ (1 : Int32) = 0 → (0 ≤ (h 23 2).toInt ∧ (h 23 2).toInt < 160) ∧ ((h 23 2) + 1).toInt = (h 23 2).toInt + 1) ∧ ((1 : Int32) = 0 → ((h 23 2).toInt < 0 ∨ 160 ≤ (h 23 2).toInt) ∧ ((h 23 2) + 1).toInt = (h 23 2).toInt); first | exact ⟨Or.inl rfl, fun hc => absurd rfl hc, fun _ => by omega⟩ | exact ⟨Or.inr rfl, fun _ => by omega, fun hc => absurd hc (by decide)⟩)⟩⟩
    · exact ⟨Or.inl rfl, hq 0 h ⟨(fun k hk => rfl), (by show ((0 : Int32) = 0 ∨ (0 : Int32) = 1) ∧ (¬ (0 : Int32) = 0 → (0 ≤ (h 23 2).toInt ∧ (h 23 2).toInt < 160) ∧ (h 23 2).toInt = (h 23 2).toInt + 1) ∧ ((0 : Int32) = 0 → ((h 23 2).toInt < 0 ∨ 160 ≤ (h 23 2).toInt) ∧ (h 23 2).toInt = (h 23 2).toInt); first | exact ⟨Or.inl rfl, fun hc => absurd rfl hc, fun _ => by omega⟩ | exact ⟨Or.inr rfl, fun _ => by omega, fun hc => absurd hc (by decide)⟩)⟩⟩
-- ThreadBank$TextReader.begin()V
set_option maxRecDepth 100000 in
set_option maxHeartbeats 4000000 in
theorem sf_77_23 (X : qm_X) (h : qm_H) (hp : True) (Q : qm_Q) (hq : ∀ h' : qm_H, (mq 25 h' ∧ (∀ k, (k < 23 ∨ 25 < k) → h' k = h k)) → Q none h') : qm_PW X 77 [.ref 23] h Q := by
  refine qm_seg_ok (C := qc_77) (rt := none) rfl rfl (cuts := []) 400 _ _ _ _ ?_
  show qm_PW X 22 [.ref 25] h _
  refine sf_22_25 X h  trivial _ (fun g1 p2 => ?_)
  have f3 : ∀ k, (k < 23 ∨ 25 < k) → g1 k = h k := fun k hk => (p2.2 k (by omega)).trans (rfl)
  show ((0 : Int32) = 0 ∨ (0 : Int32) = 1) ∧ (Q none (qm_row (qm_row (qm_row (qm_row (qm_row g1 23 (upd (g1 23) 3 0)) 23 (upd (upd (g1 23) 3 0) 4 0)) 23 (upd (upd (upd (g1 23) 3 0) 4 0) 5 0)) 23 (upd (upd (upd (upd (g1 23) 3 0) 4 0) 5 0) 6 0)) 23 (upd (upd (upd (upd (upd (g1 23) 3 0) 4 0) 5 0) 6 0) 10 0)))
  refine ⟨Or.inl rfl, ?_⟩
  exact hq (qm_row (qm_row (qm_row (qm_row (qm_row g1 23 (upd (g1 23) 3 0)) 23 (upd (upd (g1 23) 3 0) 4 0)) 23 (upd (upd (upd (g1 23) 3 0) 4 0) 5 0)) 23 (upd (upd (upd (upd (g1 23) 3 0) 4 0) 5 0) 6 0)) 23 (upd (upd (upd (upd (upd (g1 23) 3 0) 4 0) 5 0) 6 0) 10 0)) ⟨(by exact p2.1), (fun k hk => by simp only [qm_row]; rw [if_neg (by omega)]; rw [if_neg (by omega)]; rw [if_neg (by omega)]; rw [if_neg (by omega)]; rw [if_neg (by omega)]; exact f3 k hk)⟩
-- ThreadBank$TextReader.nextToken()Z
set_option maxRecDepth 100000 in
set_option maxHeartbeats 4000000 in
theorem sf_85_23 (X : qm_X) (h : qm_H) (hp : True) (Q : qm_Q) (hq : ∀ r : Int32, ∀ h' : qm_H, ((∀ k, (k < 23 ∨ 23 < k) → h' k = h k) ∧ (r = 0 ∨ r = 1)) → Q (some (.int r)) h') : qm_PW X 85 [.ref 23] h Q := by
  refine qm_seg_ok (C := qc_85) (rt := some .boolean) rfl rfl (cuts := []) 400 _ _ _ _ ?_
  show qm_PW X 86 [.ref 23, .int (h 23 6), .int 32, .int 32] h _
  refine sf_86_23 X h (h 23 6) (32 : Int32) (32 : Int32) trivial _ (fun r1 p2 => ?_)
  show (r1.toInt < (h 23 2).toInt → (qm_PW X 87 [.ref 23, .int r1] (qm_row (qm_row h 23 (upd (h 23) 8 r1)) 23 (upd (upd (h 23) 8 r1) 6 r1)) _)) ∧ ((h 23 2).toInt ≤ r1.toInt → (((1 : Int32) = 0 ∨ (1 : Int32) = 1) ∧ Q (some (.int 1)) (qm_row (qm_row (qm_row h 23 (upd (h 23) 8 r1)) 23 (upd (upd (h 23) 8 r1) 6 r1)) 23 (upd (upd (upd (h 23) 8 r1) 6 r1) 7 0))))
  refine ⟨fun c3 => ?_, fun c4 => ?_⟩
  · refine sf_87_23 X (qm_row (qm_row h 23 (upd (h 23) 8 r1)) 23 (upd (upd (h 23) 8 r1) 6 r1)) r1 trivial _ (fun r5 p6 => ?_)
    show (¬ r5 = 59 → (qm_PW X 86 [.ref 23, .int r1, .int 97, .int 122] (qm_row (qm_row h 23 (upd (h 23) 8 r1)) 23 (upd (upd (h 23) 8 r1) 6 r1)) _)) ∧ (r5 = 59 → (((1 : Int32) = 0 ∨ (1 : Int32) = 1) ∧ Q (some (.int 1)) (qm_row (qm_row (qm_row (qm_row h 23 (upd (h 23) 8 r1)) 23 (upd (upd (h 23) 8 r1) 6 r1)) 23 (upd (upd (upd (h 23) 8 r1) 6 r1) 7 3)) 23 (upd (upd (upd (upd (h 23) 8 r1) 6 r1) 7 3) 6 (r1 + 1)))))
    refine ⟨fun c7 => ?_, fun c8 => ?_⟩
    · refine sf_86_23 X (qm_row (qm_row h 23 (upd (h 23) 8 r1)) 23 (upd (upd (h 23) 8 r1) 6 r1)) r1 (97 : Int32) (122 : Int32) trivial _ (fun r9 p10 => ?_)
      show (r9.toInt ≤ r1.toInt → (qm_PW X 86 [.ref 23, .int r1, .int 48, .int 57] (qm_row (qm_row (qm_row h 23 (upd (h 23) 8 r1)) 23 (upd (upd (h 23) 8 r1) 6 r1)) 23 (upd (upd (upd (h 23) 8 r1) 6 r1) 6 r9)) _)) ∧ (r1.toInt < r9.toInt → (((1 : Int32) = 0 ∨ (1 : Int32) = 1) ∧ Q (some (.int 1)) (qm_row (qm_row (qm_row (qm_row h 23 (upd (h 23) 8 r1)) 23 (upd (upd (h 23) 8 r1) 6 r1)) 23 (upd (upd (upd (h 23) 8 r1) 6 r1) 6 r9)) 23 (upd (upd (upd (upd (h 23) 8 r1) 6 r1) 6 r9) 7 1))))
      refine ⟨fun c11 => ?_, fun c12 => ?_⟩
      · refine sf_86_23 X (qm_row (qm_row (qm_row h 23 (upd (h 23) 8 r1)) 23 (upd (upd (h 23) 8 r1) 6 r1)) 23 (upd (upd (upd (h 23) 8 r1) 6 r1) 6 r9)) r1 (48 : Int32) (57 : Int32) trivial _ (fun r13 p14 => ?_)
        show (r13.toInt ≤ r1.toInt → (qm_PW X 78 [.ref 23, .int 1, .int r1] (qm_row (qm_row (qm_row (qm_row (qm_row h 23 (upd (h 23) 8 r1)) 23 (upd (upd (h 23) 8 r1) 6 r1)) 23 (upd (upd (upd (h 23) 8 r1) 6 r1) 6 r9)) 23 (upd (upd (upd (upd (h 23) 8 r1) 6 r1) 6 r9) 6 r13)) 23 (upd (upd (upd (upd (upd (h 23) 8 r1) 6 r1) 6 r9) 6 r13) 7 2)) _)) ∧ (r1.toInt < r13.toInt → ((r13.toInt ≤ (r1 + 2).toInt → (((1 : Int32) = 0 ∨ (1 : Int32) = 1) ∧ Q (some (.int 1)) (qm_row (qm_row (qm_row (qm_row (qm_row h 23 (upd (h 23) 8 r1)) 23 (upd (upd (h 23) 8 r1) 6 r1)) 23 (upd (upd (upd (h 23) 8 r1) 6 r1) 6 r9)) 23 (upd (upd (upd (upd (h 23) 8 r1) 6 r1) 6 r9) 6 r13)) 23 (upd (upd (upd (upd (upd (h 23) 8 r1) 6 r1) 6 r9) 6 r13) 7 2)))) ∧ ((r1 + 2).toInt < r13.toInt → (qm_PW X 78 [.ref 23, .int 1, .int r1] (qm_row (qm_row (qm_row (qm_row (qm_row h 23 (upd (h 23) 8 r1)) 23 (upd (upd (h 23) 8 r1) 6 r1)) 23 (upd (upd (upd (h 23) 8 r1) 6 r1) 6 r9)) 23 (upd (upd (upd (upd (h 23) 8 r1) 6 r1) 6 r9) 6 r13)) 23 (upd (upd (upd (upd (upd (h 23) 8 r1) 6 r1) 6 r9) 6 r13) 7 2)) _))))
        refine ⟨fun c15 => ?_, fun c16 => ?_⟩
        · refine sf_78_23 X (qm_row (qm_row (qm_row (qm_row (qm_row h 23 (upd (h 23) 8 r1)) 23 (upd (upd (h 23) 8 r1) 6 r1)) 23 (upd (upd (upd (h 23) 8 r1) 6 r1) 6 r9)) 23 (upd (upd (upd (upd (h 23) 8 r1) 6 r1) 6 r9) 6 r13)) 23 (upd (upd (upd (upd (upd (h 23) 8 r1) 6 r1) 6 r9) 6 r13) 7 2)) (1 : Int32) r1 trivial _ (fun r17 g18 p19 => ?_)
          have f20 : ∀ k, (k < 23 ∨ 23 < k) → g18 k = h k := fun k hk => (p19.1 k (by omega)).trans (by simp only [qm_row]; rw [if_neg (by omega)]; rw [if_neg (by omega)]; rw [if_neg (by omega)]; rw [if_neg (by omega)]; rw [if_neg (by omega)])
          show (r17 = 0 → (((0 : Int32) = 0 ∨ (0 : Int32) = 1) ∧ Q (some (.int 0)) g18)) ∧ (¬ r17 = 0 → (((1 : Int32) = 0 ∨ (1 : Int32) = 1) ∧ Q (some (.int 1)) g18))
          refine ⟨fun c21 => ?_, fun c22 => ?_⟩
          · exact ⟨Or.inl rfl, hq 0 g18 ⟨(fun k hk => f20 k hk), (Or.inl rfl)⟩⟩
          · exact ⟨Or.inr rfl, hq 1 g18 ⟨(fun k hk => f20 k hk), (Or.inr rfl)⟩⟩
        · refine ⟨fun c23 => ?_, fun c24 => ?_⟩
          · exact ⟨Or.inr rfl, hq 1 (qm_row (qm_row (qm_row (qm_row (qm_row h 23 (upd (h 23) 8 r1)) 23 (upd (upd (h 23) 8 r1) 6 r1)) 23 (upd (upd (upd (h 23) 8 r1) 6 r1) 6 r9)) 23 (upd (upd (upd (upd (h 23) 8 r1) 6 r1) 6 r9) 6 r13)) 23 (upd (upd (upd (upd (upd (h 23) 8 r1) 6 r1) 6 r9) 6 r13) 7 2)) ⟨(fun k hk => by simp only [qm_row]; rw [if_neg (by omega)]; rw [if_neg (by omega)]; rw [if_neg (by omega)]; rw [if_neg (by omega)]; rw [if_neg (by omega)]), (Or.inr rfl)⟩⟩
          · refine sf_78_23 X (qm_row (qm_row (qm_row (qm_row (qm_row h 23 (upd (h 23) 8 r1)) 23 (upd (upd (h 23) 8 r1) 6 r1)) 23 (upd (upd (upd (h 23) 8 r1) 6 r1) 6 r9)) 23 (upd (upd (upd (upd (h 23) 8 r1) 6 r1) 6 r9) 6 r13)) 23 (upd (upd (upd (upd (upd (h 23) 8 r1) 6 r1) 6 r9) 6 r13) 7 2)) (1 : Int32) r1 trivial _ (fun r25 g26 p27 => ?_)
            have f28 : ∀ k, (k < 23 ∨ 23 < k) → g26 k = h k := fun k hk => (p27.1 k (by omega)).trans (by simp only [qm_row]; rw [if_neg (by omega)]; rw [if_neg (by omega)]; rw [if_neg (by omega)]; rw [if_neg (by omega)]; rw [if_neg (by omega)])
            show (r25 = 0 → (((0 : Int32) = 0 ∨ (0 : Int32) = 1) ∧ Q (some (.int 0)) g26)) ∧ (¬ r25 = 0 → (((1 : Int32) = 0 ∨ (1 : Int32) = 1) ∧ Q (some (.int 1)) g26))
            refine ⟨fun c29 => ?_, fun c30 => ?_⟩
            · exact ⟨Or.inl rfl, hq 0 g26 ⟨(fun k hk => f28 k hk), (Or.inl rfl)⟩⟩
            · exact ⟨Or.inr rfl, hq 1 g26 ⟨(fun k hk => f28 k hk), (Or.inr rfl)⟩⟩
      · exact ⟨Or.inr rfl, hq 1 (qm_row (qm_row (qm_row (qm_row h 23 (upd (h 23) 8 r1)) 23 (upd (upd (h 23) 8 r1) 6 r1)) 23 (upd (upd (upd (h 23) 8 r1) 6 r1) 6 r9)) 23 (upd (upd (upd (upd (h 23) 8 r1) 6 r1) 6 r9) 7 1)) ⟨(fun k hk => by simp only [qm_row]; rw [if_neg (by omega)]; rw [if_neg (by omega)]; rw [if_neg (by omega)]; rw [if_neg (by omega)]), (Or.inr rfl)⟩⟩
    · exact ⟨Or.inr rfl, hq 1 (qm_row (qm_row (qm_row (qm_row h 23 (upd (h 23) 8 r1)) 23 (upd (upd (h 23) 8 r1) 6 r1)) 23 (upd (upd (upd (h 23) 8 r1) 6 r1) 7 3)) 23 (upd (upd (upd (upd (h 23) 8 r1) 6 r1) 7 3) 6 (r1 + 1))) ⟨(fun k hk => by simp only [qm_row]; rw [if_neg (by omega)]; rw [if_neg (by omega)]; rw [if_neg (by omega)]; rw [if_neg (by omega)]), (Or.inr rfl)⟩⟩
  · exact ⟨Or.inr rfl, hq 1 (qm_row (qm_row (qm_row h 23 (upd (h 23) 8 r1)) 23 (upd (upd (h 23) 8 r1) 6 r1)) 23 (upd (upd (upd (h 23) 8 r1) 6 r1) 7 0)) ⟨(fun k hk => by simp only [qm_row]; rw [if_neg (by omega)]; rw [if_neg (by omega)]; rw [if_neg (by omega)]), (Or.inr rfl)⟩⟩
-- ThreadBank$TextReader.readStop()Z
set_option maxRecDepth 100000 in
set_option maxHeartbeats 4000000 in
theorem sf_83_23 (X : qm_X) (h : qm_H) (hp : True) (Q : qm_Q) (hq : ∀ r : Int32, ∀ h' : qm_H, ((∀ k, (k < 23 ∨ 23 < k) → h' k = h k) ∧ (r = 0 ∨ r = 1)) → Q (some (.int r)) h') : qm_PW X 83 [.ref 23] h Q := by
  refine qm_seg_ok (C := qc_83) (rt := some .boolean) rfl rfl (cuts := []) 400 _ _ _ _ ?_
  show qm_PW X 85 [.ref 23] h _
  refine sf_85_23 X h  trivial _ (fun r1 g2 p3 => ?_)
  have f4 : ∀ k, (k < 23 ∨ 23 < k) → g2 k = h k := fun k hk => (p3.1 k (by omega)).trans (rfl)
  show (r1 = 0 → (((0 : Int32) = 0 ∨ (0 : Int32) = 1) ∧ Q (some (.int 0)) g2)) ∧ (¬ r1 = 0 → (((g2 23 7) = 3 → (((1 : Int32) = 0 ∨ (1 : Int32) = 1) ∧ Q (some (.int 1)) g2)) ∧ (¬ (g2 23 7) = 3 → (qm_PW X 78 [.ref 23, .int 2, .int (g2 23 8)] g2 _))))
  refine ⟨fun c5 => ?_, fun c6 => ?_⟩
  · exact ⟨Or.inl rfl, hq 0 g2 ⟨(fun k hk => f4 k hk), (Or.inl rfl)⟩⟩
  · refine ⟨fun c7 => ?_, fun c8 => ?_⟩
    · exact ⟨Or.inr rfl, hq 1 g2 ⟨(fun k hk => f4 k hk), (Or.inr rfl)⟩⟩
    · refine sf_78_23 X g2 (2 : Int32) (g2 23 8) trivial _ (fun r9 g10 p11 => ?_)
      have f12 : ∀ k, (k < 23 ∨ 23 < k) → g10 k = h k := fun k hk => (p11.1 k (by omega)).trans (f4 k hk)
      show (r9 = 0 → (((0 : Int32) = 0 ∨ (0 : Int32) = 1) ∧ Q (some (.int 0)) g10)) ∧ (¬ r9 = 0 → (((1 : Int32) = 0 ∨ (1 : Int32) = 1) ∧ Q (some (.int 1)) g10))
      refine ⟨fun c13 => ?_, fun c14 => ?_⟩
      · exact ⟨Or.inl rfl, hq 0 g10 ⟨(fun k hk => f12 k hk), (Or.inl rfl)⟩⟩
      · exact ⟨Or.inr rfl, hq 1 g10 ⟨(fun k hk => f12 k hk), (Or.inr rfl)⟩⟩
-- ThreadBank$TextReader.readNumber()Z
set_option maxRecDepth 100000 in
set_option maxHeartbeats 4000000 in
theorem sf_82_23_c (X : qm_X) (h : qm_H) (hp : True) (Q : qm_Q) (hq : ∀ r : Int32, ∀ h' : qm_H, ((∀ k, (k < 23 ∨ 23 < k) → h' k = h k) ∧ (r = 0 ∨ r = 1)) → Q (some (.int r)) h') : ∀ n : Nat, (∀ (l1 : Int32) (g : qm_H), (∀ k, (k < 23 ∨ 23 < k) → g k = h k) → ((g 23 6).toInt - l1.toInt).toNat < n → qm_PA X 82 37 [(0, .ref 23), (1, .int l1)] [] g Q) := by
  intro n
  induction n with
  | zero => exact fun _ _ _ h0 => absurd h0 (Nat.not_lt_zero _)
  | succ n ih =>
    intro l1 g hi hr
    have hgf := hi
    have := ti_rng (g 23 6)
    have := ti_rng l1
    refine qm_seg_ok (C := qc_82) (rt := some .boolean) rfl rfl (cuts := [(37, [0, 1])]) 400 _ _ _ _ ?_
    show ((g 23 6).toInt ≤ l1.toInt → (((1 : Int32) = 0 ∨ (1 : Int32) = 1) ∧ Q (some (.int 1)) g)) ∧ (l1.toInt < (g 23 6).toInt → (qm_PW X 87 [.ref 23, .int l1] g _))
    refine ⟨fun c1 => ?_, fun c2 => ?_⟩
    · exact ⟨Or.inr rfl, hq 1 g ⟨(fun k hk => hgf k hk), (Or.inr rfl)⟩⟩
    · refine sf_87_23 X g l1 trivial _ (fun r3 p4 => ?_)
      show qm_PA X 82 37 [(0, .ref 23), (1, .int (l1 + 1))] [] (qm_row g 23 (upd (g 23) 9 (((10 * (g 23 9)) + r3) - 48))) Q
      exact ih (l1 + 1) (qm_row g 23 (upd (g 23) 9 (((10 * (g 23 9)) + r3) - 48))) (fun k hk => by simp only [qm_row]; rw [if_neg (by omega)]; exact hgf k hk) (by have := ti_addK l1 (1 : Int32) 1 rfl; show ((g 23 6).toInt - (l1 + 1).toInt).toNat < n; omega)
set_option maxRecDepth 100000 in
set_option maxHeartbeats 4000000 in
theorem sf_82_23 (X : qm_X) (h : qm_H) (hp : True) (Q : qm_Q) (hq : ∀ r : Int32, ∀ h' : qm_H, ((∀ k, (k < 23 ∨ 23 < k) → h' k = h k) ∧ (r = 0 ∨ r = 1)) → Q (some (.int r)) h') : qm_PW X 82 [.ref 23] h Q := by
  refine qm_seg_ok (C := qc_82) (rt := some .boolean) rfl rfl (cuts := [(37, [0, 1])]) 400 _ _ _ _ ?_
  show qm_PW X 85 [.ref 23] h _
  refine sf_85_23 X h  trivial _ (fun r1 g2 p3 => ?_)
  have f4 : ∀ k, (k < 23 ∨ 23 < k) → g2 k = h k := fun k hk => (p3.1 k (by omega)).trans (rfl)
  show (¬ r1 = 0 → (((g2 23 7) = 2 → (qm_PA X 82 37 [(0, .ref 23), (1, .int (g2 23 8))] [] (qm_row g2 23 (upd (g2 23) 9 0)) Q)) ∧ (¬ (g2 23 7) = 2 → (qm_PW X 78 [.ref 23, .int 2, .int (g2 23 8)] g2 _)))) ∧ (r1 = 0 → (((0 : Int32) = 0 ∨ (0 : Int32) = 1) ∧ Q (some (.int 0)) g2))
  refine ⟨fun c5 => ?_, fun c6 => ?_⟩
  · refine ⟨fun c7 => ?_, fun c8 => ?_⟩
    · exact (sf_82_23_c X h hp Q hq _) (g2 23 8) (qm_row g2 23 (upd (g2 23) 9 0)) (fun k hk => by simp only [qm_row]; rw [if_neg (by omega)]; exact f4 k hk) (Nat.lt_succ_self _)
    · refine sf_78_23 X g2 (2 : Int32) (g2 23 8) trivial _ (fun r9 g10 p11 => ?_)
      have f12 : ∀ k, (k < 23 ∨ 23 < k) → g10 k = h k := fun k hk => (p11.1 k (by omega)).trans (f4 k hk)
      show (r9 = 0 ∨ r9 = 1) ∧ Q (some (.int r9)) g10
      exact ⟨(Or.inl p11.2), hq r9 g10 ⟨(fun k hk => f12 k hk), (Or.inl p11.2)⟩⟩
  · exact ⟨Or.inl rfl, hq 0 g2 ⟨(fun k hk => f4 k hk), (Or.inl rfl)⟩⟩
-- ThreadBank$TextReader.readDay()Z
set_option maxRecDepth 100000 in
set_option maxHeartbeats 4000000 in
theorem sf_80_23 (X : qm_X) (h : qm_H) (hp : mq 25 h) (Q : qm_Q) (hq : ∀ r : Int32, ∀ h' : qm_H, (mq 25 h' ∧ (∀ k, (k < 23 ∨ 31 < k) → h' k = h k) ∧ (r = 0 ∨ r = 1)) → Q (some (.int r)) h') : qm_PW X 80 [.ref 23] h Q := by
  have hm25 : mq 25 h := hp
  have ⟨⟨_, _⟩, ⟨_, _⟩, _, _⟩ := hm25
  refine qm_seg_ok (C := qc_80) (rt := some .boolean) rfl rfl (cuts := []) 400 _ _ _ _ ?_
  show ((h 23 10) = 0 → (qm_PW X 82 [.ref 23] h _)) ∧ (¬ (h 23 10) = 0 → (qm_PW X 78 [.ref 23, .int 4, .int (h 23 8)] h _))
  refine ⟨fun c1 => ?_, fun c2 => ?_⟩
  · refine sf_82_23 X h  trivial _ (fun r3 g4 p5 => ?_)
    have f6 : ∀ k, (k < 23 ∨ 31 < k) → g4 k = h k := fun k hk => (p5.1 k (by omega)).trans (rfl)
    have k7 : mq 25 g4 := by unfold mq; rw [p5.1 25 (by omega)]; exact hm25
    show (¬ r3 = 0 → (((g4 23 9).toInt ≤ 9 → (((1 : Int32) = 0 ∨ (1 : Int32) = 1) ∧ (((1 : Int32) = 0 ∨ (1 : Int32) = 1) ∧ Q (some (.int 1)) (qm_row (qm_row g4 23 (upd (g4 23) 10 1)) 25 (upd (g4 25) 8 (g4 23 9)))))) ∧ (9 < (g4 23 9).toInt → (qm_PW X 78 [.ref 23, .int 3, .int (g4 23 8)] g4 _)))) ∧ (r3 = 0 → (((0 : Int32) = 0 ∨ (0 : Int32) = 1) ∧ Q (some (.int 0)) g4))
    refine ⟨fun c8 => ?_, fun c9 => ?_⟩
    · refine ⟨fun c10 => ?_, fun c11 => ?_⟩
      · refine ⟨Or.inr rfl, ?_⟩
        exact ⟨Or.inr rfl, hq 1 (qm_row (qm_row g4 23 (upd (g4 23) 10 1)) 25 (upd (g4 25) 8 (g4 23 9))) ⟨(by have ⟨⟨_, _⟩, ⟨_, _⟩, _, _⟩ := hm25; have ⟨⟨_, _⟩, ⟨_, _⟩, _, _⟩ := k7; show (0 ≤ (g4 25 6).toInt ∧ (g4 25 6).toInt ≤ 4) ∧ (0 ≤ (g4 25 7).toInt ∧ (g4 25 7).toInt ≤ 10) ∧ (0 ≤ (g4 25 9).toInt ∧ (g4 25 9).toInt ≤ 6); omega), (fun k hk => by simp only [qm_row]; rw [if_neg (by omega)]; rw [if_neg (by omega)]; exact f6 k hk), (Or.inr rfl)⟩⟩
      · refine sf_78_23 X g4 (3 : Int32) (g4 23 8) trivial _ (fun r12 g13 p14 => ?_)
        have f15 : ∀ k, (k < 23 ∨ 31 < k) → g13 k = h k := fun k hk => (p14.1 k (by omega)).trans (f6 k hk)
        have k16 : mq 25 g13 := by unfold mq; rw [p14.1 25 (by omega)]; exact k7
        show (r12 = 0 ∨ r12 = 1) ∧ Q (some (.int r12)) g13
        exact ⟨(Or.inl p14.2), hq r12 g13 ⟨k16, (fun k hk => f15 k hk), (Or.inl p14.2)⟩⟩
    · exact ⟨Or.inl rfl, hq 0 g4 ⟨k7, (fun k hk => f6 k hk), (Or.inl rfl)⟩⟩
  · refine sf_78_23 X h (4 : Int32) (h 23 8) trivial _ (fun r17 g18 p19 => ?_)
    have f20 : ∀ k, (k < 23 ∨ 31 < k) → g18 k = h k := fun k hk => (p19.1 k (by omega)).trans (rfl)
    have k21 : mq 25 g18 := by unfold mq; rw [p19.1 25 (by omega)]; exact hm25
    show (r17 = 0 ∨ r17 = 1) ∧ Q (some (.int r17)) g18
    exact ⟨(Or.inl p19.2), hq r17 g18 ⟨k21, (fun k hk => f20 k hk), (Or.inl p19.2)⟩⟩
-- ThreadBank$TextReader.readTie()Z
set_option maxRecDepth 100000 in
set_option maxHeartbeats 4000000 in
theorem sf_81_23 (X : qm_X) (h : qm_H) (hp : mq 25 h) (Q : qm_Q) (hq : ∀ r : Int32, ∀ h' : qm_H, (mq 25 h' ∧ (∀ k, (k < 23 ∨ 31 < k) → h' k = h k) ∧ (r = 0 ∨ r = 1)) → Q (some (.int r)) h') : qm_PW X 81 [.ref 23] h Q := by
  have hm25 : mq 25 h := hp
  have ⟨⟨_, _⟩, ⟨_, _⟩, _, _⟩ := hm25
  refine qm_seg_ok (C := qc_81) (rt := some .boolean) rfl rfl (cuts := []) 400 _ _ _ _ ?_
  show ((h 25 7).toInt < 10 → (qm_PW X 82 [.ref 23] h _)) ∧ (10 ≤ (h 25 7).toInt → (qm_PW X 78 [.ref 23, .int 5, .int (h 23 8)] h _))
  refine ⟨fun c1 => ?_, fun c2 => ?_⟩
  · refine sf_82_23 X h  trivial _ (fun r3 g4 p5 => ?_)
    have f6 : ∀ k, (k < 23 ∨ 31 < k) → g4 k = h k := fun k hk => (p5.1 k (by omega)).trans (rfl)
    have k7 : mq 25 g4 := by unfold mq; rw [p5.1 25 (by omega)]; exact hm25
    show (¬ r3 = 0 → (qm_PW X 24 [.int (g4 23 9), .int 4] g4 _)) ∧ (r3 = 0 → (((0 : Int32) = 0 ∨ (0 : Int32) = 1) ∧ Q (some (.int 0)) g4))
    refine ⟨fun c8 => ?_, fun c9 => ?_⟩
    · refine sf_24 X g4 (g4 23 9) (4 : Int32) trivial _ (fun r10 p11 => ?_)
      show (¬ r10 = 0 → (qm_PW X 82 [.ref 23] g4 _)) ∧ (r10 = 0 → (qm_PW X 78 [.ref 23, .int 3, .int (g4 23 8)] g4 _))
      refine ⟨fun c12 => ?_, fun c13 => ?_⟩
      · refine sf_82_23 X g4  trivial _ (fun r14 g15 p16 => ?_)
        have f17 : ∀ k, (k < 23 ∨ 31 < k) → g15 k = h k := fun k hk => (p16.1 k (by omega)).trans (f6 k hk)
        have k18 : mq 25 g15 := by unfold mq; rw [p16.1 25 (by omega)]; exact k7
        show (¬ r14 = 0 → (qm_PW X 25 [.int (g15 23 9), .int 4] g15 _)) ∧ (r14 = 0 → (((0 : Int32) = 0 ∨ (0 : Int32) = 1) ∧ Q (some (.int 0)) g15))
        refine ⟨fun c19 => ?_, fun c20 => ?_⟩
        · refine sf_25 X g15 (g15 23 9) (4 : Int32) trivial _ (fun r21 p22 => ?_)
          show (¬ r21 = 0 → (qm_PW X 82 [.ref 23] g15 _)) ∧ (r21 = 0 → (qm_PW X 78 [.ref 23, .int 3, .int (g15 23 8)] g15 _))
          refine ⟨fun c23 => ?_, fun c24 => ?_⟩
          · refine sf_82_23 X g15  trivial _ (fun r25 g26 p27 => ?_)
            have f28 : ∀ k, (k < 23 ∨ 31 < k) → g26 k = h k := fun k hk => (p27.1 k (by omega)).trans (f17 k hk)
            have k29 : mq 25 g26 := by unfold mq; rw [p27.1 25 (by omega)]; exact k18
            show (¬ r25 = 0 → (qm_PW X 26 [.int (g26 23 9)] g26 _)) ∧ (r25 = 0 → (((0 : Int32) = 0 ∨ (0 : Int32) = 1) ∧ Q (some (.int 0)) g26))
            refine ⟨fun c30 => ?_, fun c31 => ?_⟩
            · refine sf_26 X g26 (g26 23 9) trivial _ (fun r32 p33 => ?_)
              show (r32 = 0 → (qm_PW X 78 [.ref 23, .int 3, .int (g26 23 8)] g26 _)) ∧ (¬ r32 = 0 → (qm_PW X 45 [.ref 25, .int (g4 23 9), .int (g15 23 9), .int (g26 23 9)] g26 _))
              refine ⟨fun c34 => ?_, fun c35 => ?_⟩
              · refine sf_78_23 X g26 (3 : Int32) (g26 23 8) trivial _ (fun r36 g37 p38 => ?_)
                have f39 : ∀ k, (k < 23 ∨ 31 < k) → g37 k = h k := fun k hk => (p38.1 k (by omega)).trans (f28 k hk)
                have k40 : mq 25 g37 := by unfold mq; rw [p38.1 25 (by omega)]; exact k29
                show (r36 = 0 ∨ r36 = 1) ∧ Q (some (.int r36)) g37
                exact ⟨(Or.inl p38.2), hq r36 g37 ⟨k40, (fun k hk => f39 k hk), (Or.inl p38.2)⟩⟩
              · refine sf_45_25 X g26 (g4 23 9) (g15 23 9) (g26 23 9) k29 _ (fun r41 g42 p43 => ?_)
                have f44 : ∀ k, (k < 23 ∨ 31 < k) → g42 k = h k := fun k hk => (p43.2.1 k (by omega)).trans (f28 k hk)
                show (r41 = 0 ∨ r41 = 1) ∧ Q (some (.int r41)) g42
                exact ⟨p43.2.2, hq r41 g42 ⟨p43.1, (fun k hk => f44 k hk), p43.2.2⟩⟩
            · exact ⟨Or.inl rfl, hq 0 g26 ⟨k29, (fun k hk => f28 k hk), (Or.inl rfl)⟩⟩
          · refine sf_78_23 X g15 (3 : Int32) (g15 23 8) trivial _ (fun r45 g46 p47 => ?_)
            have f48 : ∀ k, (k < 23 ∨ 31 < k) → g46 k = h k := fun k hk => (p47.1 k (by omega)).trans (f17 k hk)
            have k49 : mq 25 g46 := by unfold mq; rw [p47.1 25 (by omega)]; exact k18
            show (r45 = 0 ∨ r45 = 1) ∧ Q (some (.int r45)) g46
            exact ⟨(Or.inl p47.2), hq r45 g46 ⟨k49, (fun k hk => f48 k hk), (Or.inl p47.2)⟩⟩
        · exact ⟨Or.inl rfl, hq 0 g15 ⟨k18, (fun k hk => f17 k hk), (Or.inl rfl)⟩⟩
      · refine sf_78_23 X g4 (3 : Int32) (g4 23 8) trivial _ (fun r50 g51 p52 => ?_)
        have f53 : ∀ k, (k < 23 ∨ 31 < k) → g51 k = h k := fun k hk => (p52.1 k (by omega)).trans (f6 k hk)
        have k54 : mq 25 g51 := by unfold mq; rw [p52.1 25 (by omega)]; exact k7
        show (r50 = 0 ∨ r50 = 1) ∧ Q (some (.int r50)) g51
        exact ⟨(Or.inl p52.2), hq r50 g51 ⟨k54, (fun k hk => f53 k hk), (Or.inl p52.2)⟩⟩
    · exact ⟨Or.inl rfl, hq 0 g4 ⟨k7, (fun k hk => f6 k hk), (Or.inl rfl)⟩⟩
  · refine sf_78_23 X h (5 : Int32) (h 23 8) trivial _ (fun r55 g56 p57 => ?_)
    have f58 : ∀ k, (k < 23 ∨ 31 < k) → g56 k = h k := fun k hk => (p57.1 k (by omega)).trans (rfl)
    have k59 : mq 25 g56 := by unfold mq; rw [p57.1 25 (by omega)]; exact hm25
    show (r55 = 0 ∨ r55 = 1) ∧ Q (some (.int r55)) g56
    exact ⟨(Or.inl p57.2), hq r55 g56 ⟨k59, (fun k hk => f58 k hk), (Or.inl p57.2)⟩⟩
-- ThreadBank$TextReader.isWord(Ljava/lang/String;)Z
set_option maxRecDepth 100000 in
set_option maxHeartbeats 4000000 in
theorem sf_89_23_110_c (X : qm_X) (h : qm_H) (hp : True) (Q : qm_Q) (hq : ∀ r : Int32, (r = 0 ∨ r = 1) → Q (some (.int r)) h) : ∀ n : Nat, (∀ (l2 : Int32), (0 ≤ l2.toInt ∧ l2.toInt ≤ 5) → (5 - l2.toInt).toNat < n → qm_PA X 89 20 [(0, .ref 23), (1, .ref 110), (2, .int l2)] [] h Q) := by
  intro n
  induction n with
  | zero => exact fun _ _ h0 => absurd h0 (Nat.not_lt_zero _)
  | succ n ih =>
    intro l2 hi hr
    refine qm_seg_ok (C := qc_89) (rt := some .boolean) rfl rfl (cuts := [(20, [0, 1, 2])]) 400 _ _ _ _ ?_
    show qm_PW X 3 [.ref 110] h _
    refine sf_3_110 X h  trivial _ (fun r1 p2 => ?_)
    show (r1.toInt ≤ l2.toInt → (((1 : Int32) = 0 ∨ (1 : Int32) = 1) ∧ Q (some (.int 1)) h)) ∧ (l2.toInt < r1.toInt → (qm_PW X 87 [.ref 23, .int ((h 23 8) + l2)] h _))
    refine ⟨fun c3 => ?_, fun c4 => ?_⟩
    · exact ⟨Or.inr rfl, hq 1 (Or.inr rfl)⟩
    · refine sf_87_23 X h ((h 23 8) + l2) trivial _ (fun r5 p6 => ?_)
      show qm_PW X 6 [.ref 110, .int l2] h _
      refine sf_6_110 X h l2 (by omega) _ (fun r7 p8 => ?_)
      show (r5 = r7 → (qm_PA X 89 20 [(0, .ref 23), (1, .ref 110), (2, .int (l2 + 1))] [] h Q)) ∧ (¬ r5 = r7 → (((0 : Int32) = 0 ∨ (0 : Int32) = 1) ∧ Q (some (.int 0)) h))
      refine ⟨fun c9 => ?_, fun c10 => ?_⟩
      · exact ih (l2 + 1) (by have := ti_addK l2 (1 : Int32) 1 rfl; omega) (by have := ti_addK l2 (1 : Int32) 1 rfl; omega)
      · exact ⟨Or.inl rfl, hq 0 (Or.inl rfl)⟩
set_option maxRecDepth 100000 in
set_option maxHeartbeats 4000000 in
theorem sf_89_23_110 (X : qm_X) (h : qm_H) (hp : True) (Q : qm_Q) (hq : ∀ r : Int32, (r = 0 ∨ r = 1) → Q (some (.int r)) h) : qm_PW X 89 [.ref 23, .ref 110] h Q := by
  refine qm_seg_ok (C := qc_89) (rt := some .boolean) rfl rfl (cuts := [(20, [0, 1, 2])]) 400 _ _ _ _ ?_
  show qm_PW X 3 [.ref 110] h _
  refine sf_3_110 X h  trivial _ (fun r1 p2 => ?_)
  show (((h 23 6) - (h 23 8)) = r1 → (qm_PA X 89 20 [(0, .ref 23), (1, .ref 110), (2, .int 0)] [] h Q)) ∧ (¬ ((h 23 6) - (h 23 8)) = r1 → (((0 : Int32) = 0 ∨ (0 : Int32) = 1) ∧ Q (some (.int 0)) h))
  refine ⟨fun c3 => ?_, fun c4 => ?_⟩
  · exact (sf_89_23_110_c X h hp Q hq _) (0 : Int32) (by have : (0 : Int32).toInt = 0 := rfl; omega) (Nat.lt_succ_self _)
  · exact ⟨Or.inl rfl, hq 0 (Or.inl rfl)⟩
-- ThreadBank$TextReader.isWord(Ljava/lang/String;)Z
set_option maxRecDepth 100000 in
set_option maxHeartbeats 4000000 in
theorem sf_89_23_111_c (X : qm_X) (h : qm_H) (hp : True) (Q : qm_Q) (hq : ∀ r : Int32, (r = 0 ∨ r = 1) → Q (some (.int r)) h) : ∀ n : Nat, (∀ (l2 : Int32), (0 ≤ l2.toInt ∧ l2.toInt ≤ 4) → (4 - l2.toInt).toNat < n → qm_PA X 89 20 [(0, .ref 23), (1, .ref 111), (2, .int l2)] [] h Q) := by
  intro n
  induction n with
  | zero => exact fun _ _ h0 => absurd h0 (Nat.not_lt_zero _)
  | succ n ih =>
    intro l2 hi hr
    refine qm_seg_ok (C := qc_89) (rt := some .boolean) rfl rfl (cuts := [(20, [0, 1, 2])]) 400 _ _ _ _ ?_
    show qm_PW X 3 [.ref 111] h _
    refine sf_3_111 X h  trivial _ (fun r1 p2 => ?_)
    show (r1.toInt ≤ l2.toInt → (((1 : Int32) = 0 ∨ (1 : Int32) = 1) ∧ Q (some (.int 1)) h)) ∧ (l2.toInt < r1.toInt → (qm_PW X 87 [.ref 23, .int ((h 23 8) + l2)] h _))
    refine ⟨fun c3 => ?_, fun c4 => ?_⟩
    · exact ⟨Or.inr rfl, hq 1 (Or.inr rfl)⟩
    · refine sf_87_23 X h ((h 23 8) + l2) trivial _ (fun r5 p6 => ?_)
      show qm_PW X 6 [.ref 111, .int l2] h _
      refine sf_6_111 X h l2 (by omega) _ (fun r7 p8 => ?_)
      show (r5 = r7 → (qm_PA X 89 20 [(0, .ref 23), (1, .ref 111), (2, .int (l2 + 1))] [] h Q)) ∧ (¬ r5 = r7 → (((0 : Int32) = 0 ∨ (0 : Int32) = 1) ∧ Q (some (.int 0)) h))
      refine ⟨fun c9 => ?_, fun c10 => ?_⟩
      · exact ih (l2 + 1) (by have := ti_addK l2 (1 : Int32) 1 rfl; omega) (by have := ti_addK l2 (1 : Int32) 1 rfl; omega)
      · exact ⟨Or.inl rfl, hq 0 (Or.inl rfl)⟩
set_option maxRecDepth 100000 in
set_option maxHeartbeats 4000000 in
theorem sf_89_23_111 (X : qm_X) (h : qm_H) (hp : True) (Q : qm_Q) (hq : ∀ r : Int32, (r = 0 ∨ r = 1) → Q (some (.int r)) h) : qm_PW X 89 [.ref 23, .ref 111] h Q := by
  refine qm_seg_ok (C := qc_89) (rt := some .boolean) rfl rfl (cuts := [(20, [0, 1, 2])]) 400 _ _ _ _ ?_
  show qm_PW X 3 [.ref 111] h _
  refine sf_3_111 X h  trivial _ (fun r1 p2 => ?_)
  show (((h 23 6) - (h 23 8)) = r1 → (qm_PA X 89 20 [(0, .ref 23), (1, .ref 111), (2, .int 0)] [] h Q)) ∧ (¬ ((h 23 6) - (h 23 8)) = r1 → (((0 : Int32) = 0 ∨ (0 : Int32) = 1) ∧ Q (some (.int 0)) h))
  refine ⟨fun c3 => ?_, fun c4 => ?_⟩
  · exact (sf_89_23_111_c X h hp Q hq _) (0 : Int32) (by have : (0 : Int32).toInt = 0 := rfl; omega) (Nat.lt_succ_self _)
  · exact ⟨Or.inl rfl, hq 0 (Or.inl rfl)⟩
-- ThreadBank$TextReader.isWord(Ljava/lang/String;)Z
set_option maxRecDepth 100000 in
set_option maxHeartbeats 4000000 in
theorem sf_89_23_112_c (X : qm_X) (h : qm_H) (hp : True) (Q : qm_Q) (hq : ∀ r : Int32, (r = 0 ∨ r = 1) → Q (some (.int r)) h) : ∀ n : Nat, (∀ (l2 : Int32), (0 ≤ l2.toInt ∧ l2.toInt ≤ 3) → (3 - l2.toInt).toNat < n → qm_PA X 89 20 [(0, .ref 23), (1, .ref 112), (2, .int l2)] [] h Q) := by
  intro n
  induction n with
  | zero => exact fun _ _ h0 => absurd h0 (Nat.not_lt_zero _)
  | succ n ih =>
    intro l2 hi hr
    refine qm_seg_ok (C := qc_89) (rt := some .boolean) rfl rfl (cuts := [(20, [0, 1, 2])]) 400 _ _ _ _ ?_
    show qm_PW X 3 [.ref 112] h _
    refine sf_3_112 X h  trivial _ (fun r1 p2 => ?_)
    show (r1.toInt ≤ l2.toInt → (((1 : Int32) = 0 ∨ (1 : Int32) = 1) ∧ Q (some (.int 1)) h)) ∧ (l2.toInt < r1.toInt → (qm_PW X 87 [.ref 23, .int ((h 23 8) + l2)] h _))
    refine ⟨fun c3 => ?_, fun c4 => ?_⟩
    · exact ⟨Or.inr rfl, hq 1 (Or.inr rfl)⟩
    · refine sf_87_23 X h ((h 23 8) + l2) trivial _ (fun r5 p6 => ?_)
      show qm_PW X 6 [.ref 112, .int l2] h _
      refine sf_6_112 X h l2 (by omega) _ (fun r7 p8 => ?_)
      show (r5 = r7 → (qm_PA X 89 20 [(0, .ref 23), (1, .ref 112), (2, .int (l2 + 1))] [] h Q)) ∧ (¬ r5 = r7 → (((0 : Int32) = 0 ∨ (0 : Int32) = 1) ∧ Q (some (.int 0)) h))
      refine ⟨fun c9 => ?_, fun c10 => ?_⟩
      · exact ih (l2 + 1) (by have := ti_addK l2 (1 : Int32) 1 rfl; omega) (by have := ti_addK l2 (1 : Int32) 1 rfl; omega)
      · exact ⟨Or.inl rfl, hq 0 (Or.inl rfl)⟩
set_option maxRecDepth 100000 in
set_option maxHeartbeats 4000000 in
theorem sf_89_23_112 (X : qm_X) (h : qm_H) (hp : True) (Q : qm_Q) (hq : ∀ r : Int32, (r = 0 ∨ r = 1) → Q (some (.int r)) h) : qm_PW X 89 [.ref 23, .ref 112] h Q := by
  refine qm_seg_ok (C := qc_89) (rt := some .boolean) rfl rfl (cuts := [(20, [0, 1, 2])]) 400 _ _ _ _ ?_
  show qm_PW X 3 [.ref 112] h _
  refine sf_3_112 X h  trivial _ (fun r1 p2 => ?_)
  show (((h 23 6) - (h 23 8)) = r1 → (qm_PA X 89 20 [(0, .ref 23), (1, .ref 112), (2, .int 0)] [] h Q)) ∧ (¬ ((h 23 6) - (h 23 8)) = r1 → (((0 : Int32) = 0 ∨ (0 : Int32) = 1) ∧ Q (some (.int 0)) h))
  refine ⟨fun c3 => ?_, fun c4 => ?_⟩
  · exact (sf_89_23_112_c X h hp Q hq _) (0 : Int32) (by have : (0 : Int32).toInt = 0 := rfl; omega) (Nat.lt_succ_self _)
  · exact ⟨Or.inl rfl, hq 0 (Or.inl rfl)⟩
-- ThreadBank$TextReader.isWord(Ljava/lang/String;)Z
set_option maxRecDepth 100000 in
set_option maxHeartbeats 4000000 in
theorem sf_89_23_113_c (X : qm_X) (h : qm_H) (hp : True) (Q : qm_Q) (hq : ∀ r : Int32, (r = 0 ∨ r = 1) → Q (some (.int r)) h) : ∀ n : Nat, (∀ (l2 : Int32), (0 ≤ l2.toInt ∧ l2.toInt ≤ 7) → (7 - l2.toInt).toNat < n → qm_PA X 89 20 [(0, .ref 23), (1, .ref 113), (2, .int l2)] [] h Q) := by
  intro n
  induction n with
  | zero => exact fun _ _ h0 => absurd h0 (Nat.not_lt_zero _)
  | succ n ih =>
    intro l2 hi hr
    refine qm_seg_ok (C := qc_89) (rt := some .boolean) rfl rfl (cuts := [(20, [0, 1, 2])]) 400 _ _ _ _ ?_
    show qm_PW X 3 [.ref 113] h _
    refine sf_3_113 X h  trivial _ (fun r1 p2 => ?_)
    show (r1.toInt ≤ l2.toInt → (((1 : Int32) = 0 ∨ (1 : Int32) = 1) ∧ Q (some (.int 1)) h)) ∧ (l2.toInt < r1.toInt → (qm_PW X 87 [.ref 23, .int ((h 23 8) + l2)] h _))
    refine ⟨fun c3 => ?_, fun c4 => ?_⟩
    · exact ⟨Or.inr rfl, hq 1 (Or.inr rfl)⟩
    · refine sf_87_23 X h ((h 23 8) + l2) trivial _ (fun r5 p6 => ?_)
      show qm_PW X 6 [.ref 113, .int l2] h _
      refine sf_6_113 X h l2 (by omega) _ (fun r7 p8 => ?_)
      show (r5 = r7 → (qm_PA X 89 20 [(0, .ref 23), (1, .ref 113), (2, .int (l2 + 1))] [] h Q)) ∧ (¬ r5 = r7 → (((0 : Int32) = 0 ∨ (0 : Int32) = 1) ∧ Q (some (.int 0)) h))
      refine ⟨fun c9 => ?_, fun c10 => ?_⟩
      · exact ih (l2 + 1) (by have := ti_addK l2 (1 : Int32) 1 rfl; omega) (by have := ti_addK l2 (1 : Int32) 1 rfl; omega)
      · exact ⟨Or.inl rfl, hq 0 (Or.inl rfl)⟩
set_option maxRecDepth 100000 in
set_option maxHeartbeats 4000000 in
theorem sf_89_23_113 (X : qm_X) (h : qm_H) (hp : True) (Q : qm_Q) (hq : ∀ r : Int32, (r = 0 ∨ r = 1) → Q (some (.int r)) h) : qm_PW X 89 [.ref 23, .ref 113] h Q := by
  refine qm_seg_ok (C := qc_89) (rt := some .boolean) rfl rfl (cuts := [(20, [0, 1, 2])]) 400 _ _ _ _ ?_
  show qm_PW X 3 [.ref 113] h _
  refine sf_3_113 X h  trivial _ (fun r1 p2 => ?_)
  show (((h 23 6) - (h 23 8)) = r1 → (qm_PA X 89 20 [(0, .ref 23), (1, .ref 113), (2, .int 0)] [] h Q)) ∧ (¬ ((h 23 6) - (h 23 8)) = r1 → (((0 : Int32) = 0 ∨ (0 : Int32) = 1) ∧ Q (some (.int 0)) h))
  refine ⟨fun c3 => ?_, fun c4 => ?_⟩
  · exact (sf_89_23_113_c X h hp Q hq _) (0 : Int32) (by have : (0 : Int32).toInt = 0 := rfl; omega) (Nat.lt_succ_self _)
  · exact ⟨Or.inl rfl, hq 0 (Or.inl rfl)⟩
-- ThreadBank$TextReader.isWord(Ljava/lang/String;)Z
set_option maxRecDepth 100000 in
set_option maxHeartbeats 4000000 in
theorem sf_89_23_114_c (X : qm_X) (h : qm_H) (hp : True) (Q : qm_Q) (hq : ∀ r : Int32, (r = 0 ∨ r = 1) → Q (some (.int r)) h) : ∀ n : Nat, (∀ (l2 : Int32), (0 ≤ l2.toInt ∧ l2.toInt ≤ 3) → (3 - l2.toInt).toNat < n → qm_PA X 89 20 [(0, .ref 23), (1, .ref 114), (2, .int l2)] [] h Q) := by
  intro n
  induction n with
  | zero => exact fun _ _ h0 => absurd h0 (Nat.not_lt_zero _)
  | succ n ih =>
    intro l2 hi hr
    refine qm_seg_ok (C := qc_89) (rt := some .boolean) rfl rfl (cuts := [(20, [0, 1, 2])]) 400 _ _ _ _ ?_
    show qm_PW X 3 [.ref 114] h _
    refine sf_3_114 X h  trivial _ (fun r1 p2 => ?_)
    show (r1.toInt ≤ l2.toInt → (((1 : Int32) = 0 ∨ (1 : Int32) = 1) ∧ Q (some (.int 1)) h)) ∧ (l2.toInt < r1.toInt → (qm_PW X 87 [.ref 23, .int ((h 23 8) + l2)] h _))
    refine ⟨fun c3 => ?_, fun c4 => ?_⟩
    · exact ⟨Or.inr rfl, hq 1 (Or.inr rfl)⟩
    · refine sf_87_23 X h ((h 23 8) + l2) trivial _ (fun r5 p6 => ?_)
      show qm_PW X 6 [.ref 114, .int l2] h _
      refine sf_6_114 X h l2 (by omega) _ (fun r7 p8 => ?_)
      show (r5 = r7 → (qm_PA X 89 20 [(0, .ref 23), (1, .ref 114), (2, .int (l2 + 1))] [] h Q)) ∧ (¬ r5 = r7 → (((0 : Int32) = 0 ∨ (0 : Int32) = 1) ∧ Q (some (.int 0)) h))
      refine ⟨fun c9 => ?_, fun c10 => ?_⟩
      · exact ih (l2 + 1) (by have := ti_addK l2 (1 : Int32) 1 rfl; omega) (by have := ti_addK l2 (1 : Int32) 1 rfl; omega)
      · exact ⟨Or.inl rfl, hq 0 (Or.inl rfl)⟩
set_option maxRecDepth 100000 in
set_option maxHeartbeats 4000000 in
theorem sf_89_23_114 (X : qm_X) (h : qm_H) (hp : True) (Q : qm_Q) (hq : ∀ r : Int32, (r = 0 ∨ r = 1) → Q (some (.int r)) h) : qm_PW X 89 [.ref 23, .ref 114] h Q := by
  refine qm_seg_ok (C := qc_89) (rt := some .boolean) rfl rfl (cuts := [(20, [0, 1, 2])]) 400 _ _ _ _ ?_
  show qm_PW X 3 [.ref 114] h _
  refine sf_3_114 X h  trivial _ (fun r1 p2 => ?_)
  show (((h 23 6) - (h 23 8)) = r1 → (qm_PA X 89 20 [(0, .ref 23), (1, .ref 114), (2, .int 0)] [] h Q)) ∧ (¬ ((h 23 6) - (h 23 8)) = r1 → (((0 : Int32) = 0 ∨ (0 : Int32) = 1) ∧ Q (some (.int 0)) h))
  refine ⟨fun c3 => ?_, fun c4 => ?_⟩
  · exact (sf_89_23_114_c X h hp Q hq _) (0 : Int32) (by have : (0 : Int32).toInt = 0 := rfl; omega) (Nat.lt_succ_self _)
  · exact ⟨Or.inl rfl, hq 0 (Or.inl rfl)⟩
-- ThreadBank$TextReader.isWord(Ljava/lang/String;)Z
set_option maxRecDepth 100000 in
set_option maxHeartbeats 4000000 in
theorem sf_89_23_115_c (X : qm_X) (h : qm_H) (hp : True) (Q : qm_Q) (hq : ∀ r : Int32, (r = 0 ∨ r = 1) → Q (some (.int r)) h) : ∀ n : Nat, (∀ (l2 : Int32), (0 ≤ l2.toInt ∧ l2.toInt ≤ 3) → (3 - l2.toInt).toNat < n → qm_PA X 89 20 [(0, .ref 23), (1, .ref 115), (2, .int l2)] [] h Q) := by
  intro n
  induction n with
  | zero => exact fun _ _ h0 => absurd h0 (Nat.not_lt_zero _)
  | succ n ih =>
    intro l2 hi hr
    refine qm_seg_ok (C := qc_89) (rt := some .boolean) rfl rfl (cuts := [(20, [0, 1, 2])]) 400 _ _ _ _ ?_
    show qm_PW X 3 [.ref 115] h _
    refine sf_3_115 X h  trivial _ (fun r1 p2 => ?_)
    show (r1.toInt ≤ l2.toInt → (((1 : Int32) = 0 ∨ (1 : Int32) = 1) ∧ Q (some (.int 1)) h)) ∧ (l2.toInt < r1.toInt → (qm_PW X 87 [.ref 23, .int ((h 23 8) + l2)] h _))
    refine ⟨fun c3 => ?_, fun c4 => ?_⟩
    · exact ⟨Or.inr rfl, hq 1 (Or.inr rfl)⟩
    · refine sf_87_23 X h ((h 23 8) + l2) trivial _ (fun r5 p6 => ?_)
      show qm_PW X 6 [.ref 115, .int l2] h _
      refine sf_6_115 X h l2 (by omega) _ (fun r7 p8 => ?_)
      show (r5 = r7 → (qm_PA X 89 20 [(0, .ref 23), (1, .ref 115), (2, .int (l2 + 1))] [] h Q)) ∧ (¬ r5 = r7 → (((0 : Int32) = 0 ∨ (0 : Int32) = 1) ∧ Q (some (.int 0)) h))
      refine ⟨fun c9 => ?_, fun c10 => ?_⟩
      · exact ih (l2 + 1) (by have := ti_addK l2 (1 : Int32) 1 rfl; omega) (by have := ti_addK l2 (1 : Int32) 1 rfl; omega)
      · exact ⟨Or.inl rfl, hq 0 (Or.inl rfl)⟩
set_option maxRecDepth 100000 in
set_option maxHeartbeats 4000000 in
theorem sf_89_23_115 (X : qm_X) (h : qm_H) (hp : True) (Q : qm_Q) (hq : ∀ r : Int32, (r = 0 ∨ r = 1) → Q (some (.int r)) h) : qm_PW X 89 [.ref 23, .ref 115] h Q := by
  refine qm_seg_ok (C := qc_89) (rt := some .boolean) rfl rfl (cuts := [(20, [0, 1, 2])]) 400 _ _ _ _ ?_
  show qm_PW X 3 [.ref 115] h _
  refine sf_3_115 X h  trivial _ (fun r1 p2 => ?_)
  show (((h 23 6) - (h 23 8)) = r1 → (qm_PA X 89 20 [(0, .ref 23), (1, .ref 115), (2, .int 0)] [] h Q)) ∧ (¬ ((h 23 6) - (h 23 8)) = r1 → (((0 : Int32) = 0 ∨ (0 : Int32) = 1) ∧ Q (some (.int 0)) h))
  refine ⟨fun c3 => ?_, fun c4 => ?_⟩
  · exact (sf_89_23_115_c X h hp Q hq _) (0 : Int32) (by have : (0 : Int32).toInt = 0 := rfl; omega) (Nat.lt_succ_self _)
  · exact ⟨Or.inl rfl, hq 0 (Or.inl rfl)⟩
-- ThreadBank$TextReader.wordRead()I
set_option maxRecDepth 100000 in
set_option maxHeartbeats 4000000 in
theorem sf_88_23 (X : qm_X) (h : qm_H) (hp : True) (Q : qm_Q) (hq : ∀ r : Int32, (True) → Q (some (.int r)) h) : qm_PW X 88 [.ref 23] h Q := by
  refine qm_seg_ok (C := qc_88) (rt := some .int) rfl rfl (cuts := []) 400 _ _ _ _ ?_
  show qm_PW X 89 [.ref 23, .ref 110] h _
  refine sf_89_23_110 X h  trivial _ (fun r1 p2 => ?_)
  show (r1 = 0 → (qm_PW X 89 [.ref 23, .ref 111] h _)) ∧ (¬ r1 = 0 → (Q (some (.int 0)) h))
  refine ⟨fun c3 => ?_, fun c4 => ?_⟩
  · refine sf_89_23_111 X h  trivial _ (fun r5 p6 => ?_)
    show (r5 = 0 → (qm_PW X 89 [.ref 23, .ref 112] h _)) ∧ (¬ r5 = 0 → (Q (some (.int 1)) h))
    refine ⟨fun c7 => ?_, fun c8 => ?_⟩
    · refine sf_89_23_112 X h  trivial _ (fun r9 p10 => ?_)
      show (r9 = 0 → (qm_PW X 89 [.ref 23, .ref 113] h _)) ∧ (¬ r9 = 0 → (Q (some (.int 2)) h))
      refine ⟨fun c11 => ?_, fun c12 => ?_⟩
      · refine sf_89_23_113 X h  trivial _ (fun r13 p14 => ?_)
        show (r13 = 0 → (qm_PW X 89 [.ref 23, .ref 114] h _)) ∧ (¬ r13 = 0 → (Q (some (.int 3)) h))
        refine ⟨fun c15 => ?_, fun c16 => ?_⟩
        · refine sf_89_23_114 X h  trivial _ (fun r17 p18 => ?_)
          show (r17 = 0 → (qm_PW X 89 [.ref 23, .ref 115] h _)) ∧ (¬ r17 = 0 → (Q (some (.int 4)) h))
          refine ⟨fun c19 => ?_, fun c20 => ?_⟩
          · refine sf_89_23_115 X h  trivial _ (fun r21 p22 => ?_)
            show (r21 = 0 → (Q (some (.int (-4 : Int32))) h)) ∧ (¬ r21 = 0 → (Q (some (.int 5)) h))
            refine ⟨fun c23 => ?_, fun c24 => ?_⟩
            · exact hq (-4 : Int32) trivial
            · exact hq 5 trivial
          · exact hq 4 trivial
        · exact hq 3 trivial
      · exact hq 2 trivial
    · exact hq 1 trivial
  · exact hq 0 trivial
-- ThreadBank$TextReader.readLine()Z
set_option maxRecDepth 100000 in
set_option maxHeartbeats 4000000 in
theorem sf_79_23 (X : qm_X) (h : qm_H) (hp : mq 25 h) (Q : qm_Q) (hq : ∀ r : Int32, ∀ h' : qm_H, (mq 25 h' ∧ (∀ k, (k < 23 ∨ 31 < k) → h' k = h k) ∧ (r = 0 ∨ r = 1)) → Q (some (.int r)) h') : qm_PW X 79 [.ref 23] h Q := by
  have hm25 : mq 25 h := hp
  have ⟨⟨_, _⟩, ⟨_, _⟩, _, _⟩ := hm25
  refine qm_seg_ok (C := qc_79) (rt := some .boolean) rfl rfl (cuts := []) 400 _ _ _ _ ?_
  show (¬ (h 23 7) = 1 → ((((-4 : Int32) = (-4 : Int32) → (qm_PW X 78 [.ref 23, .int 2, .int (h 23 8)] h _)) ∧ (¬ (-4 : Int32) = (-4 : Int32) → (((-4 : Int32) = 4 → (qm_PW X 80 [.ref 23] h _)) ∧ (¬ (-4 : Int32) = 4 → (((-4 : Int32) = 5 → (qm_PW X 81 [.ref 23] h _)) ∧ (¬ (-4 : Int32) = 5 → (qm_PW X 44 [.ref 25, .int (-4 : Int32)] h _))))))))) ∧ ((h 23 7) = 1 → (qm_PW X 88 [.ref 23] h _))
  refine ⟨fun c1 => ?_, fun c2 => ?_⟩
  · refine ⟨fun c3 => ?_, fun c4 => ?_⟩
    · refine sf_78_23 X h (2 : Int32) (h 23 8) trivial _ (fun r5 g6 p7 => ?_)
      have f8 : ∀ k, (k < 23 ∨ 31 < k) → g6 k = h k := fun k hk => (p7.1 k (by omega)).trans (rfl)
      have k9 : mq 25 g6 := by unfold mq; rw [p7.1 25 (by omega)]; exact hm25
      show (r5 = 0 ∨ r5 = 1) ∧ Q (some (.int r5)) g6
      exact ⟨(Or.inl p7.2), hq r5 g6 ⟨k9, (fun k hk => f8 k hk), (Or.inl p7.2)⟩⟩
    · refine ⟨fun c10 => ?_, fun c11 => ?_⟩
      · refine sf_80_23 X h  hm25 _ (fun r12 g13 p14 => ?_)
        have f15 : ∀ k, (k < 23 ∨ 31 < k) → g13 k = h k := fun k hk => (p14.2.1 k (by omega)).trans (rfl)
        show (r12 = 0 → (((0 : Int32) = 0 ∨ (0 : Int32) = 1) ∧ Q (some (.int 0)) g13)) ∧ (¬ r12 = 0 → (qm_PW X 83 [.ref 23] g13 _))
        refine ⟨fun c16 => ?_, fun c17 => ?_⟩
        · exact ⟨Or.inl rfl, hq 0 g13 ⟨p14.1, (fun k hk => f15 k hk), (Or.inl rfl)⟩⟩
        · refine sf_83_23 X g13  trivial _ (fun r18 g19 p20 => ?_)
          have f21 : ∀ k, (k < 23 ∨ 31 < k) → g19 k = h k := fun k hk => (p20.1 k (by omega)).trans (f15 k hk)
          have k22 : mq 25 g19 := by unfold mq; rw [p20.1 25 (by omega)]; exact p14.1
          show (r18 = 0 → (((0 : Int32) = 0 ∨ (0 : Int32) = 1) ∧ Q (some (.int 0)) g19)) ∧ (¬ r18 = 0 → (((1 : Int32) = 0 ∨ (1 : Int32) = 1) ∧ Q (some (.int 1)) g19))
          refine ⟨fun c23 => ?_, fun c24 => ?_⟩
          · exact ⟨Or.inl rfl, hq 0 g19 ⟨k22, (fun k hk => f21 k hk), (Or.inl rfl)⟩⟩
          · exact ⟨Or.inr rfl, hq 1 g19 ⟨k22, (fun k hk => f21 k hk), (Or.inr rfl)⟩⟩
      · refine ⟨fun c25 => ?_, fun c26 => ?_⟩
        · refine sf_81_23 X h  hm25 _ (fun r27 g28 p29 => ?_)
          have f30 : ∀ k, (k < 23 ∨ 31 < k) → g28 k = h k := fun k hk => (p29.2.1 k (by omega)).trans (rfl)
          show (r27 = 0 → (((0 : Int32) = 0 ∨ (0 : Int32) = 1) ∧ Q (some (.int 0)) g28)) ∧ (¬ r27 = 0 → (qm_PW X 83 [.ref 23] g28 _))
          refine ⟨fun c31 => ?_, fun c32 => ?_⟩
          · exact ⟨Or.inl rfl, hq 0 g28 ⟨p29.1, (fun k hk => f30 k hk), (Or.inl rfl)⟩⟩
          · refine sf_83_23 X g28  trivial _ (fun r33 g34 p35 => ?_)
            have f36 : ∀ k, (k < 23 ∨ 31 < k) → g34 k = h k := fun k hk => (p35.1 k (by omega)).trans (f30 k hk)
            have k37 : mq 25 g34 := by unfold mq; rw [p35.1 25 (by omega)]; exact p29.1
            show (r33 = 0 → (((0 : Int32) = 0 ∨ (0 : Int32) = 1) ∧ Q (some (.int 0)) g34)) ∧ (¬ r33 = 0 → (((1 : Int32) = 0 ∨ (1 : Int32) = 1) ∧ Q (some (.int 1)) g34))
            refine ⟨fun c38 => ?_, fun c39 => ?_⟩
            · exact ⟨Or.inl rfl, hq 0 g34 ⟨k37, (fun k hk => f36 k hk), (Or.inl rfl)⟩⟩
            · exact ⟨Or.inr rfl, hq 1 g34 ⟨k37, (fun k hk => f36 k hk), (Or.inr rfl)⟩⟩
        · refine sf_44_25 X h (-4 : Int32) hm25 _ (fun r40 g41 p42 => ?_)
          have f43 : ∀ k, (k < 23 ∨ 31 < k) → g41 k = h k := fun k hk => (p42.2.1 k (by omega)).trans (rfl)
          show (¬ r40 = 0 → (qm_PW X 83 [.ref 23] g41 _)) ∧ (r40 = 0 → (qm_PW X 78 [.ref 23, .int 5, .int (g41 23 8)] g41 _))
          refine ⟨fun c44 => ?_, fun c45 => ?_⟩
          · refine sf_83_23 X g41  trivial _ (fun r46 g47 p48 => ?_)
            have f49 : ∀ k, (k < 23 ∨ 31 < k) → g47 k = h k := fun k hk => (p48.1 k (by omega)).trans (f43 k hk)
            have k50 : mq 25 g47 := by unfold mq; rw [p48.1 25 (by omega)]; exact p42.1
            show (r46 = 0 → (((0 : Int32) = 0 ∨ (0 : Int32) = 1) ∧ Q (some (.int 0)) g47)) ∧ (¬ r46 = 0 → (((1 : Int32) = 0 ∨ (1 : Int32) = 1) ∧ Q (some (.int 1)) g47))
            refine ⟨fun c51 => ?_, fun c52 => ?_⟩
            · exact ⟨Or.inl rfl, hq 0 g47 ⟨k50, (fun k hk => f49 k hk), (Or.inl rfl)⟩⟩
            · exact ⟨Or.inr rfl, hq 1 g47 ⟨k50, (fun k hk => f49 k hk), (Or.inr rfl)⟩⟩
          · refine sf_78_23 X g41 (5 : Int32) (g41 23 8) trivial _ (fun r53 g54 p55 => ?_)
            have f56 : ∀ k, (k < 23 ∨ 31 < k) → g54 k = h k := fun k hk => (p55.1 k (by omega)).trans (f43 k hk)
            have k57 : mq 25 g54 := by unfold mq; rw [p55.1 25 (by omega)]; exact p42.1
            show (r53 = 0 → (((0 : Int32) = 0 ∨ (0 : Int32) = 1) ∧ Q (some (.int 0)) g54)) ∧ (¬ r53 = 0 → (qm_PW X 83 [.ref 23] g54 _))
            refine ⟨fun c58 => ?_, fun c59 => ?_⟩
            · exact ⟨Or.inl rfl, hq 0 g54 ⟨k57, (fun k hk => f56 k hk), (Or.inl rfl)⟩⟩
            · refine sf_83_23 X g54  trivial _ (fun r60 g61 p62 => ?_)
              have f63 : ∀ k, (k < 23 ∨ 31 < k) → g61 k = h k := fun k hk => (p62.1 k (by omega)).trans (f56 k hk)
              have k64 : mq 25 g61 := by unfold mq; rw [p62.1 25 (by omega)]; exact k57
              show (r60 = 0 → (((0 : Int32) = 0 ∨ (0 : Int32) = 1) ∧ Q (some (.int 0)) g61)) ∧ (¬ r60 = 0 → (((1 : Int32) = 0 ∨ (1 : Int32) = 1) ∧ Q (some (.int 1)) g61))
              refine ⟨fun c65 => ?_, fun c66 => ?_⟩
              · exact ⟨Or.inl rfl, hq 0 g61 ⟨k64, (fun k hk => f63 k hk), (Or.inl rfl)⟩⟩
              · exact ⟨Or.inr rfl, hq 1 g61 ⟨k64, (fun k hk => f63 k hk), (Or.inr rfl)⟩⟩
  · refine sf_88_23 X h  trivial _ (fun r67 p68 => ?_)
    show ((r67 = (-4 : Int32) → (qm_PW X 78 [.ref 23, .int 2, .int (h 23 8)] h _)) ∧ (¬ r67 = (-4 : Int32) → ((r67 = 4 → (qm_PW X 80 [.ref 23] h _)) ∧ (¬ r67 = 4 → ((r67 = 5 → (qm_PW X 81 [.ref 23] h _)) ∧ (¬ r67 = 5 → (qm_PW X 44 [.ref 25, .int r67] h _)))))))
    refine ⟨fun c69 => ?_, fun c70 => ?_⟩
    · refine sf_78_23 X h (2 : Int32) (h 23 8) trivial _ (fun r71 g72 p73 => ?_)
      have f74 : ∀ k, (k < 23 ∨ 31 < k) → g72 k = h k := fun k hk => (p73.1 k (by omega)).trans (rfl)
      have k75 : mq 25 g72 := by unfold mq; rw [p73.1 25 (by omega)]; exact hm25
      show (r71 = 0 ∨ r71 = 1) ∧ Q (some (.int r71)) g72
      exact ⟨(Or.inl p73.2), hq r71 g72 ⟨k75, (fun k hk => f74 k hk), (Or.inl p73.2)⟩⟩
    · refine ⟨fun c76 => ?_, fun c77 => ?_⟩
      · refine sf_80_23 X h  hm25 _ (fun r78 g79 p80 => ?_)
        have f81 : ∀ k, (k < 23 ∨ 31 < k) → g79 k = h k := fun k hk => (p80.2.1 k (by omega)).trans (rfl)
        show (r78 = 0 → (((0 : Int32) = 0 ∨ (0 : Int32) = 1) ∧ Q (some (.int 0)) g79)) ∧ (¬ r78 = 0 → (qm_PW X 83 [.ref 23] g79 _))
        refine ⟨fun c82 => ?_, fun c83 => ?_⟩
        · exact ⟨Or.inl rfl, hq 0 g79 ⟨p80.1, (fun k hk => f81 k hk), (Or.inl rfl)⟩⟩
        · refine sf_83_23 X g79  trivial _ (fun r84 g85 p86 => ?_)
          have f87 : ∀ k, (k < 23 ∨ 31 < k) → g85 k = h k := fun k hk => (p86.1 k (by omega)).trans (f81 k hk)
          have k88 : mq 25 g85 := by unfold mq; rw [p86.1 25 (by omega)]; exact p80.1
          show (r84 = 0 → (((0 : Int32) = 0 ∨ (0 : Int32) = 1) ∧ Q (some (.int 0)) g85)) ∧ (¬ r84 = 0 → (((1 : Int32) = 0 ∨ (1 : Int32) = 1) ∧ Q (some (.int 1)) g85))
          refine ⟨fun c89 => ?_, fun c90 => ?_⟩
          · exact ⟨Or.inl rfl, hq 0 g85 ⟨k88, (fun k hk => f87 k hk), (Or.inl rfl)⟩⟩
          · exact ⟨Or.inr rfl, hq 1 g85 ⟨k88, (fun k hk => f87 k hk), (Or.inr rfl)⟩⟩
      · refine ⟨fun c91 => ?_, fun c92 => ?_⟩
        · refine sf_81_23 X h  hm25 _ (fun r93 g94 p95 => ?_)
          have f96 : ∀ k, (k < 23 ∨ 31 < k) → g94 k = h k := fun k hk => (p95.2.1 k (by omega)).trans (rfl)
          show (r93 = 0 → (((0 : Int32) = 0 ∨ (0 : Int32) = 1) ∧ Q (some (.int 0)) g94)) ∧ (¬ r93 = 0 → (qm_PW X 83 [.ref 23] g94 _))
          refine ⟨fun c97 => ?_, fun c98 => ?_⟩
          · exact ⟨Or.inl rfl, hq 0 g94 ⟨p95.1, (fun k hk => f96 k hk), (Or.inl rfl)⟩⟩
          · refine sf_83_23 X g94  trivial _ (fun r99 g100 p101 => ?_)
            have f102 : ∀ k, (k < 23 ∨ 31 < k) → g100 k = h k := fun k hk => (p101.1 k (by omega)).trans (f96 k hk)
            have k103 : mq 25 g100 := by unfold mq; rw [p101.1 25 (by omega)]; exact p95.1
            show (r99 = 0 → (((0 : Int32) = 0 ∨ (0 : Int32) = 1) ∧ Q (some (.int 0)) g100)) ∧ (¬ r99 = 0 → (((1 : Int32) = 0 ∨ (1 : Int32) = 1) ∧ Q (some (.int 1)) g100))
            refine ⟨fun c104 => ?_, fun c105 => ?_⟩
            · exact ⟨Or.inl rfl, hq 0 g100 ⟨k103, (fun k hk => f102 k hk), (Or.inl rfl)⟩⟩
            · exact ⟨Or.inr rfl, hq 1 g100 ⟨k103, (fun k hk => f102 k hk), (Or.inr rfl)⟩⟩
        · refine sf_44_25 X h r67 hm25 _ (fun r106 g107 p108 => ?_)
          have f109 : ∀ k, (k < 23 ∨ 31 < k) → g107 k = h k := fun k hk => (p108.2.1 k (by omega)).trans (rfl)
          show (¬ r106 = 0 → (qm_PW X 83 [.ref 23] g107 _)) ∧ (r106 = 0 → (qm_PW X 78 [.ref 23, .int 5, .int (g107 23 8)] g107 _))
          refine ⟨fun c110 => ?_, fun c111 => ?_⟩
          · refine sf_83_23 X g107  trivial _ (fun r112 g113 p114 => ?_)
            have f115 : ∀ k, (k < 23 ∨ 31 < k) → g113 k = h k := fun k hk => (p114.1 k (by omega)).trans (f109 k hk)
            have k116 : mq 25 g113 := by unfold mq; rw [p114.1 25 (by omega)]; exact p108.1
            show (r112 = 0 → (((0 : Int32) = 0 ∨ (0 : Int32) = 1) ∧ Q (some (.int 0)) g113)) ∧ (¬ r112 = 0 → (((1 : Int32) = 0 ∨ (1 : Int32) = 1) ∧ Q (some (.int 1)) g113))
            refine ⟨fun c117 => ?_, fun c118 => ?_⟩
            · exact ⟨Or.inl rfl, hq 0 g113 ⟨k116, (fun k hk => f115 k hk), (Or.inl rfl)⟩⟩
            · exact ⟨Or.inr rfl, hq 1 g113 ⟨k116, (fun k hk => f115 k hk), (Or.inr rfl)⟩⟩
          · refine sf_78_23 X g107 (5 : Int32) (g107 23 8) trivial _ (fun r119 g120 p121 => ?_)
            have f122 : ∀ k, (k < 23 ∨ 31 < k) → g120 k = h k := fun k hk => (p121.1 k (by omega)).trans (f109 k hk)
            have k123 : mq 25 g120 := by unfold mq; rw [p121.1 25 (by omega)]; exact p108.1
            show (r119 = 0 → (((0 : Int32) = 0 ∨ (0 : Int32) = 1) ∧ Q (some (.int 0)) g120)) ∧ (¬ r119 = 0 → (qm_PW X 83 [.ref 23] g120 _))
            refine ⟨fun c124 => ?_, fun c125 => ?_⟩
            · exact ⟨Or.inl rfl, hq 0 g120 ⟨k123, (fun k hk => f122 k hk), (Or.inl rfl)⟩⟩
            · refine sf_83_23 X g120  trivial _ (fun r126 g127 p128 => ?_)
              have f129 : ∀ k, (k < 23 ∨ 31 < k) → g127 k = h k := fun k hk => (p128.1 k (by omega)).trans (f122 k hk)
              have k130 : mq 25 g127 := by unfold mq; rw [p128.1 25 (by omega)]; exact k123
              show (r126 = 0 → (((0 : Int32) = 0 ∨ (0 : Int32) = 1) ∧ Q (some (.int 0)) g127)) ∧ (¬ r126 = 0 → (((1 : Int32) = 0 ∨ (1 : Int32) = 1) ∧ Q (some (.int 1)) g127))
              refine ⟨fun c131 => ?_, fun c132 => ?_⟩
              · exact ⟨Or.inl rfl, hq 0 g127 ⟨k130, (fun k hk => f129 k hk), (Or.inl rfl)⟩⟩
              · exact ⟨Or.inr rfl, hq 1 g127 ⟨k130, (fun k hk => f129 k hk), (Or.inr rfl)⟩⟩
-- ThreadBank$TextReader.isWhole()Z
set_option maxRecDepth 100000 in
set_option maxHeartbeats 4000000 in
theorem sf_84_23_c (X : qm_X) (h : qm_H) (hp : mq 25 h) (Q : qm_Q) (hq : ∀ r : Int32, ∀ h' : qm_H, (mq 25 h' ∧ (∀ k, (k < 23 ∨ 23 < k) → h' k = h k) ∧ (r = 0 ∨ r = 1)) → Q (some (.int r)) h') : ∀ n : Nat, (∀ (l1 : Int32), (0 ≤ l1.toInt ∧ l1.toInt ≤ 10) → (30 - l1.toInt).toNat < n → qm_PA X 84 2 [(0, .ref 23), (1, .int l1)] [] h Q) ∧ (∀ (l1 : Int32), (0 ≤ l1.toInt ∧ l1.toInt ≤ 10) → (10 - l1.toInt).toNat < n → qm_PA X 84 70 [(0, .ref 23), (1, .int l1)] [] h Q) := by
  have hm25 : mq 25 h := hp
  have ⟨⟨_, _⟩, ⟨_, _⟩, _, _⟩ := hm25
  intro n
  induction n with
  | zero => exact ⟨fun _ _ h0 => absurd h0 (Nat.not_lt_zero _), fun _ _ h0 => absurd h0 (Nat.not_lt_zero _)⟩
  | succ n ih =>
    refine ⟨?_, ?_⟩
    · intro l1 hi hr
      refine qm_seg_ok (C := qc_84) (rt := some .boolean) rfl rfl (cuts := [(2, [0, 1]), (70, [0, 1])]) 400 _ _ _ _ ?_
      show ((h 25 7).toInt ≤ l1.toInt → (qm_PA X 84 70 [(0, .ref 23), (1, .int 0)] [] h Q)) ∧ (l1.toInt < (h 25 7).toInt → ((0 ≤ l1.toInt ∧ l1.toInt < 10) ∧ (qm_PW X 30 [.ref 25, .int (h 27 l1.toInt.toNat)] h _)))
      refine ⟨fun c1 => ?_, fun c2 => ?_⟩
      · exact ih.2 (0 : Int32) (by have : (0 : Int32).toInt = 0 := rfl; omega) (by have : (0 : Int32).toInt = 0 := rfl; omega)
      · refine ⟨(by omega), ?_⟩
        refine sf_30_25 X h (h 27 l1.toInt.toNat) trivial _ (fun r3 p4 => ?_)
        show (r3 = 0 → (qm_PW X 78 [.ref 23, .int 6, .int (h 23 2)] h _)) ∧ (¬ r3 = 0 → ((0 ≤ l1.toInt ∧ l1.toInt < 10) ∧ (qm_PW X 31 [.ref 25, .int (h 28 l1.toInt.toNat)] h _)))
        refine ⟨fun c5 => ?_, fun c6 => ?_⟩
        · refine sf_78_23 X h (6 : Int32) (h 23 2) trivial _ (fun r7 g8 p9 => ?_)
          have f10 : ∀ k, (k < 23 ∨ 23 < k) → g8 k = h k := fun k hk => (p9.1 k (by omega)).trans (rfl)
          have k11 : mq 25 g8 := by unfold mq; rw [p9.1 25 (by omega)]; exact hm25
          show (r7 = 0 ∨ r7 = 1) ∧ Q (some (.int r7)) g8
          exact ⟨(Or.inl p9.2), hq r7 g8 ⟨k11, (fun k hk => f10 k hk), (Or.inl p9.2)⟩⟩
        · refine ⟨(by omega), ?_⟩
          refine sf_31_25 X h (h 28 l1.toInt.toNat) trivial _ (fun r12 p13 => ?_)
          show (¬ r12 = 0 → (qm_PA X 84 2 [(0, .ref 23), (1, .int (l1 + 1))] [] h Q)) ∧ (r12 = 0 → (qm_PW X 78 [.ref 23, .int 6, .int (h 23 2)] h _))
          refine ⟨fun c14 => ?_, fun c15 => ?_⟩
          · exact ih.1 (l1 + 1) (by have := ti_addK l1 (1 : Int32) 1 rfl; omega) (by have := ti_addK l1 (1 : Int32) 1 rfl; omega)
          · refine sf_78_23 X h (6 : Int32) (h 23 2) trivial _ (fun r16 g17 p18 => ?_)
            have f19 : ∀ k, (k < 23 ∨ 23 < k) → g17 k = h k := fun k hk => (p18.1 k (by omega)).trans (rfl)
            have k20 : mq 25 g17 := by unfold mq; rw [p18.1 25 (by omega)]; exact hm25
            show (r16 = 0 ∨ r16 = 1) ∧ Q (some (.int r16)) g17
            exact ⟨(Or.inl p18.2), hq r16 g17 ⟨k20, (fun k hk => f19 k hk), (Or.inl p18.2)⟩⟩
    · intro l1 hi hr
      refine qm_seg_ok (C := qc_84) (rt := some .boolean) rfl rfl (cuts := [(2, [0, 1]), (70, [0, 1])]) 400 _ _ _ _ ?_
      show ((h 25 7).toInt ≤ l1.toInt → (((1 : Int32) = 0 ∨ (1 : Int32) = 1) ∧ Q (some (.int 1)) h)) ∧ (l1.toInt < (h 25 7).toInt → ((0 ≤ l1.toInt ∧ l1.toInt < 10) ∧ (qm_PW X 40 [.ref 25, .int (h 27 l1.toInt.toNat)] h _)))
      refine ⟨fun c1 => ?_, fun c2 => ?_⟩
      · exact ⟨Or.inr rfl, hq 1 h ⟨hm25, (fun k hk => rfl), (Or.inr rfl)⟩⟩
      · refine ⟨(by omega), ?_⟩
        refine sf_40_25 X h (h 27 l1.toInt.toNat) hm25 _ (fun r3 p4 => ?_)
        show (0 ≤ r3.toInt → (qm_PA X 84 70 [(0, .ref 23), (1, .int (l1 + 1))] [] h Q)) ∧ (r3.toInt < 0 → (qm_PW X 78 [.ref 23, .int 7, .int (h 23 2)] h _))
        refine ⟨fun c5 => ?_, fun c6 => ?_⟩
        · exact ih.2 (l1 + 1) (by have := ti_addK l1 (1 : Int32) 1 rfl; omega) (by have := ti_addK l1 (1 : Int32) 1 rfl; omega)
        · refine sf_78_23 X h (7 : Int32) (h 23 2) trivial _ (fun r7 g8 p9 => ?_)
          have f10 : ∀ k, (k < 23 ∨ 23 < k) → g8 k = h k := fun k hk => (p9.1 k (by omega)).trans (rfl)
          have k11 : mq 25 g8 := by unfold mq; rw [p9.1 25 (by omega)]; exact hm25
          show (r7 = 0 ∨ r7 = 1) ∧ Q (some (.int r7)) g8
          exact ⟨(Or.inl p9.2), hq r7 g8 ⟨k11, (fun k hk => f10 k hk), (Or.inl p9.2)⟩⟩
set_option maxRecDepth 100000 in
set_option maxHeartbeats 4000000 in
theorem sf_84_23 (X : qm_X) (h : qm_H) (hp : mq 25 h) (Q : qm_Q) (hq : ∀ r : Int32, ∀ h' : qm_H, (mq 25 h' ∧ (∀ k, (k < 23 ∨ 23 < k) → h' k = h k) ∧ (r = 0 ∨ r = 1)) → Q (some (.int r)) h') : qm_PW X 84 [.ref 23] h Q := by
  have hm25 : mq 25 h := hp
  have ⟨⟨_, _⟩, ⟨_, _⟩, _, _⟩ := hm25
  refine qm_seg_ok (C := qc_84) (rt := some .boolean) rfl rfl (cuts := [(2, [0, 1]), (70, [0, 1])]) 400 _ _ _ _ ?_
  show qm_PA X 84 2 [(0, .ref 23), (1, .int 0)] [] h Q
  exact (sf_84_23_c X h hp Q hq _).1 (0 : Int32) (by have : (0 : Int32).toInt = 0 := rfl; omega) (Nat.lt_succ_self _)
-- ThreadBank$TextReader.readAll()Z
set_option maxRecDepth 100000 in
set_option maxHeartbeats 4000000 in
theorem sf_76_23_c (X : qm_X) (h : qm_H) (hp : True) (Q : qm_Q) (hq : ∀ r : Int32, ∀ h' : qm_H, (mq 25 h' ∧ (∀ k, (k < 23 ∨ 31 < k) → h' k = h k) ∧ (r = 0 ∨ r = 1)) → Q (some (.int r)) h') : ∀ n : Nat, (∀ (l1 : Int32) (g : qm_H), ((0 ≤ l1.toInt ∧ l1.toInt ≤ 161) ∧ mq 25 g ∧ ∀ k, (k < 23 ∨ 31 < k) → g k = h k) → (161 - l1.toInt).toNat < n → qm_PA X 76 6 [(0, .ref 23), (1, .int l1)] [] g Q) := by
  intro n
  induction n with
  | zero => exact fun _ _ _ h0 => absurd h0 (Nat.not_lt_zero _)
  | succ n ih =>
    intro l1 g hi hr
    obtain ⟨hi0, hg25, hgf⟩ := hi
    have ⟨⟨_, _⟩, ⟨_, _⟩, _, _⟩ := hg25
    refine qm_seg_ok (C := qc_76) (rt := some .boolean) rfl rfl (cuts := [(6, [0, 1])]) 400 _ _ _ _ ?_
    show (160 < l1.toInt → (((0 : Int32) = 0 ∨ (0 : Int32) = 1) ∧ Q (some (.int 0)) g)) ∧ (l1.toInt ≤ 160 → (qm_PW X 85 [.ref 23] g _))
    refine ⟨fun c1 => ?_, fun c2 => ?_⟩
    · exact ⟨Or.inl rfl, hq 0 g ⟨hg25, (fun k hk => hgf k hk), (Or.inl rfl)⟩⟩
    · refine sf_85_23 X g  trivial _ (fun r3 g4 p5 => ?_)
      have f6 : ∀ k, (k < 23 ∨ 31 < k) → g4 k = h k := fun k hk => (p5.1 k (by omega)).trans (hgf k hk)
      have k7 : mq 25 g4 := by unfold mq; rw [p5.1 25 (by omega)]; exact hg25
      show (¬ r3 = 0 → ((¬ (g4 23 7) = 0 → (qm_PW X 79 [.ref 23] g4 _)) ∧ ((g4 23 7) = 0 → (qm_PW X 84 [.ref 23] g4 _)))) ∧ (r3 = 0 → (((0 : Int32) = 0 ∨ (0 : Int32) = 1) ∧ Q (some (.int 0)) g4))
      refine ⟨fun c8 => ?_, fun c9 => ?_⟩
      · refine ⟨fun c10 => ?_, fun c11 => ?_⟩
        · refine sf_79_23 X g4  k7 _ (fun r12 g13 p14 => ?_)
          have f15 : ∀ k, (k < 23 ∨ 31 < k) → g13 k = h k := fun k hk => (p14.2.1 k (by omega)).trans (f6 k hk)
          show (¬ r12 = 0 → (qm_PA X 76 6 [(0, .ref 23), (1, .int (l1 + 1))] [] (qm_row g13 23 (upd (g13 23) 3 ((g13 23 3) + 1))) Q)) ∧ (r12 = 0 → (((0 : Int32) = 0 ∨ (0 : Int32) = 1) ∧ Q (some (.int 0)) g13))
          refine ⟨fun c16 => ?_, fun c17 => ?_⟩
          · exact ih (l1 + 1) (qm_row g13 23 (upd (g13 23) 3 ((g13 23 3) + 1))) ⟨(by have := ti_addK l1 (1 : Int32) 1 rfl; show 0 ≤ (l1 + 1).toInt ∧ (l1 + 1).toInt ≤ 161; omega), (by exact p14.1), (fun k hk => by simp only [qm_row]; rw [if_neg (by omega)]; exact f15 k hk)⟩ (by have := ti_addK l1 (1 : Int32) 1 rfl; show (161 - (l1 + 1).toInt).toNat < n; omega)
          · exact ⟨Or.inl rfl, hq 0 g13 ⟨p14.1, (fun k hk => f15 k hk), (Or.inl rfl)⟩⟩
        · refine sf_84_23 X g4  k7 _ (fun r18 g19 p20 => ?_)
          have f21 : ∀ k, (k < 23 ∨ 31 < k) → g19 k = h k := fun k hk => (p20.2.1 k (by omega)).trans (f6 k hk)
          show (r18 = 0 ∨ r18 = 1) ∧ Q (some (.int r18)) g19
          exact ⟨p20.2.2, hq r18 g19 ⟨p20.1, (fun k hk => f21 k hk), p20.2.2⟩⟩
      · exact ⟨Or.inl rfl, hq 0 g4 ⟨k7, (fun k hk => f6 k hk), (Or.inl rfl)⟩⟩
set_option maxRecDepth 100000 in
set_option maxHeartbeats 4000000 in
theorem sf_76_23 (X : qm_X) (h : qm_H) (hp : True) (Q : qm_Q) (hq : ∀ r : Int32, ∀ h' : qm_H, (mq 25 h' ∧ (∀ k, (k < 23 ∨ 31 < k) → h' k = h k) ∧ (r = 0 ∨ r = 1)) → Q (some (.int r)) h') : qm_PW X 76 [.ref 23] h Q := by
  refine qm_seg_ok (C := qc_76) (rt := some .boolean) rfl rfl (cuts := [(6, [0, 1])]) 400 _ _ _ _ ?_
  show qm_PW X 77 [.ref 23] h _
  refine sf_77_23 X h  trivial _ (fun g1 p2 => ?_)
  have f3 : ∀ k, (k < 23 ∨ 31 < k) → g1 k = h k := fun k hk => (p2.2 k (by omega)).trans (rfl)
  show qm_PA X 76 6 [(0, .ref 23), (1, .int 0)] [] g1 Q
  exact (sf_76_23_c X h hp Q hq _) (0 : Int32) g1 ⟨(by have : (0 : Int32).toInt = 0 := rfl; show 0 ≤ (0 : Int32).toInt ∧ (0 : Int32).toInt ≤ 161; omega), p2.1, (fun k hk => f3 k hk)⟩ (Nat.lt_succ_self _)
