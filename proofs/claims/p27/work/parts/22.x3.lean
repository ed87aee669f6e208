-- java/lang/Integer.bitCount(I)I
set_option maxRecDepth 100000 in
set_option maxHeartbeats 4000000 in
theorem sf_0 (X : qm_X) (h : qm_H) (a : Int32) (hp : True) (Q : qm_Q) (hq : ∀ r : Int32, (True) → Q (some (.int r)) h) : qm_PW X 0 [.int a] h Q := by
  refine qm_seg_ok (C := qc_0) (rt := some .int) rfl rfl (cuts := []) 400 _ _ _ _ ?_
  show Q (some (.int ((((((((a - ((((Int32.toUInt32 a) >>> ((Int32.toUInt32 1) &&& Int32.toUInt32 31)).toInt32) &&& 1431655765)) &&& 858993459) + ((((Int32.toUInt32 (a - ((((Int32.toUInt32 a) >>> ((Int32.toUInt32 1) &&& Int32.toUInt32 31)).toInt32) &&& 1431655765))) >>> ((Int32.toUInt32 2) &&& Int32.toUInt32 31)).toInt32) &&& 858993459)) + (((Int32.toUInt32 (((a - ((((Int32.toUInt32 a) >>> ((Int32.toUInt32 1) &&& Int32.toUInt32 31)).toInt32) &&& 1431655765)) &&& 858993459) + ((((Int32.toUInt32 (a - ((((Int32.toUInt32 a) >>> ((Int32.toUInt32 1) &&& Int32.toUInt32 31)).toInt32) &&& 1431655765))) >>> ((Int32.toUInt32 2) &&& Int32.toUInt32 31)).toInt32) &&& 858993459))) >>> ((Int32.toUInt32 4) &&& Int32.toUInt32 31)).toInt32)) &&& 252645135) + (((Int32.toUInt32 (((((a - ((((Int32.toUInt32 a) >>> ((Int32.toUInt32 1) &&& Int32.toUInt32 31)).toInt32) &&& 1431655765)) &&& 858993459) + ((((Int32.toUInt32 (a - ((((Int32.toUInt32 a) >>> ((Int32.toUInt32 1) &&& Int32.toUInt32 31)).toInt32) &&& 1431655765))) >>> ((Int32.toUInt32 2) &&& Int32.toUInt32 31)).toInt32) &&& 858993459)) + (((Int32.toUInt32 (((a - ((((Int32.toUInt32 a) >>> ((Int32.toUInt32 1) &&& Int32.toUInt32 31)).toInt32) &&& 1431655765)) &&& 858993459) + ((((Int32.toUInt32 (a - ((((Int32.toUInt32 a) >>> ((Int32.toUInt32 1) &&& Int32.toUInt32 31)).toInt32) &&& 1431655765))) >>> ((Int32.toUInt32 2) &&& Int32.toUInt32 31)).toInt32) &&& 858993459))) >>> ((Int32.toUInt32 4) &&& Int32.toUInt32 31)).toInt32)) &&& 252645135)) >>> ((Int32.toUInt32 8) &&& Int32.toUInt32 31)).toInt32)) + (((Int32.toUInt32 ((((((a - ((((Int32.toUInt32 a) >>> ((Int32.toUInt32 1) &&& Int32.toUInt32 31)).toInt32) &&& 1431655765)) &&& 858993459) + ((((Int32.toUInt32 (a - ((((Int32.toUInt32 a) >>> ((Int32.toUInt32 1) &&& Int32.toUInt32 31)).toInt32) &&& 1431655765))) >>> ((Int32.toUInt32 2) &&& Int32.toUInt32 31)).toInt32) &&& 858993459)) + (((Int32.toUInt32 (((a - ((((Int32.toUInt32 a) >>> ((Int32.toUInt32 1) &&& Int32.toUInt32 31)).toInt32) &&& 1431655765)) &&& 858993459) + ((((Int32.toUInt32 (a - ((((Int32.toUInt32 a) >>> ((Int32.toUInt32 1) &&& Int32.toUInt32 31)).toInt32) &&& 1431655765))) >>> ((Int32.toUInt32 2) &&& Int32.toUInt32 31)).toInt32) &&& 858993459))) >>> ((Int32.toUInt32 4) &&& Int32.toUInt32 31)).toInt32)) &&& 252645135) + (((Int32.toUInt32 (((((a - ((((Int32.toUInt32 a) >>> ((Int32.toUInt32 1) &&& Int32.toUInt32 31)).toInt32) &&& 1431655765)) &&& 858993459) + ((((Int32.toUInt32 (a - ((((Int32.toUInt32 a) >>> ((Int32.toUInt32 1) &&& Int32.toUInt32 31)).toInt32) &&& 1431655765))) >>> ((Int32.toUInt32 2) &&& Int32.toUInt32 31)).toInt32) &&& 858993459)) + (((Int32.toUInt32 (((a - ((((Int32.toUInt32 a) >>> ((Int32.toUInt32 1) &&& Int32.toUInt32 31)).toInt32) &&& 1431655765)) &&& 858993459) + ((((Int32.toUInt32 (a - ((((Int32.toUInt32 a) >>> ((Int32.toUInt32 1) &&& Int32.toUInt32 31)).toInt32) &&& 1431655765))) >>> ((Int32.toUInt32 2) &&& Int32.toUInt32 31)).toInt32) &&& 858993459))) >>> ((Int32.toUInt32 4) &&& Int32.toUInt32 31)).toInt32)) &&& 252645135)) >>> ((Int32.toUInt32 8) &&& Int32.toUInt32 31)).toInt32))) >>> ((Int32.toUInt32 16) &&& Int32.toUInt32 31)).toInt32)) &&& 63))) h
  exact hq ((((((((a - ((((Int32.toUInt32 a) >>> ((Int32.toUInt32 1) &&& Int32.toUInt32 31)).toInt32) &&& 1431655765)) &&& 858993459) + ((((Int32.toUInt32 (a - ((((Int32.toUInt32 a) >>> ((Int32.toUInt32 1) &&& Int32.toUInt32 31)).toInt32) &&& 1431655765))) >>> ((Int32.toUInt32 2) &&& Int32.toUInt32 31)).toInt32) &&& 858993459)) + (((Int32.toUInt32 (((a - ((((Int32.toUInt32 a) >>> ((Int32.toUInt32 1) &&& Int32.toUInt32 31)).toInt32) &&& 1431655765)) &&& 858993459) + ((((Int32.toUInt32 (a - ((((Int32.toUInt32 a) >>> ((Int32.toUInt32 1) &&& Int32.toUInt32 31)).toInt32) &&& 1431655765))) >>> ((Int32.toUInt32 2) &&& Int32.toUInt32 31)).toInt32) &&& 858993459))) >>> ((Int32.toUInt32 4) &&& Int32.toUInt32 31)).toInt32)) &&& 252645135) + (((Int32.toUInt32 (((((a - ((((Int32.toUInt32 a) >>> ((Int32.toUInt32 1) &&& Int32.toUInt32 31)).toInt32) &&& 1431655765)) &&& 858993459) + ((((Int32.toUInt32 (a - ((((Int32.toUInt32 a) >>> ((Int32.toUInt32 1) &&& Int32.toUInt32 31)).toInt32) &&& 1431655765))) >>> ((Int32.toUInt32 2) &&& Int32.toUInt32 31)).toInt32) &&& 858993459)) + (((Int32.toUInt32 (((a - ((((Int32.toUInt32 a) >>> ((Int32.toUInt32 1) &&& Int32.toUInt32 31)).toInt32) &&& 1431655765)) &&& 858993459) + ((((Int32.toUInt32 (a - ((((Int32.toUInt32 a) >>> ((Int32.toUInt32 1) &&& Int32.toUInt32 31)).toInt32) &&& 1431655765))) >>> ((Int32.toUInt32 2) &&& Int32.toUInt32 31)).toInt32) &&& 858993459))) >>> ((Int32.toUInt32 4) &&& Int32.toUInt32 31)).toInt32)) &&& 252645135)) >>> ((Int32.toUInt32 8) &&& Int32.toUInt32 31)).toInt32)) + (((Int32.toUInt32 ((((((a - ((((Int32.toUInt32 a) >>> ((Int32.toUInt32 1) &&& Int32.toUInt32 31)).toInt32) &&& 1431655765)) &&& 858993459) + ((((Int32.toUInt32 (a - ((((Int32.toUInt32 a) >>> ((Int32.toUInt32 1) &&& Int32.toUInt32 31)).toInt32) &&& 1431655765))) >>> ((Int32.toUInt32 2) &&& Int32.toUInt32 31)).toInt32) &&& 858993459)) + (((Int32.toUInt32 (((a - ((((Int32.toUInt32 a) >>> ((Int32.toUInt32 1) &&& Int32.toUInt32 31)).toInt32) &&& 1431655765)) &&& 858993459) + ((((Int32.toUInt32 (a - ((((Int32.toUInt32 a) >>> ((Int32.toUInt32 1) &&& Int32.toUInt32 31)).toInt32) &&& 1431655765))) >>> ((Int32.toUInt32 2) &&& Int32.toUInt32 31)).toInt32) &&& 858993459))) >>> ((Int32.toUInt32 4) &&& Int32.toUInt32 31)).toInt32)) &&& 252645135) + (((Int32.toUInt32 (((((a - ((((Int32.toUInt32 a) >>> ((Int32.toUInt32 1) &&& Int32.toUInt32 31)).toInt32) &&& 1431655765)) &&& 858993459) + ((((Int32.toUInt32 (a - ((((Int32.toUInt32 a) >>> ((Int32.toUInt32 1) &&& Int32.toUInt32 31)).toInt32) &&& 1431655765))) >>> ((Int32.toUInt32 2) &&& Int32.toUInt32 31)).toInt32) &&& 858993459)) + (((Int32.toUInt32 (((a - ((((Int32.toUInt32 a) >>> ((Int32.toUInt32 1) &&& Int32.toUInt32 31)).toInt32) &&& 1431655765)) &&& 858993459) + ((((Int32.toUInt32 (a - ((((Int32.toUInt32 a) >>> ((Int32.toUInt32 1) &&& Int32.toUInt32 31)).toInt32) &&& 1431655765))) >>> ((Int32.toUInt32 2) &&& Int32.toUInt32 31)).toInt32) &&& 858993459))) >>> ((Int32.toUInt32 4) &&& Int32.toUInt32 31)).toInt32)) &&& 252645135)) >>> ((Int32.toUInt32 8) &&& Int32.toUInt32 31)).toInt32))) >>> ((Int32.toUInt32 16) &&& Int32.toUInt32 31)).toInt32)) &&& 63) trivial
-- java/lang/Math.max(II)I
set_option maxRecDepth 100000 in
set_option maxHeartbeats 4000000 in
theorem sf_1 (X : qm_X) (h : qm_H) (a : Int32) (b : Int32) (hp : True) (Q : qm_Q) (hq : ∀ r : Int32, (a.toInt ≤ r.toInt ∧ b.toInt ≤ r.toInt) → Q (some (.int r)) h) : qm_PW X 1 [.int a, .int b] h Q := by
  refine qm_seg_ok (C := qc_1) (rt := some .int) rfl rfl (cuts := []) 400 _ _ _ _ ?_
  show (a.toInt < b.toInt → (Q (some (.int b)) h)) ∧ (b.toInt ≤ a.toInt → (Q (some (.int a)) h))
  refine ⟨fun c1 => ?_, fun c2 => ?_⟩
  · exact hq b (by omega)
  · exact hq a (by omega)
-- java/lang/Math.min(II)I
set_option maxRecDepth 100000 in
set_option maxHeartbeats 4000000 in
theorem sf_2 (X : qm_X) (h : qm_H) (a : Int32) (b : Int32) (hp : True) (Q : qm_Q) (hq : ∀ r : Int32, (True) → Q (some (.int r)) h) : qm_PW X 2 [.int a, .int b] h Q := by
  refine qm_seg_ok (C := qc_2) (rt := some .int) rfl rfl (cuts := []) 400 _ _ _ _ ?_
  show (b.toInt < a.toInt → (Q (some (.int b)) h)) ∧ (a.toInt ≤ b.toInt → (Q (some (.int a)) h))
  refine ⟨fun c1 => ?_, fun c2 => ?_⟩
  · exact hq b trivial
  · exact hq a trivial
-- jdk/internal/util/Preconditions.checkIndex(IILjava/util/function/BiFunction;)I
set_option maxRecDepth 100000 in
set_option maxHeartbeats 4000000 in
theorem sf_9 (X : qm_X) (h : qm_H) (a : Int32) (b : Int32) (hp : 0 ≤ a.toInt ∧ a.toInt < b.toInt) (Q : qm_Q) (hq : ∀ r : Int32, (True) → Q (some (.int r)) h) : qm_PW X 9 [.int a, .int b, .ref 140] h Q := by
  have hp0 : 0 ≤ a.toInt ∧ a.toInt < b.toInt := hp
  refine qm_seg_ok (C := qc_9) (rt := some .int) rfl rfl (cuts := []) 400 _ _ _ _ ?_
  show (a.toInt < 0 → (False)) ∧ (0 ≤ a.toInt → ((a.toInt < b.toInt → (Q (some (.int a)) h)) ∧ (b.toInt ≤ a.toInt → (False))))
  refine ⟨fun c1 => ?_, fun c2 => ?_⟩
  · exact (by first | omega | (subst_vars; contradiction) | simp_all)
  · refine ⟨fun c3 => ?_, fun c4 => ?_⟩
    · exact hq a trivial
    · exact (by first | omega | (subst_vars; contradiction) | simp_all)
-- java/lang/String.checkIndex(II)V
set_option maxRecDepth 100000 in
set_option maxHeartbeats 4000000 in
theorem sf_8 (X : qm_X) (h : qm_H) (a : Int32) (b : Int32) (hp : 0 ≤ a.toInt ∧ a.toInt < b.toInt) (Q : qm_Q) (hq : (True) → Q none h) : qm_PW X 8 [.int a, .int b] h Q := by
  have hp0 : 0 ≤ a.toInt ∧ a.toInt < b.toInt := hp
  refine qm_seg_ok (C := qc_8) (rt := none) rfl rfl (cuts := []) 400 _ _ _ _ ?_
  show qm_PW X 9 [.int a, .int b, .ref 140] h _
  refine sf_9 X h a b (by omega) _ (fun r1 p2 => ?_)
  show Q none h
  exact hq  trivial
-- java/lang/String.coder()B
set_option maxRecDepth 100000 in
set_option maxHeartbeats 4000000 in
theorem sf_4_110 (X : qm_X) (h : qm_H) (hp : True) (Q : qm_Q) (hq : ∀ r : Int32, (r = 0) → Q (some (.int r)) h) : qm_PW X 4 [.ref 110] h Q := by
  refine qm_seg_ok (C := qc_4) (rt := some .byte) rfl rfl (cuts := []) 400 _ _ _ _ ?_
  show ((1 : Int32) = 0 → ((1 : Int32) = 0 ∧ Q (some (.int 1)) h)) ∧ (¬ (1 : Int32) = 0 → ((0 : Int32) = 0 ∧ Q (some (.int 0)) h))
  refine ⟨fun c1 => ?_, fun c2 => ?_⟩
  · exact absurd c1 (by decide)
  · exact ⟨rfl, hq 0 (by rfl)⟩
-- java/lang/String.isLatin1()Z
set_option maxRecDepth 100000 in
set_option maxHeartbeats 4000000 in
theorem sf_5_110 (X : qm_X) (h : qm_H) (hp : True) (Q : qm_Q) (hq : ∀ r : Int32, (r = 1) → Q (some (.int r)) h) : qm_PW X 5 [.ref 110] h Q := by
  refine qm_seg_ok (C := qc_5) (rt := some .boolean) rfl rfl (cuts := []) 400 _ _ _ _ ?_
  show ((1 : Int32) = 0 → (((0 : Int32) = 0 ∨ (0 : Int32) = 1) ∧ Q (some (.int 0)) h)) ∧ (¬ (1 : Int32) = 0 → ((¬ (0 : Int32) = 0 → (((0 : Int32) = 0 ∨ (0 : Int32) = 1) ∧ Q (some (.int 0)) h)) ∧ ((0 : Int32) = 0 → (((1 : Int32) = 0 ∨ (1 : Int32) = 1) ∧ Q (some (.int 1)) h))))
  refine ⟨fun c1 => ?_, fun c2 => ?_⟩
  · exact absurd c1 (by decide)
  · refine ⟨fun c3 => ?_, fun c4 => ?_⟩
    · exact absurd c3 (by decide)
    · exact ⟨Or.inr rfl, hq 1 (by rfl)⟩
-- java/lang/String.length()I
set_option maxRecDepth 100000 in
set_option maxHeartbeats 4000000 in
theorem sf_3_110 (X : qm_X) (h : qm_H) (hp : True) (Q : qm_Q) (hq : ∀ r : Int32, (r.toInt = 5) → Q (some (.int r)) h) : qm_PW X 3 [.ref 110] h Q := by
  refine qm_seg_ok (C := qc_3) (rt := some .int) rfl rfl (cuts := []) 400 _ _ _ _ ?_
  show qm_PW X 4 [.ref 110] h _
  refine sf_4_110 X h  trivial _ (fun r1 p2 => ?_)
  show Q (some (.int (5 >>> (r1 &&& 31)))) h
  exact hq (5 >>> (r1 &&& 31)) (by (subst_vars; rfl))
-- java/lang/String.coder()B
set_option maxRecDepth 100000 in
set_option maxHeartbeats 4000000 in
theorem sf_4_111 (X : qm_X) (h : qm_H) (hp : True) (Q : qm_Q) (hq : ∀ r : Int32, (r = 0) → Q (some (.int r)) h) : qm_PW X 4 [.ref 111] h Q := by
  refine qm_seg_ok (C := qc_4) (rt := some .byte) rfl rfl (cuts := []) 400 _ _ _ _ ?_
  show ((1 : Int32) = 0 → ((1 : Int32) = 0 ∧ Q (some (.int 1)) h)) ∧ (¬ (1 : Int32) = 0 → ((0 : Int32) = 0 ∧ Q (some (.int 0)) h))
  refine ⟨fun c1 => ?_, fun c2 => ?_⟩
  · exact absurd c1 (by decide)
  · exact ⟨rfl, hq 0 (by rfl)⟩
-- java/lang/String.isLatin1()Z
set_option maxRecDepth 100000 in
set_option maxHeartbeats 4000000 in
theorem sf_5_111 (X : qm_X) (h : qm_H) (hp : True) (Q : qm_Q) (hq : ∀ r : Int32, (r = 1) → Q (some (.int r)) h) : qm_PW X 5 [.ref 111] h Q := by
  refine qm_seg_ok (C := qc_5) (rt := some .boolean) rfl rfl (cuts := []) 400 _ _ _ _ ?_
  show ((1 : Int32) = 0 → (((0 : Int32) = 0 ∨ (0 : Int32) = 1) ∧ Q (some (.int 0)) h)) ∧ (¬ (1 : Int32) = 0 → ((¬ (0 : Int32) = 0 → (((0 : Int32) = 0 ∨ (0 : Int32) = 1) ∧ Q (some (.int 0)) h)) ∧ ((0 : Int32) = 0 → (((1 : Int32) = 0 ∨ (1 : Int32) = 1) ∧ Q (some (.int 1)) h))))
  refine ⟨fun c1 => ?_, fun c2 => ?_⟩
  · exact absurd c1 (by decide)
  · refine ⟨fun c3 => ?_, fun c4 => ?_⟩
    · exact absurd c3 (by decide)
    · exact ⟨Or.inr rfl, hq 1 (by rfl)⟩
-- java/lang/String.length()I
set_option maxRecDepth 100000 in
set_option maxHeartbeats 4000000 in
theorem sf_3_111 (X : qm_X) (h : qm_H) (hp : True) (Q : qm_Q) (hq : ∀ r : Int32, (r.toInt = 4) → Q (some (.int r)) h) : qm_PW X 3 [.ref 111] h Q := by
  refine qm_seg_ok (C := qc_3) (rt := some .int) rfl rfl (cuts := []) 400 _ _ _ _ ?_
  show qm_PW X 4 [.ref 111] h _
  refine sf_4_111 X h  trivial _ (fun r1 p2 => ?_)
  show Q (some (.int (4 >>> (r1 &&& 31)))) h
  exact hq (4 >>> (r1 &&& 31)) (by (subst_vars; rfl))
-- java/lang/String.coder()B
set_option maxRecDepth 100000 in
set_option maxHeartbeats 4000000 in
theorem sf_4_112 (X : qm_X) (h : qm_H) (hp : True) (Q : qm_Q) (hq : ∀ r : Int32, (r = 0) → Q (some (.int r)) h) : qm_PW X 4 [.ref 112] h Q := by
  refine qm_seg_ok (C := qc_4) (rt := some .byte) rfl rfl (cuts := []) 400 _ _ _ _ ?_
  show ((1 : Int32) = 0 → ((1 : Int32) = 0 ∧ Q (some (.int 1)) h)) ∧ (¬ (1 : Int32) = 0 → ((0 : Int32) = 0 ∧ Q (some (.int 0)) h))
  refine ⟨fun c1 => ?_, fun c2 => ?_⟩
  · exact absurd c1 (by decide)
  · exact ⟨rfl, hq 0 (by rfl)⟩
-- java/lang/String.isLatin1()Z
set_option maxRecDepth 100000 in
set_option maxHeartbeats 4000000 in
theorem sf_5_112 (X : qm_X) (h : qm_H) (hp : True) (Q : qm_Q) (hq : ∀ r : Int32, (r = 1) → Q (some (.int r)) h) : qm_PW X 5 [.ref 112] h Q := by
  refine qm_seg_ok (C := qc_5) (rt := some .boolean) rfl rfl (cuts := []) 400 _ _ _ _ ?_
  show ((1 : Int32) = 0 → (((0 : Int32) = 0 ∨ (0 : Int32) = 1) ∧ Q (some (.int 0)) h)) ∧ (¬ (1 : Int32) = 0 → ((¬ (0 : Int32) = 0 → (((0 : Int32) = 0 ∨ (0 : Int32) = 1) ∧ Q (some (.int 0)) h)) ∧ ((0 : Int32) = 0 → (((1 : Int32) = 0 ∨ (1 : Int32) = 1) ∧ Q (some (.int 1)) h))))
  refine ⟨fun c1 => ?_, fun c2 => ?_⟩
  · exact absurd c1 (by decide)
  · refine ⟨fun c3 => ?_, fun c4 => ?_⟩
    · exact absurd c3 (by decide)
    · exact ⟨Or.inr rfl, hq 1 (by rfl)⟩
-- java/lang/String.length()I
set_option maxRecDepth 100000 in
set_option maxHeartbeats 4000000 in
theorem sf_3_112 (X : qm_X) (h : qm_H) (hp : True) (Q : qm_Q) (hq : ∀ r : Int32, (r.toInt = 3) → Q (some (.int r)) h) : qm_PW X 3 [.ref 112] h Q := by
  refine qm_seg_ok (C := qc_3) (rt := some .int) rfl rfl (cuts := []) 400 _ _ _ _ ?_
  show qm_PW X 4 [.ref 112] h _
  refine sf_4_112 X h  trivial _ (fun r1 p2 => ?_)
  show Q (some (.int (3 >>> (r1 &&& 31)))) h
  exact hq (3 >>> (r1 &&& 31)) (by (subst_vars; rfl))
-- java/lang/String.coder()B
set_option maxRecDepth 100000 in
set_option maxHeartbeats 4000000 in
theorem sf_4_113 (X : qm_X) (h : qm_H) (hp : True) (Q : qm_Q) (hq : ∀ r : Int32, (r = 0) → Q (some (.int r)) h) : qm_PW X 4 [.ref 113] h Q := by
  refine qm_seg_ok (C := qc_4) (rt := some .byte) rfl rfl (cuts := []) 400 _ _ _ _ ?_
  show ((1 : Int32) = 0 → ((1 : Int32) = 0 ∧ Q (some (.int 1)) h)) ∧ (¬ (1 : Int32) = 0 → ((0 : Int32) = 0 ∧ Q (some (.int 0)) h))
  refine ⟨fun c1 => ?_, fun c2 => ?_⟩
  · exact absurd c1 (by decide)
  · exact ⟨rfl, hq 0 (by rfl)⟩
-- java/lang/String.isLatin1()Z
set_option maxRecDepth 100000 in
set_option maxHeartbeats 4000000 in
theorem sf_5_113 (X : qm_X) (h : qm_H) (hp : True) (Q : qm_Q) (hq : ∀ r : Int32, (r = 1) → Q (some (.int r)) h) : qm_PW X 5 [.ref 113] h Q := by
  refine qm_seg_ok (C := qc_5) (rt := some .boolean) rfl rfl (cuts := []) 400 _ _ _ _ ?_
  show ((1 : Int32) = 0 → (((0 : Int32) = 0 ∨ (0 : Int32) = 1) ∧ Q (some (.int 0)) h)) ∧ (¬ (1 : Int32) = 0 → ((¬ (0 : Int32) = 0 → (((0 : Int32) = 0 ∨ (0 : Int32) = 1) ∧ Q (some (.int 0)) h)) ∧ ((0 : Int32) = 0 → (((1 : Int32) = 0 ∨ (1 : Int32) = 1) ∧ Q (some (.int 1)) h))))
  refine ⟨fun c1 => ?_, fun c2 => ?_⟩
  · exact absurd c1 (by decide)
  · refine ⟨fun c3 => ?_, fun c4 => ?_⟩
    · exact absurd c3 (by decide)
    · exact ⟨Or.inr rfl, hq 1 (by rfl)⟩
-- java/lang/String.length()I
set_option maxRecDepth 100000 in
set_option maxHeartbeats 4000000 in
theorem sf_3_113 (X : qm_X) (h : qm_H) (hp : True) (Q : qm_Q) (hq : ∀ r : Int32, (r.toInt = 7) → Q (some (.int r)) h) : qm_PW X 3 [.ref 113] h Q := by
  refine qm_seg_ok (C := qc_3) (rt := some .int) rfl rfl (cuts := []) 400 _ _ _ _ ?_
  show qm_PW X 4 [.ref 113] h _
  refine sf_4_113 X h  trivial _ (fun r1 p2 => ?_)
  show Q (some (.int (7 >>> (r1 &&& 31)))) h
  exact hq (7 >>> (r1 &&& 31)) (by (subst_vars; rfl))
-- java/lang/String.coder()B
set_option maxRecDepth 100000 in
set_option maxHeartbeats 4000000 in
theorem sf_4_114 (X : qm_X) (h : qm_H) (hp : True) (Q : qm_Q) (hq : ∀ r : Int32, (r = 0) → Q (some (.int r)) h) : qm_PW X 4 [.ref 114] h Q := by
  refine qm_seg_ok (C := qc_4) (rt := some .byte) rfl rfl (cuts := []) 400 _ _ _ _ ?_
  show ((1 : Int32) = 0 → ((1 : Int32) = 0 ∧ Q (some (.int 1)) h)) ∧ (¬ (1 : Int32) = 0 → ((0 : Int32) = 0 ∧ Q (some (.int 0)) h))
  refine ⟨fun c1 => ?_, fun c2 => ?_⟩
  · exact absurd c1 (by decide)
  · exact ⟨rfl, hq 0 (by rfl)⟩
-- java/lang/String.isLatin1()Z
set_option maxRecDepth 100000 in
set_option maxHeartbeats 4000000 in
theorem sf_5_114 (X : qm_X) (h : qm_H) (hp : True) (Q : qm_Q) (hq : ∀ r : Int32, (r = 1) → Q (some (.int r)) h) : qm_PW X 5 [.ref 114] h Q := by
  refine qm_seg_ok (C := qc_5) (rt := some .boolean) rfl rfl (cuts := []) 400 _ _ _ _ ?_
  show ((1 : Int32) = 0 → (((0 : Int32) = 0 ∨ (0 : Int32) = 1) ∧ Q (some (.int 0)) h)) ∧ (¬ (1 : Int32) = 0 → ((¬ (0 : Int32) = 0 → (((0 : Int32) = 0 ∨ (0 : Int32) = 1) ∧ Q (some (.int 0)) h)) ∧ ((0 : Int32) = 0 → (((1 : Int32) = 0 ∨ (1 : Int32) = 1) ∧ Q (some (.int 1)) h))))
  refine ⟨fun c1 => ?_, fun c2 => ?_⟩
  · exact absurd c1 (by decide)
  · refine ⟨fun c3 => ?_, fun c4 => ?_⟩
    · exact absurd c3 (by decide)
    · exact ⟨Or.inr rfl, hq 1 (by rfl)⟩
-- java/lang/String.length()I
set_option maxRecDepth 100000 in
set_option maxHeartbeats 4000000 in
theorem sf_3_114 (X : qm_X) (h : qm_H) (hp : True) (Q : qm_Q) (hq : ∀ r : Int32, (r.toInt = 3) → Q (some (.int r)) h) : qm_PW X 3 [.ref 114] h Q := by
  refine qm_seg_ok (C := qc_3) (rt := some .int) rfl rfl (cuts := []) 400 _ _ _ _ ?_
  show qm_PW X 4 [.ref 114] h _
  refine sf_4_114 X h  trivial _ (fun r1 p2 => ?_)
  show Q (some (.int (3 >>> (r1 &&& 31)))) h
  exact hq (3 >>> (r1 &&& 31)) (by (subst_vars; rfl))
-- java/lang/String.coder()B
set_option maxRecDepth 100000 in
set_option maxHeartbeats 4000000 in
theorem sf_4_115 (X : qm_X) (h : qm_H) (hp : True) (Q : qm_Q) (hq : ∀ r : Int32, (r = 0) → Q (some (.int r)) h) : qm_PW X 4 [.ref 115] h Q := by
  refine qm_seg_ok (C := qc_4) (rt := some .byte) rfl rfl (cuts := []) 400 _ _ _ _ ?_
  show ((1 : Int32) = 0 → ((1 : Int32) = 0 ∧ Q (some (.int 1)) h)) ∧ (¬ (1 : Int32) = 0 → ((0 : Int32) = 0 ∧ Q (some (.int 0)) h))
  refine ⟨fun c1 => ?_, fun c2 => ?_⟩
  · exact absurd c1 (by decide)
  · exact ⟨rfl, hq 0 (by rfl)⟩
-- java/lang/String.isLatin1()Z
set_option maxRecDepth 100000 in
set_option maxHeartbeats 4000000 in
theorem sf_5_115 (X : qm_X) (h : qm_H) (hp : True) (Q : qm_Q) (hq : ∀ r : Int32, (r = 1) → Q (some (.int r)) h) : qm_PW X 5 [.ref 115] h Q := by
  refine qm_seg_ok (C := qc_5) (rt := some .boolean) rfl rfl (cuts := []) 400 _ _ _ _ ?_
  show ((1 : Int32) = 0 → (((0 : Int32) = 0 ∨ (0 : Int32) = 1) ∧ Q (some (.int 0)) h)) ∧ (¬ (1 : Int32) = 0 → ((¬ (0 : Int32) = 0 → (((0 : Int32) = 0 ∨ (0 : Int32) = 1) ∧ Q (some (.int 0)) h)) ∧ ((0 : Int32) = 0 → (((1 : Int32) = 0 ∨ (1 : Int32) = 1) ∧ Q (some (.int 1)) h))))
  refine ⟨fun c1 => ?_, fun c2 => ?_⟩
  · exact absurd c1 (by decide)
  · refine ⟨fun c3 => ?_, fun c4 => ?_⟩
    · exact absurd c3 (by decide)
    · exact ⟨Or.inr rfl, hq 1 (by rfl)⟩
-- java/lang/String.length()I
set_option maxRecDepth 100000 in
set_option maxHeartbeats 4000000 in
theorem sf_3_115 (X : qm_X) (h : qm_H) (hp : True) (Q : qm_Q) (hq : ∀ r : Int32, (r.toInt = 3) → Q (some (.int r)) h) : qm_PW X 3 [.ref 115] h Q := by
  refine qm_seg_ok (C := qc_3) (rt := some .int) rfl rfl (cuts := []) 400 _ _ _ _ ?_
  show qm_PW X 4 [.ref 115] h _
  refine sf_4_115 X h  trivial _ (fun r1 p2 => ?_)
  show Q (some (.int (3 >>> (r1 &&& 31)))) h
  exact hq (3 >>> (r1 &&& 31)) (by (subst_vars; rfl))
