-- ThreadBank.hasBit(II)Z
set_option maxRecDepth 100000 in
set_option maxHeartbeats 4000000 in
theorem ty_138 (X : qm_X) (h : qm_H) (a : Int32) (b : Int32) (hp : True) (Q : qm_Q) (hq : ∀ r : Int32, ((r = 0 ∨ r = 1) ∧ ((r.toInt = 1 ∧ hbQ a b) ∨ (r.toInt = 0 ∧ ¬ hbQ a b))) → Q (some (.int r)) h) : qm_PW X 138 [.int a, .int b] h Q := by
  refine qm_seg_ok (C := qc_138) (rt := some .boolean) rfl rfl (cuts := []) 400 _ _ _ _ ?_
  show (((a >>> (b &&& 31)) &&& 1) = 0 → (((0 : Int32) = 0 ∨ (0 : Int32) = 1) ∧ Q (some (.int 0)) h)) ∧ (¬ ((a >>> (b &&& 31)) &&& 1) = 0 → (((1 : Int32) = 0 ∨ (1 : Int32) = 1) ∧ Q (some (.int 1)) h))
  refine ⟨fun c1 => ?_, fun c2 => ?_⟩
  · exact ⟨Or.inl rfl, hq 0 (by have : (0 : Int32).toInt = 0 := rfl; show ((0 : Int32) = 0 ∨ (0 : Int32) = 1) ∧ (((0 : Int32).toInt = 1 ∧ hbQ a b) ∨ ((0 : Int32).toInt = 0 ∧ ¬ hbQ a b)); first | exact ⟨Or.inr rfl, Or.inl ⟨rfl, (show ¬ ((a >>> (b &&& 31)) &&& 1) = 0 from by assumption)⟩⟩ | exact ⟨Or.inl rfl, Or.inr ⟨rfl, fun w => w (by assumption)⟩⟩)⟩
  · exact ⟨Or.inr rfl, hq 1 (by have : (1 : Int32).toInt = 1 := rfl; show ((1 : Int32) = 0 ∨ (1 : Int32) = 1) ∧ (((1 : Int32).toInt = 1 ∧ hbQ a b) ∨ ((1 : Int32).toInt = 0 ∧ ¬ hbQ a b)); first | exact ⟨Or.inr rfl, Or.inl ⟨rfl, (show ¬ ((a >>> (b &&& 31)) &&& 1) = 0 from by assumption)⟩⟩ | exact ⟨Or.inl rfl, Or.inr ⟨rfl, fun w => w (by assumption)⟩⟩)⟩
-- ThreadBank$Memory.threadBits()I
set_option maxRecDepth 100000 in
set_option maxHeartbeats 4000000 in
theorem ty_34 (X : qm_X) (h : qm_H) (hp : mq 1 h) (Q : qm_Q) (hq : ∀ r : Int32, (r = drB0 (h 1 7) ∧ (0 ≤ r.toInt ∧ r.toInt ≤ 1023)) → Q (some (.int r)) h) : qm_PW X 34 [.ref 1] h Q := by
  have hm1 : mq 1 h := hp
  have ⟨⟨_, _⟩, ⟨_, _⟩, _, _⟩ := hm1
  refine qm_seg_ok (C := qc_34) (rt := some .int) rfl rfl (cuts := []) 400 _ _ _ _ ?_
  show Q (some (.int ((1 <<< ((h 1 7) &&& 31)) - 1))) h
  exact hq ((1 <<< ((h 1 7) &&& 31)) - 1) (by show ((1 <<< ((h 1 7) &&& 31)) - 1) = drB0 (h 1 7) ∧ (0 ≤ ((1 <<< ((h 1 7) &&& 31)) - 1).toInt ∧ ((1 <<< ((h 1 7) &&& 31)) - 1).toInt ≤ 1023); exact ⟨rfl, bits_le (h 1 7) (by omega) (by omega)⟩)
-- java/lang/Integer.bitCount(I)I
set_option maxRecDepth 100000 in
set_option maxHeartbeats 4000000 in
theorem ty_0 (X : qm_X) (h : qm_H) (a : Int32) (hp : True) (Q : qm_Q) (hq : ∀ r : Int32, (r = bcF a) → Q (some (.int r)) h) : qm_PW X 0 [.int a] h Q := by
  refine qm_seg_ok (C := qc_0) (rt := some .int) rfl rfl (cuts := []) 400 _ _ _ _ ?_
  show Q (some (.int ((((((((a - ((((Int32.toUInt32 a) >>> ((Int32.toUInt32 1) &&& Int32.toUInt32 31)).toInt32) &&& 1431655765)) &&& 858993459) + ((((Int32.toUInt32 (a - ((((Int32.toUInt32 a) >>> ((Int32.toUInt32 1) &&& Int32.toUInt32 31)).toInt32) &&& 1431655765))) >>> ((Int32.toUInt32 2) &&& Int32.toUInt32 31)).toInt32) &&& 858993459)) + (((Int32.toUInt32 (((a - ((((Int32.toUInt32 a) >>> ((Int32.toUInt32 1) &&& Int32.toUInt32 31)).toInt32) &&& 1431655765)) &&& 858993459) + ((((Int32.toUInt32 (a - ((((Int32.toUInt32 a) >>> ((Int32.toUInt32 1) &&& Int32.toUInt32 31)).toInt32) &&& 1431655765))) >>> ((Int32.toUInt32 2) &&& Int32.toUInt32 31)).toInt32) &&& 858993459))) >>> ((Int32.toUInt32 4) &&& Int32.toUInt32 31)).toInt32)) &&& 252645135) + (((Int32.toUInt32 (((((a - ((((Int32.toUInt32 a) >>> ((Int32.toUInt32 1) &&& Int32.toUInt32 31)).toInt32) &&& 1431655765)) &&& 858993459) + ((((Int32.toUInt32 (a - ((((Int32.toUInt32 a) >>> ((Int32.toUInt32 1) &&& Int32.toUInt32 31)).toInt32) &&& 1431655765))) >>> ((Int32.toUInt32 2) &&& Int32.toUInt32 31)).toInt32) &&& 858993459)) + (((Int32.toUInt32 (((a - ((((Int32.toUInt32 a) >>> ((Int32.toUInt32 1) &&& Int32.toUInt32 31)).toInt32) &&& 1431655765)) &&& 858993459) + ((((Int32.toUInt32 (a - ((((Int32.toUInt32 a) >>> ((Int32.toUInt32 1) &&& Int32.toUInt32 31)).toInt32) &&& 1431655765))) >>> ((Int32.toUInt32 2) &&& Int32.toUInt32 31)).toInt32) &&& 858993459))) >>> ((Int32.toUInt32 4) &&& Int32.toUInt32 31)).toInt32)) &&& 252645135)) >>> ((Int32.toUInt32 8) &&& Int32.toUInt32 31)).toInt32)) + (((Int32.toUInt32 ((((((a - ((((Int32.toUInt32 a) >>> ((Int32.toUInt32 1) &&& Int32.toUInt32 31)).toInt32) &&& 1431655765)) &&& 858993459) + ((((Int32.toUInt32 (a - ((((Int32.toUInt32 a) >>> ((Int32.toUInt32 1) &&& Int32.toUInt32 31)).toInt32) &&& 1431655765))) >>> ((Int32.toUInt32 2) &&& Int32.toUInt32 31)).toInt32) &&& 858993459)) + (((Int32.toUInt32 (((a - ((((Int32.toUInt32 a) >>> ((Int32.toUInt32 1) &&& Int32.toUInt32 31)).toInt32) &&& 1431655765)) &&& 858993459) + ((((Int32.toUInt32 (a - ((((Int32.toUInt32 a) >>> ((Int32.toUInt32 1) &&& Int32.toUInt32 31)).toInt32) &&& 1431655765))) >>> ((Int32.toUInt32 2) &&& Int32.toUInt32 31)).toInt32) &&& 858993459))) >>> ((Int32.toUInt32 4) &&& Int32.toUInt32 31)).toInt32)) &&& 252645135) + (((Int32.toUInt32 (((((a - ((((Int32.toUInt32 a) >>> ((Int32.toUInt32 1) &&& Int32.toUInt32 31)).toInt32) &&& 1431655765)) &&& 858993459) + ((((Int32.toUInt32 (a - ((((Int32.toUInt32 a) >>> ((Int32.toUInt32 1) &&& Int32.toUInt32 31)).toInt32) &&& 1431655765))) >>> ((Int32.toUInt32 2) &&& Int32.toUInt32 31)).toInt32) &&& 858993459)) + (((Int32.toUInt32 (((a - ((((Int32.toUInt32 a) >>> ((Int32.toUInt32 1) &&& Int32.toUInt32 31)).toInt32) &&& 1431655765)) &&& 858993459) + ((((Int32.toUInt32 (a - ((((Int32.toUInt32 a) >>> ((Int32.toUInt32 1) &&& Int32.toUInt32 31)).toInt32) &&& 1431655765))) >>> ((Int32.toUInt32 2) &&& Int32.toUInt32 31)).toInt32) &&& 858993459))) >>> ((Int32.toUInt32 4) &&& Int32.toUInt32 31)).toInt32)) &&& 252645135)) >>> ((Int32.toUInt32 8) &&& Int32.toUInt32 31)).toInt32))) >>> ((Int32.toUInt32 16) &&& Int32.toUInt32 31)).toInt32)) &&& 63))) h
  exact hq ((((((((a - ((((Int32.toUInt32 a) >>> ((Int32.toUInt32 1) &&& Int32.toUInt32 31)).toInt32) &&& 1431655765)) &&& 858993459) + ((((Int32.toUInt32 (a - ((((Int32.toUInt32 a) >>> ((Int32.toUInt32 1) &&& Int32.toUInt32 31)).toInt32) &&& 1431655765))) >>> ((Int32.toUInt32 2) &&& Int32.toUInt32 31)).toInt32) &&& 858993459)) + (((Int32.toUInt32 (((a - ((((Int32.toUInt32 a) >>> ((Int32.toUInt32 1) &&& Int32.toUInt32 31)).toInt32) &&& 1431655765)) &&& 858993459) + ((((Int32.toUInt32 (a - ((((Int32.toUInt32 a) >>> ((Int32.toUInt32 1) &&& Int32.toUInt32 31)).toInt32) &&& 1431655765))) >>> ((Int32.toUInt32 2) &&& Int32.toUInt32 31)).toInt32) &&& 858993459))) >>> ((Int32.toUInt32 4) &&& Int32.toUInt32 31)).toInt32)) &&& 252645135) + (((Int32.toUInt32 (((((a - ((((Int32.toUInt32 a) >>> ((Int32.toUInt32 1) &&& Int32.toUInt32 31)).toInt32) &&& 1431655765)) &&& 858993459) + ((((Int32.toUInt32 (a - ((((Int32.toUInt32 a) >>> ((Int32.toUInt32 1) &&& Int32.toUInt32 31)).toInt32) &&& 1431655765))) >>> ((Int32.toUInt32 2) &&& Int32.toUInt32 31)).toInt32) &&& 858993459)) + (((Int32.toUInt32 (((a - ((((Int32.toUInt32 a) >>> ((Int32.toUInt32 1) &&& Int32.toUInt32 31)).toInt32) &&& 1431655765)) &&& 858993459) + ((((Int32.toUInt32 (a - ((((Int32.toUInt32 a) >>> ((Int32.toUInt32 1) &&& Int32.toUInt32 31)).toInt32) &&& 1431655765))) >>> ((Int32.toUInt32 2) &&& Int32.toUInt32 31)).toInt32) &&& 858993459))) >>> ((Int32.toUInt32 4) &&& Int32.toUInt32 31)).toInt32)) &&& 252645135)) >>> ((Int32.toUInt32 8) &&& Int32.toUInt32 31)).toInt32)) + (((Int32.toUInt32 ((((((a - ((((Int32.toUInt32 a) >>> ((Int32.toUInt32 1) &&& Int32.toUInt32 31)).toInt32) &&& 1431655765)) &&& 858993459) + ((((Int32.toUInt32 (a - ((((Int32.toUInt32 a) >>> ((Int32.toUInt32 1) &&& Int32.toUInt32 31)).toInt32) &&& 1431655765))) >>> ((Int32.toUInt32 2) &&& Int32.toUInt32 31)).toInt32) &&& 858993459)) + (((Int32.toUInt32 (((a - ((((Int32.toUInt32 a) >>> ((Int32.toUInt32 1) &&& Int32.toUInt32 31)).toInt32) &&& 1431655765)) &&& 858993459) + ((((Int32.toUInt32 (a - ((((Int32.toUInt32 a) >>> ((Int32.toUInt32 1) &&& Int32.toUInt32 31)).toInt32) &&& 1431655765))) >>> ((Int32.toUInt32 2) &&& Int32.toUInt32 31)).toInt32) &&& 858993459))) >>> ((Int32.toUInt32 4) &&& Int32.toUInt32 31)).toInt32)) &&& 252645135) + (((Int32.toUInt32 (((((a - ((((Int32.toUInt32 a) >>> ((Int32.toUInt32 1) &&& Int32.toUInt32 31)).toInt32) &&& 1431655765)) &&& 858993459) + ((((Int32.toUInt32 (a - ((((Int32.toUInt32 a) >>> ((Int32.toUInt32 1) &&& Int32.toUInt32 31)).toInt32) &&& 1431655765))) >>> ((Int32.toUInt32 2) &&& Int32.toUInt32 31)).toInt32) &&& 858993459)) + (((Int32.toUInt32 (((a - ((((Int32.toUInt32 a) >>> ((Int32.toUInt32 1) &&& Int32.toUInt32 31)).toInt32) &&& 1431655765)) &&& 858993459) + ((((Int32.toUInt32 (a - ((((Int32.toUInt32 a) >>> ((Int32.toUInt32 1) &&& Int32.toUInt32 31)).toInt32) &&& 1431655765))) >>> ((Int32.toUInt32 2) &&& Int32.toUInt32 31)).toInt32) &&& 858993459))) >>> ((Int32.toUInt32 4) &&& Int32.toUInt32 31)).toInt32)) &&& 252645135)) >>> ((Int32.toUInt32 8) &&& Int32.toUInt32 31)).toInt32))) >>> ((Int32.toUInt32 16) &&& Int32.toUInt32 31)).toInt32)) &&& 63) (by have := ti_add (((((a - ((((Int32.toUInt32 a) >>> ((Int32.toUInt32 1) &&& Int32.toUInt32 31)).toInt32) &&& 1431655765)) &&& 858993459) + ((((Int32.toUInt32 (a - ((((Int32.toUInt32 a) >>> ((Int32.toUInt32 1) &&& Int32.toUInt32 31)).toInt32) &&& 1431655765))) >>> ((Int32.toUInt32 2) &&& Int32.toUInt32 31)).toInt32) &&& 858993459)) + (((Int32.toUInt32 (((a - ((((Int32.toUInt32 a) >>> ((Int32.toUInt32 1) &&& Int32.toUInt32 31)).toInt32) &&& 1431655765)) &&& 858993459) + ((((Int32.toUInt32 (a - ((((Int32.toUInt32 a) >>> ((Int32.toUInt32 1) &&& Int32.toUInt32 31)).toInt32) &&& 1431655765))) >>> ((Int32.toUInt32 2) &&& Int32.toUInt32 31)).toInt32) &&& 858993459))) >>> ((Int32.toUInt32 4) &&& Int32.toUInt32 31)).toInt32)) &&& 252645135) (((Int32.toUInt32 (((((a - ((((Int32.toUInt32 a) >>> ((Int32.toUInt32 1) &&& Int32.toUInt32 31)).toInt32) &&& 1431655765)) &&& 858993459) + ((((Int32.toUInt32 (a - ((((Int32.toUInt32 a) >>> ((Int32.toUInt32 1) &&& Int32.toUInt32 31)).toInt32) &&& 1431655765))) >>> ((Int32.toUInt32 2) &&& Int32.toUInt32 31)).toInt32) &&& 858993459)) + (((Int32.toUInt32 (((a - ((((Int32.toUInt32 a) >>> ((Int32.toUInt32 1) &&& Int32.toUInt32 31)).toInt32) &&& 1431655765)) &&& 858993459) + ((((Int32.toUInt32 (a - ((((Int32.toUInt32 a) >>> ((Int32.toUInt32 1) &&& Int32.toUInt32 31)).toInt32) &&& 1431655765))) >>> ((Int32.toUInt32 2) &&& Int32.toUInt32 31)).toInt32) &&& 858993459))) >>> ((Int32.toUInt32 4) &&& Int32.toUInt32 31)).toInt32)) &&& 252645135)) >>> ((Int32.toUInt32 8) &&& Int32.toUInt32 31)).toInt32); have := ti_add ((a - ((((Int32.toUInt32 a) >>> ((Int32.toUInt32 1) &&& Int32.toUInt32 31)).toInt32) &&& 1431655765)) &&& 858993459) ((((Int32.toUInt32 (a - ((((Int32.toUInt32 a) >>> ((Int32.toUInt32 1) &&& Int32.toUInt32 31)).toInt32) &&& 1431655765))) >>> ((Int32.toUInt32 2) &&& Int32.toUInt32 31)).toInt32) &&& 858993459); show ((((((((a - ((((Int32.toUInt32 a) >>> ((Int32.toUInt32 1) &&& Int32.toUInt32 31)).toInt32) &&& 1431655765)) &&& 858993459) + ((((Int32.toUInt32 (a - ((((Int32.toUInt32 a) >>> ((Int32.toUInt32 1) &&& Int32.toUInt32 31)).toInt32) &&& 1431655765))) >>> ((Int32.toUInt32 2) &&& Int32.toUInt32 31)).toInt32) &&& 858993459)) + (((Int32.toUInt32 (((a - ((((Int32.toUInt32 a) >>> ((Int32.toUInt32 1) &&& Int32.toUInt32 31)).toInt32) &&& 1431655765)) &&& 858993459) + ((((Int32.toUInt32 (a - ((((Int32.toUInt32 a) >>> ((Int32.toUInt32 1) &&& Int32.toUInt32 31)).toInt32) &&& 1431655765))) >>> ((Int32.toUInt32 2) &&& Int32.toUInt32 31)).toInt32) &&& 858993459))) >>> ((Int32.toUInt32 4) &&& Int32.toUInt32 31)).toInt32)) &&& 252645135) + (((Int32.toUInt32 (((((a - ((((Int32.toUInt32 a) >>> ((Int32.toUInt32 1) &&& Int32.toUInt32 31)).toInt32) &&& 1431655765)) &&& 858993459) + ((((Int32.toUInt32 (a - ((((Int32.toUInt32 a) >>> ((Int32.toUInt32 1) &&& Int32.toUInt32 31)).toInt32) &&& 1431655765))) >>> ((Int32.toUInt32 2) &&& Int32.toUInt32 31)).toInt32) &&& 858993459)) + (((Int32.toUInt32 (((a - ((((Int32.toUInt32 a) >>> ((Int32.toUInt32 1) &&& Int32.toUInt32 31)).toInt32) &&& 1431655765)) &&& 858993459) + ((((Int32.toUInt32 (a - ((((Int32.toUInt32 a) >>> ((Int32.toUInt32 1) &&& Int32.toUInt32 31)).toInt32) &&& 1431655765))) >>> ((Int32.toUInt32 2) &&& Int32.toUInt32 31)).toInt32) &&& 858993459))) >>> ((Int32.toUInt32 4) &&& Int32.toUInt32 31)).toInt32)) &&& 252645135)) >>> ((Int32.toUInt32 8) &&& Int32.toUInt32 31)).toInt32)) + (((Int32.toUInt32 ((((((a - ((((Int32.toUInt32 a) >>> ((Int32.toUInt32 1) &&& Int32.toUInt32 31)).toInt32) &&& 1431655765)) &&& 858993459) + ((((Int32.toUInt32 (a - ((((Int32.toUInt32 a) >>> ((Int32.toUInt32 1) &&& Int32.toUInt32 31)).toInt32) &&& 1431655765))) >>> ((Int32.toUInt32 2) &&& Int32.toUInt32 31)).toInt32) &&& 858993459)) + (((Int32.toUInt32 (((a - ((((Int32.toUInt32 a) >>> ((Int32.toUInt32 1) &&& Int32.toUInt32 31)).toInt32) &&& 1431655765)) &&& 858993459) + ((((Int32.toUInt32 (a - ((((Int32.toUInt32 a) >>> ((Int32.toUInt32 1) &&& Int32.toUInt32 31)).toInt32) &&& 1431655765))) >>> ((Int32.toUInt32 2) &&& Int32.toUInt32 31)).toInt32) &&& 858993459))) >>> ((Int32.toUInt32 4) &&& Int32.toUInt32 31)).toInt32)) &&& 252645135) + (((Int32.toUInt32 (((((a - ((((Int32.toUInt32 a) >>> ((Int32.toUInt32 1) &&& Int32.toUInt32 31)).toInt32) &&& 1431655765)) &&& 858993459) + ((((Int32.toUInt32 (a - ((((Int32.toUInt32 a) >>> ((Int32.toUInt32 1) &&& Int32.toUInt32 31)).toInt32) &&& 1431655765))) >>> ((Int32.toUInt32 2) &&& Int32.toUInt32 31)).toInt32) &&& 858993459)) + (((Int32.toUInt32 (((a - ((((Int32.toUInt32 a) >>> ((Int32.toUInt32 1) &&& Int32.toUInt32 31)).toInt32) &&& 1431655765)) &&& 858993459) + ((((Int32.toUInt32 (a - ((((Int32.toUInt32 a) >>> ((Int32.toUInt32 1) &&& Int32.toUInt32 31)).toInt32) &&& 1431655765))) >>> ((Int32.toUInt32 2) &&& Int32.toUInt32 31)).toInt32) &&& 858993459))) >>> ((Int32.toUInt32 4) &&& Int32.toUInt32 31)).toInt32)) &&& 252645135)) >>> ((Int32.toUInt32 8) &&& Int32.toUInt32 31)).toInt32))) >>> ((Int32.toUInt32 16) &&& Int32.toUInt32 31)).toInt32)) &&& 63) = bcF a; rfl)
-- java/lang/Math.min(II)I
set_option maxRecDepth 100000 in
set_option maxHeartbeats 4000000 in
theorem ty_2 (X : qm_X) (h : qm_H) (a : Int32) (b : Int32) (hp : True) (Q : qm_Q) (hq : ∀ r : Int32, ((a.toInt ≤ b.toInt ∧ r.toInt = a.toInt) ∨ (b.toInt < a.toInt ∧ r.toInt = b.toInt)) → Q (some (.int r)) h) : qm_PW X 2 [.int a, .int b] h Q := by
  refine qm_seg_ok (C := qc_2) (rt := some .int) rfl rfl (cuts := []) 400 _ _ _ _ ?_
  show (b.toInt < a.toInt → (Q (some (.int b)) h)) ∧ (a.toInt ≤ b.toInt → (Q (some (.int a)) h))
  refine ⟨fun c1 => ?_, fun c2 => ?_⟩
  · exact hq b (by show (a.toInt ≤ b.toInt ∧ b.toInt = a.toInt) ∨ (b.toInt < a.toInt ∧ b.toInt = b.toInt); first | exact Or.inl ⟨by omega, rfl⟩ | exact Or.inr ⟨by omega, rfl⟩)
  · exact hq a (by show (a.toInt ≤ b.toInt ∧ a.toInt = a.toInt) ∨ (b.toInt < a.toInt ∧ a.toInt = b.toInt); first | exact Or.inl ⟨by omega, rfl⟩ | exact Or.inr ⟨by omega, rfl⟩)
-- ThreadBank$Memory.originalsOf(I)I
set_option maxRecDepth 100000 in
set_option maxHeartbeats 4000000 in
theorem tz_50_c (X : qm_X) (h : qm_H) (a : Int32) (hp : mq 1 h ∧ (0 ≤ a.toInt ∧ a.toInt < (h 1 7).toInt)) (Q : qm_Q) (hq : ∀ r : Int32, (oiQ (h 3) (h 4) (h 5) a.toInt.toNat a.toInt.toNat r) → Q (some (.int r)) h) : ∀ n : Nat, (∀ (l2 : Int32) (l3 : Int32), ((0 ≤ l3.toInt ∧ l3.toInt ≤ a.toInt) ∧ oiQ (h 3) (h 4) (h 5) a.toInt.toNat l3.toInt.toNat l2) → (10 - l3.toInt).toNat < n → qm_PA X 50 4 [(0, .ref 1), (1, .int a), (2, .int l2), (3, .int l3)] [] h Q) := by
  have hm1 : mq 1 h := hp.1
  have ⟨⟨_, _⟩, ⟨_, _⟩, _, _⟩ := hm1
  have hp0 : 0 ≤ a.toInt ∧ a.toInt < (h 1 7).toInt := hp.2
  intro n
  induction n with
  | zero => exact fun _ _ _ h0 => absurd h0 (Nat.not_lt_zero _)
  | succ n ih =>
    intro l2 l3 hi hr
    have ti_l3 := ti_rng l3
    refine qm_seg_ok (C := qc_50) (rt := some .int) rfl rfl (cuts := [(4, [0, 1, 2, 3])]) 400 _ _ _ _ ?_
    show (a.toInt ≤ l3.toInt → (Q (some (.int l2)) h)) ∧ (l3.toInt < a.toInt → (qm_PW X 49 [.ref 1, .int a, .int l3] h _))
    refine ⟨fun c1 => ?_, fun c2 => ?_⟩
    · exact hq l2 (by show oiQ (h 3) (h 4) (h 5) a.toInt.toNat a.toInt.toNat l2; have hz := hi.2; rw [show l3.toInt.toNat = a.toInt.toNat by omega] at hz; exact hz)
    · refine ty_49 X h a l3 hm1 _ (fun r3 p4 => ?_)
      have o5 : (r3 = 0 ∨ r3 = 1) ∧ ((r3.toInt = 1 ∧ (0 ≤ a.toInt ∧ a.toInt < (h 1 7).toInt) ∧ (0 ≤ l3.toInt ∧ l3.toInt < (h 1 7).toInt) ∧ (h 4 a.toInt.toNat).toInt = (h 4 l3.toInt.toNat).toInt ∧ (h 5 a.toInt.toNat).toInt = (h 5 l3.toInt.toNat).toInt) ∨ (r3.toInt = 0 ∧ ¬ ((0 ≤ a.toInt ∧ a.toInt < (h 1 7).toInt) ∧ (0 ≤ l3.toInt ∧ l3.toInt < (h 1 7).toInt) ∧ (h 4 a.toInt.toNat).toInt = (h 4 l3.toInt.toNat).toInt ∧ (h 5 a.toInt.toNat).toInt = (h 5 l3.toInt.toNat).toInt))) := p4
      clear p4
      show (r3 = 0 → (qm_PA X 50 4 [(0, .ref 1), (1, .int a), (2, .int l2), (3, .int (l3 + 1))] [] h Q)) ∧ (¬ r3 = 0 → (qm_PW X 33 [.ref 1, .int a] h _))
      refine ⟨fun c6 => ?_, fun c7 => ?_⟩
      · have := ti_eqK 0 rfl c6
        exact ih l2 (l3 + 1) (by have := ti_addK l3 (1 : Int32) 1 rfl; have el3 : l3 = nI l3.toInt.toNat := nI_is (by omega) (by omega); have e9 : (l3 + 1).toInt.toNat = l3.toInt.toNat + 1 := (by omega); exact ⟨by omega, by rw [e9]; exact oiQ_n hi.2 (fun w => by have w1 := w.1; have w2 := w.2.1; omega)⟩) (by have := ti_addK l3 (1 : Int32) 1 rfl; omega)
      · have := ti_neK 0 rfl c7
        refine ty_33 X h a hm1 _ (fun r8 p9 => ?_)
        have o10 : ((0 ≤ a.toInt ∧ a.toInt < (h 1 7).toInt) ∧ r8.toInt = ((h 3 a.toInt.toNat) / 10).toInt) ∨ (¬ (0 ≤ a.toInt ∧ a.toInt < (h 1 7).toInt) ∧ r8.toInt = -4) := p9
        clear p9
        show qm_PW X 33 [.ref 1, .int l3] h _
        refine ty_33 X h l3 hm1 _ (fun r11 p12 => ?_)
        have o13 : ((0 ≤ l3.toInt ∧ l3.toInt < (h 1 7).toInt) ∧ r11.toInt = ((h 3 l3.toInt.toNat) / 10).toInt) ∨ (¬ (0 ≤ l3.toInt ∧ l3.toInt < (h 1 7).toInt) ∧ r11.toInt = -4) := p12
        clear p12
        show (r8 = r11 → (qm_PA X 50 4 [(0, .ref 1), (1, .int a), (2, .int l2), (3, .int (l3 + 1))] [] h Q)) ∧ (¬ r8 = r11 → (qm_PA X 50 4 [(0, .ref 1), (1, .int a), (2, .int (l2 ||| (1 <<< (l3 &&& 31)))), (3, .int (l3 + 1))] [] h Q))
        refine ⟨fun c14 => ?_, fun c15 => ?_⟩
        · exact ih l2 (l3 + 1) (by have := ti_addK l3 (1 : Int32) 1 rfl; have := ti_div (10 : Int32) 10 rfl (h 3 a.toInt.toNat) (by decide); have := ti_div (10 : Int32) 10 rfl (h 3 l3.toInt.toNat) (by decide); have el3 : l3 = nI l3.toInt.toNat := nI_is (by omega) (by omega); have e9 : (l3 + 1).toInt.toNat = l3.toInt.toNat + 1 := (by omega); have heq := congrArg Int32.toInt (show r8 = r11 from by assumption); exact ⟨by omega, by rw [e9]; exact oiQ_n hi.2 (fun w => w.2.2 (by omega))⟩) (by have := ti_addK l3 (1 : Int32) 1 rfl; have := ti_div (10 : Int32) 10 rfl (h 3 a.toInt.toNat) (by decide); have := ti_div (10 : Int32) 10 rfl (h 3 l3.toInt.toNat) (by decide); omega)
        · exact ih (l2 ||| (1 <<< (l3 &&& 31))) (l3 + 1) (by have := ti_addK l3 (1 : Int32) 1 rfl; have := ti_div (10 : Int32) 10 rfl (h 3 a.toInt.toNat) (by decide); have := ti_div (10 : Int32) 10 rfl (h 3 l3.toInt.toNat) (by decide); have el3 : l3 = nI l3.toInt.toNat := nI_is (by omega) (by omega); have e9 : (l3 + 1).toInt.toNat = l3.toInt.toNat + 1 := (by omega); have hne : ¬ r8.toInt = r11.toInt := (fun w => absurd (Int32.toInt_inj.mp w) (by assumption)); exact ⟨by omega, by rw [e9]; exact oiQ_y hi.2 el3 (by omega) ⟨by omega, by omega, by omega⟩⟩) (by have := ti_addK l3 (1 : Int32) 1 rfl; have := ti_div (10 : Int32) 10 rfl (h 3 a.toInt.toNat) (by decide); have := ti_div (10 : Int32) 10 rfl (h 3 l3.toInt.toNat) (by decide); omega)
set_option maxRecDepth 100000 in
set_option maxHeartbeats 4000000 in
theorem tz_50 (X : qm_X) (h : qm_H) (a : Int32) (hp : mq 1 h ∧ (0 ≤ a.toInt ∧ a.toInt < (h 1 7).toInt)) (Q : qm_Q) (hq : ∀ r : Int32, (oiQ (h 3) (h 4) (h 5) a.toInt.toNat a.toInt.toNat r) → Q (some (.int r)) h) : qm_PW X 50 [.ref 1, .int a] h Q := by
  have hm1 : mq 1 h := hp.1
  have ⟨⟨_, _⟩, ⟨_, _⟩, _, _⟩ := hm1
  have hp0 : 0 ≤ a.toInt ∧ a.toInt < (h 1 7).toInt := hp.2
  refine qm_seg_ok (C := qc_50) (rt := some .int) rfl rfl (cuts := [(4, [0, 1, 2, 3])]) 400 _ _ _ _ ?_
  show qm_PA X 50 4 [(0, .ref 1), (1, .int a), (2, .int 0), (3, .int 0)] [] h Q
  exact (tz_50_c X h a hp Q hq _) (0 : Int32) (0 : Int32) (by have : (0 : Int32).toInt = 0 := rfl; exact ⟨by have : (0 : Int32).toInt = 0 := rfl; omega, oiQ_0 rfl⟩) (Nat.lt_succ_self _)
-- ThreadBank$Memory.noteOriginals([I)V
set_option maxRecDepth 100000 in
set_option maxHeartbeats 4000000 in
theorem ty_56_c (X : qm_X) (h : qm_H) (hp : mq 1 h) (Q : qm_Q) (hq : ∀ h' : qm_H, ((∀ k, (k < 38 ∨ 38 < k) → h' k = h k) ∧ (nqQ h (h' 38) (h 1 7).toInt.toNat)) → Q none h') : ∀ n : Nat, (∀ (l2 : Int32) (g : qm_H), (((0 ≤ l2.toInt ∧ l2.toInt ≤ (h 1 7).toInt) ∧ nqQ h (g 38) l2.toInt.toNat) ∧ mq 1 g ∧ ∀ k, (k < 38 ∨ 38 < k) → g k = h k) → (10 - l2.toInt).toNat < n → qm_PA X 56 2 [(0, .ref 1), (1, .ref 38), (2, .int l2)] [] g Q) := by
  have hm1 : mq 1 h := hp
  have ⟨⟨_, _⟩, ⟨_, _⟩, _, _⟩ := hm1
  intro n
  induction n with
  | zero => exact fun _ _ _ h0 => absurd h0 (Nat.not_lt_zero _)
  | succ n ih =>
    intro l2 g hi hr
    obtain ⟨hi0, hg1, hgf⟩ := hi
    have ⟨⟨_, _⟩, ⟨_, _⟩, _, _⟩ := hg1
    have ti_l2 := ti_rng l2
    have w1_g : g 1 = h 1 := hgf 1 (by omega)
    have w3_g : g 3 = h 3 := hgf 3 (by omega)
    have w4_g : g 4 = h 4 := hgf 4 (by omega)
    have w5_g : g 5 = h 5 := hgf 5 (by omega)
    have e7_g : (g 1 7).toInt = (h 1 7).toInt := by rw [w1_g]
    refine qm_seg_ok (C := qc_56) (rt := none) rfl rfl (cuts := [(2, [0, 1, 2])]) 400 _ _ _ _ ?_
    show ((g 1 7).toInt ≤ l2.toInt → (Q none g)) ∧ (l2.toInt < (g 1 7).toInt → ((10 ≤ l2.toInt → (Q none g)) ∧ (l2.toInt < 10 → (qm_PW X 50 [.ref 1, .int l2] g _))))
    refine ⟨fun c1 => ?_, fun c2 => ?_⟩
    · exact hq g ⟨(fun k hk => hgf k hk), (by show nqQ h (g 38) (h 1 7).toInt.toNat; have hz := hi0.2; rw [show l2.toInt.toNat = (h 1 7).toInt.toNat by omega] at hz; exact hz)⟩
    · refine ⟨fun c3 => ?_, fun c4 => ?_⟩
      · exact hq g ⟨(fun k hk => hgf k hk), (by show nqQ h (g 38) (h 1 7).toInt.toNat; have hz := hi0.2; rw [show l2.toInt.toNat = (h 1 7).toInt.toNat by omega] at hz; exact hz)⟩
      · refine tz_50 X g l2 ⟨hg1, (by show 0 ≤ l2.toInt ∧ l2.toInt < (g 1 7).toInt; omega)⟩ _ (fun r5 p6 => ?_)
        have o7 : oiQ (g 3) (g 4) (g 5) l2.toInt.toNat l2.toInt.toNat r5 := p6
        clear p6
        show (0 ≤ l2.toInt ∧ l2.toInt < 10) ∧ (qm_PA X 56 2 [(0, .ref 1), (1, .ref 38), (2, .int (l2 + 1))] [] (qm_row g 38 (upd (g 38) l2.toInt.toNat r5)) Q)
        refine ⟨(by omega), ?_⟩
        exact ih (l2 + 1) (qm_row g 38 (upd (g 38) l2.toInt.toNat r5)) ⟨(by have := ti_addK l2 (1 : Int32) 1 rfl; show (0 ≤ (l2 + 1).toInt ∧ (l2 + 1).toInt ≤ (h 1 7).toInt) ∧ nqQ h ((qm_row g 38 (upd (g 38) l2.toInt.toNat r5)) 38) (l2 + 1).toInt.toNat; rw [w3_g, w4_g, w5_g] at o7; exact ⟨by omega, by rw [show (l2 + 1).toInt.toNat = l2.toInt.toNat + 1 by omega]; exact nqQ_s hi0.2 rfl o7⟩), (by exact hg1), (fun k hk => by simp only [qm_row]; rw [if_neg (by omega)]; exact hgf k hk)⟩ (by have := ti_addK l2 (1 : Int32) 1 rfl; show (10 - (l2 + 1).toInt).toNat < n; omega)
set_option maxRecDepth 100000 in
set_option maxHeartbeats 4000000 in
theorem ty_56 (X : qm_X) (h : qm_H) (hp : mq 1 h) (Q : qm_Q) (hq : ∀ h' : qm_H, ((∀ k, (k < 38 ∨ 38 < k) → h' k = h k) ∧ (nqQ h (h' 38) (h 1 7).toInt.toNat)) → Q none h') : qm_PW X 56 [.ref 1, .ref 38] h Q := by
  have hm1 : mq 1 h := hp
  have ⟨⟨_, _⟩, ⟨_, _⟩, _, _⟩ := hm1
  refine qm_seg_ok (C := qc_56) (rt := none) rfl rfl (cuts := [(2, [0, 1, 2])]) 400 _ _ _ _ ?_
  show qm_PA X 56 2 [(0, .ref 1), (1, .ref 38), (2, .int 0)] [] h Q
  exact (ty_56_c X h hp Q hq _) (0 : Int32) h ⟨(by have : (0 : Int32).toInt = 0 := rfl; show (0 ≤ (0 : Int32).toInt ∧ (0 : Int32).toInt ≤ (h 1 7).toInt) ∧ nqQ h (h 38) (0 : Int32).toInt.toNat; exact ⟨by have : (0 : Int32).toInt = 0 := rfl; omega, fun t q => absurd q (by have : (0 : Int32).toInt = 0 := rfl; omega)⟩), hm1, (fun k hk => rfl)⟩ (Nat.lt_succ_self _)
-- ThreadBank$Memory.owedWithout(II[I)I
set_option maxRecDepth 100000 in
set_option maxHeartbeats 4000000 in
theorem ty_57_c (X : qm_X) (h : qm_H) (a : Int32) (b : Int32) (hp : mq 1 h ∧ wc h ∧ (nqQ h (h 38) (h 1 7).toInt.toNat)) (Q : qm_Q) (hq : ∀ r : Int32, (r.toInt = owW (h 3) (h 4) (h 5) a b.toInt (h 1 7).toInt.toNat ∧ (0 ≤ r.toInt ∧ r.toInt ≤ 90)) → Q (some (.int r)) h) : ∀ n : Nat, (∀ (l4 : Int32) (l5 : Int32), ((0 ≤ l5.toInt ∧ l5.toInt ≤ (h 1 7).toInt) ∧ l4.toInt = owW (h 3) (h 4) (h 5) a b.toInt l5.toInt.toNat) → (10 - l5.toInt).toNat < n → qm_PA X 57 6 [(0, .ref 1), (1, .int a), (2, .int b), (3, .ref 38), (4, .int l4), (5, .int l5)] [] h Q) := by
  have hm1 : mq 1 h := hp.1
  have ⟨⟨_, _⟩, ⟨_, _⟩, _, _⟩ := hm1
  have hmwc : wc h := hp.2.1
  have hp0 : nqQ h (h 38) (h 1 7).toInt.toNat := hp.2.2
  have hkn := wf_kn (show wfM (mC h) from hmwc)
  intro n
  induction n with
  | zero => exact fun _ _ _ h0 => absurd h0 (Nat.not_lt_zero _)
  | succ n ih =>
    intro l4 l5 hi hr
    have ti_l5 := ti_rng l5
    have hrg := owW_rng (pl := h 3) (pa := h 4) (kn := h 5) (c := a) (p := b.toInt) (n := l5.toInt.toNat) (fun j q => hkn j (by omega))
    refine qm_seg_ok (C := qc_57) (rt := some .int) rfl rfl (cuts := [(6, [0, 1, 2, 3, 4, 5])]) 400 _ _ _ _ ?_
    show ((h 1 7).toInt ≤ l5.toInt → (Q (some (.int l4)) h)) ∧ (l5.toInt < (h 1 7).toInt → ((10 ≤ l5.toInt → (Q (some (.int l4)) h)) ∧ (l5.toInt < 10 → ((0 ≤ l5.toInt ∧ l5.toInt < 10) ∧ ((¬ (h 4 l5.toInt.toNat) = b → (qm_PA X 57 6 [(0, .ref 1), (1, .int a), (2, .int b), (3, .ref 38), (4, .int l4), (5, .int (l5 + 1))] [] h Q)) ∧ ((h 4 l5.toInt.toNat) = b → (qm_PW X 138 [.int a, .int l5] h _)))))))
    refine ⟨fun c1 => ?_, fun c2 => ?_⟩
    · exact hq l4 (by show l4.toInt = owW (h 3) (h 4) (h 5) a b.toInt (h 1 7).toInt.toNat ∧ (0 ≤ l4.toInt ∧ l4.toInt ≤ 90); have hz := hi.2; rw [show l5.toInt.toNat = (h 1 7).toInt.toNat by omega] at hz; have hrh := owW_rng (pl := h 3) (pa := h 4) (kn := h 5) (c := a) (p := b.toInt) (n := (h 1 7).toInt.toNat) (fun j q => hkn j (by omega)); exact ⟨hz, by omega⟩)
    · refine ⟨fun c3 => ?_, fun c4 => ?_⟩
      · exact hq l4 (by show l4.toInt = owW (h 3) (h 4) (h 5) a b.toInt (h 1 7).toInt.toNat ∧ (0 ≤ l4.toInt ∧ l4.toInt ≤ 90); have hz := hi.2; rw [show l5.toInt.toNat = (h 1 7).toInt.toNat by omega] at hz; have hrh := owW_rng (pl := h 3) (pa := h 4) (kn := h 5) (c := a) (p := b.toInt) (n := (h 1 7).toInt.toNat) (fun j q => hkn j (by omega)); exact ⟨hz, by omega⟩)
      · refine ⟨(by omega), ?_⟩
        refine ⟨fun c5 => ?_, fun c6 => ?_⟩
        · exact ih l4 (l5 + 1) (by have := ti_addK l5 (1 : Int32) 1 rfl; have el5 : l5 = nI l5.toInt.toNat := nI_is (by omega) (by omega); have e9 : (l5 + 1).toInt.toNat = l5.toInt.toNat + 1 := (by omega); have hk5 := hkn l5.toInt.toNat (by omega); have hT : owZ (h 3) (h 4) (h 5) a b.toInt l5.toInt.toNat = 0 := ifP_f (fun w => absurd (Int32.toInt_inj.mp w.1) (show ¬ (h 4 l5.toInt.toNat) = b from by assumption)); exact ⟨by omega, by rw [e9]; show _ = owW (h 3) (h 4) (h 5) a b.toInt l5.toInt.toNat + owZ (h 3) (h 4) (h 5) a b.toInt l5.toInt.toNat; rw [hT]; omega⟩) (by have := ti_addK l5 (1 : Int32) 1 rfl; omega)
        · refine ty_138 X h a l5 trivial _ (fun r7 p8 => ?_)
          have o9 : (r7 = 0 ∨ r7 = 1) ∧ ((r7.toInt = 1 ∧ hbQ a l5) ∨ (r7.toInt = 0 ∧ ¬ hbQ a l5)) := p8
          clear p8
          show (¬ r7 = 0 → (qm_PA X 57 6 [(0, .ref 1), (1, .int a), (2, .int b), (3, .ref 38), (4, .int l4), (5, .int (l5 + 1))] [] h Q)) ∧ (r7 = 0 → ((0 ≤ l5.toInt ∧ l5.toInt < 10) ∧ ((¬ ((h 38 l5.toInt.toNat) &&& (a ^^^ (-1 : Int32))) = 0 → (qm_PA X 57 6 [(0, .ref 1), (1, .int a), (2, .int b), (3, .ref 38), (4, .int l4), (5, .int (l5 + 1))] [] h Q)) ∧ (((h 38 l5.toInt.toNat) &&& (a ^^^ (-1 : Int32))) = 0 → ((0 ≤ l5.toInt ∧ l5.toInt < 10) ∧ (¬ (10 : Int32) = 0 ∧ (qm_PA X 57 6 [(0, .ref 1), (1, .int a), (2, .int b), (3, .ref 38), (4, .int (l4 + ((h 5 l5.toInt.toNat) / 10))), (5, .int (l5 + 1))] [] h Q)))))))
          refine ⟨fun c10 => ?_, fun c11 => ?_⟩
          · have := ti_neK 0 rfl c10
            exact ih l4 (l5 + 1) (by have := ti_addK l5 (1 : Int32) 1 rfl; have el5 : l5 = nI l5.toInt.toNat := nI_is (by omega) (by omega); have e9 : (l5 + 1).toInt.toNat = l5.toInt.toNat + 1 := (by omega); have hk5 := hkn l5.toInt.toNat (by omega); have hB := (o9.2.resolve_right (fun w => absurd w.1 (by omega))).2; have hT : owZ (h 3) (h 4) (h 5) a b.toInt l5.toInt.toNat = 0 := ifP_f (fun w => hb_no el5 hB w.2.1); exact ⟨by omega, by rw [e9]; show _ = owW (h 3) (h 4) (h 5) a b.toInt l5.toInt.toNat + owZ (h 3) (h 4) (h 5) a b.toInt l5.toInt.toNat; rw [hT]; omega⟩) (by have := ti_addK l5 (1 : Int32) 1 rfl; omega)
          · have := ti_eqK 0 rfl c11
            refine ⟨(by omega), ?_⟩
            refine ⟨fun c12 => ?_, fun c13 => ?_⟩
            · exact ih l4 (l5 + 1) (by have := ti_addK l5 (1 : Int32) 1 rfl; have el5 : l5 = nI l5.toInt.toNat := nI_is (by omega) (by omega); have e9 : (l5 + 1).toInt.toNat = l5.toInt.toNat + 1 := (by omega); have hk5 := hkn l5.toInt.toNat (by omega); have hT : owZ (h 3) (h 4) (h 5) a b.toInt l5.toInt.toNat = 0 := ifP_f (fun w => absurd ((og_iff (hp0 l5.toInt.toNat (by omega)) (by omega)).mpr w.2.2) (show ¬ ((h 38 l5.toInt.toNat) &&& (a ^^^ (-1 : Int32))) = 0 from by assumption)); exact ⟨by omega, by rw [e9]; show _ = owW (h 3) (h 4) (h 5) a b.toInt l5.toInt.toNat + owZ (h 3) (h 4) (h 5) a b.toInt l5.toInt.toNat; rw [hT]; omega⟩) (by have := ti_addK l5 (1 : Int32) 1 rfl; omega)
            · refine ⟨(by omega), ?_⟩
              refine ⟨by decide, ?_⟩
              exact ih (l4 + ((h 5 l5.toInt.toNat) / 10)) (l5 + 1) (by have := ti_addK l5 (1 : Int32) 1 rfl; have := ti_div (10 : Int32) 10 rfl (h 5 l5.toInt.toNat) (by decide); have := ti_add l4 ((h 5 l5.toInt.toNat) / 10); have el5 : l5 = nI l5.toInt.toNat := nI_is (by omega) (by omega); have e9 : (l5 + 1).toInt.toNat = l5.toInt.toNat + 1 := (by omega); have hk5 := hkn l5.toInt.toNat (by omega); have hB := (o9.2.resolve_left (fun w => absurd w.1 (by omega))).2; have hp9 := congrArg Int32.toInt (show (h 4 l5.toInt.toNat) = b from by assumption); have hT : owZ (h 3) (h 4) (h 5) a b.toInt l5.toInt.toNat = (h 5 l5.toInt.toNat).toInt / 10 := ifP_t ⟨hp9, hb_yes el5 hB, (og_iff (hp0 l5.toInt.toNat (by omega)) (by omega)).mp (show ((h 38 l5.toInt.toNat) &&& (a ^^^ (-1 : Int32))) = 0 from by assumption)⟩; exact ⟨by omega, by rw [e9]; show _ = owW (h 3) (h 4) (h 5) a b.toInt l5.toInt.toNat + owZ (h 3) (h 4) (h 5) a b.toInt l5.toInt.toNat; rw [hT]; omega⟩) (by have := ti_addK l5 (1 : Int32) 1 rfl; omega)
set_option maxRecDepth 100000 in
set_option maxHeartbeats 4000000 in
theorem ty_57 (X : qm_X) (h : qm_H) (a : Int32) (b : Int32) (hp : mq 1 h ∧ wc h ∧ (nqQ h (h 38) (h 1 7).toInt.toNat)) (Q : qm_Q) (hq : ∀ r : Int32, (r.toInt = owW (h 3) (h 4) (h 5) a b.toInt (h 1 7).toInt.toNat ∧ (0 ≤ r.toInt ∧ r.toInt ≤ 90)) → Q (some (.int r)) h) : qm_PW X 57 [.ref 1, .int a, .int b, .ref 38] h Q := by
  have hm1 : mq 1 h := hp.1
  have ⟨⟨_, _⟩, ⟨_, _⟩, _, _⟩ := hm1
  have hmwc : wc h := hp.2.1
  have hp0 : nqQ h (h 38) (h 1 7).toInt.toNat := hp.2.2
  have hkn := wf_kn (show wfM (mC h) from hmwc)
  refine qm_seg_ok (C := qc_57) (rt := some .int) rfl rfl (cuts := [(6, [0, 1, 2, 3, 4, 5])]) 400 _ _ _ _ ?_
  show qm_PA X 57 6 [(0, .ref 1), (1, .int a), (2, .int b), (3, .ref 38), (4, .int 0), (5, .int 0)] [] h Q
  exact (ty_57_c X h a b hp Q hq _) (0 : Int32) (0 : Int32) (by have : (0 : Int32).toInt = 0 := rfl; exact ⟨by have : (0 : Int32).toInt = 0 := rfl; omega, rfl⟩) (Nat.lt_succ_self _)
-- ThreadBank$Memory.isAsSeen(I[I)Z
set_option maxRecDepth 100000 in
set_option maxHeartbeats 4000000 in
theorem ty_58_c (X : qm_X) (h : qm_H) (a : Int32) (hp : mq 1 h ∧ wc h ∧ (nqQ h (h 38) (h 1 7).toInt.toNat)) (Q : qm_Q) (hq : ∀ r : Int32, ((r = 0 ∨ r = 1) ∧ ((r.toInt = 1 ∧ seA (h 3) (h 4) (h 5) (h 6) (h 7) (h 1 7).toInt.toNat (h 1 9).toInt.toNat a) ∨ (r.toInt = 0 ∧ ¬ seA (h 3) (h 4) (h 5) (h 6) (h 7) (h 1 7).toInt.toNat (h 1 9).toInt.toNat a))) → Q (some (.int r)) h) : ∀ n : Nat, (∀ (l3 : Int32), ((0 ≤ l3.toInt ∧ l3.toInt ≤ (h 1 9).toInt) ∧ ∀ i : Nat, (i : Int) < l3.toInt → seQ (h 3) (h 4) (h 5) (h 6) (h 7) (h 1 7).toInt.toNat a i) → (6 - l3.toInt).toNat < n → qm_PA X 58 2 [(0, .ref 1), (1, .int a), (2, .ref 38), (3, .int l3)] [] h Q) := by
  have hm1 : mq 1 h := hp.1
  have ⟨⟨_, _⟩, ⟨_, _⟩, _, _⟩ := hm1
  have hmwc : wc h := hp.2.1
  have hp0 : nqQ h (h 38) (h 1 7).toInt.toNat := hp.2.2
  have nq_h : nqQ h (h 38) (h 1 7).toInt.toNat := hp0
  intro n
  induction n with
  | zero => exact fun _ _ h0 => absurd h0 (Nat.not_lt_zero _)
  | succ n ih =>
    intro l3 hi hr
    have ti_l3 := ti_rng l3
    refine qm_seg_ok (C := qc_58) (rt := some .boolean) rfl rfl (cuts := [(2, [0, 1, 2, 3])]) 400 _ _ _ _ ?_
    show ((h 1 9).toInt ≤ l3.toInt → (((1 : Int32) = 0 ∨ (1 : Int32) = 1) ∧ Q (some (.int 1)) h)) ∧ (l3.toInt < (h 1 9).toInt → ((0 ≤ l3.toInt ∧ l3.toInt < 6) ∧ (qm_PW X 57 [.ref 1, .int a, .int (h 6 l3.toInt.toNat), .ref 38] h _)))
    refine ⟨fun c1 => ?_, fun c2 => ?_⟩
    · exact ⟨Or.inr rfl, hq 1 (by have : (1 : Int32).toInt = 1 := rfl; show ((1 : Int32) = 0 ∨ (1 : Int32) = 1) ∧ (((1 : Int32).toInt = 1 ∧ seA (h 3) (h 4) (h 5) (h 6) (h 7) (h 1 7).toInt.toNat (h 1 9).toInt.toNat a) ∨ ((1 : Int32).toInt = 0 ∧ ¬ seA (h 3) (h 4) (h 5) (h 6) (h 7) (h 1 7).toInt.toNat (h 1 9).toInt.toNat a)); exact ⟨Or.inr rfl, Or.inl ⟨rfl, fun i q => hi.2 i (by omega)⟩⟩)⟩
    · refine ⟨(by omega), ?_⟩
      refine ty_57 X h a (h 6 l3.toInt.toNat) ⟨hm1, hmwc, nq_h⟩ _ (fun r3 p4 => ?_)
      have o5 : r3.toInt = owW (h 3) (h 4) (h 5) a (h 6 l3.toInt.toNat).toInt (h 1 7).toInt.toNat ∧ (0 ≤ r3.toInt ∧ r3.toInt ≤ 90) := p4
      clear p4
      show (0 ≤ l3.toInt ∧ l3.toInt < 6) ∧ ((r3 = (h 7 l3.toInt.toNat) → (qm_PA X 58 2 [(0, .ref 1), (1, .int a), (2, .ref 38), (3, .int (l3 + 1))] [] h Q)) ∧ (¬ r3 = (h 7 l3.toInt.toNat) → (((0 : Int32) = 0 ∨ (0 : Int32) = 1) ∧ Q (some (.int 0)) h)))
      refine ⟨(by omega), ?_⟩
      refine ⟨fun c6 => ?_, fun c7 => ?_⟩
      · exact ih (l3 + 1) (by have := ti_addK l3 (1 : Int32) 1 rfl; have heq := congrArg Int32.toInt (show r3 = (h 7 l3.toInt.toNat) from by assumption); have oy9 := o5.1; exact ⟨by omega, fun i q => if w : (i : Int) < l3.toInt then hi.2 i w else (by rw [show i = l3.toInt.toNat by omega]; exact oy9.symm.trans heq)⟩) (by have := ti_addK l3 (1 : Int32) 1 rfl; omega)
      · exact ⟨Or.inl rfl, hq 0 (by have : (0 : Int32).toInt = 0 := rfl; show ((0 : Int32) = 0 ∨ (0 : Int32) = 1) ∧ (((0 : Int32).toInt = 1 ∧ seA (h 3) (h 4) (h 5) (h 6) (h 7) (h 1 7).toInt.toNat (h 1 9).toInt.toNat a) ∨ ((0 : Int32).toInt = 0 ∧ ¬ seA (h 3) (h 4) (h 5) (h 6) (h 7) (h 1 7).toInt.toNat (h 1 9).toInt.toNat a)); exact ⟨Or.inl rfl, Or.inr ⟨rfl, fun w => by have z := w l3.toInt.toNat (by omega); exact absurd (Int32.toInt_inj.mp (o5.1.trans z)) (show ¬ r3 = (h 7 l3.toInt.toNat) from by assumption)⟩⟩)⟩
set_option maxRecDepth 100000 in
set_option maxHeartbeats 4000000 in
theorem ty_58 (X : qm_X) (h : qm_H) (a : Int32) (hp : mq 1 h ∧ wc h ∧ (nqQ h (h 38) (h 1 7).toInt.toNat)) (Q : qm_Q) (hq : ∀ r : Int32, ((r = 0 ∨ r = 1) ∧ ((r.toInt = 1 ∧ seA (h 3) (h 4) (h 5) (h 6) (h 7) (h 1 7).toInt.toNat (h 1 9).toInt.toNat a) ∨ (r.toInt = 0 ∧ ¬ seA (h 3) (h 4) (h 5) (h 6) (h 7) (h 1 7).toInt.toNat (h 1 9).toInt.toNat a))) → Q (some (.int r)) h) : qm_PW X 58 [.ref 1, .int a, .ref 38] h Q := by
  have hm1 : mq 1 h := hp.1
  have ⟨⟨_, _⟩, ⟨_, _⟩, _, _⟩ := hm1
  have hmwc : wc h := hp.2.1
  have hp0 : nqQ h (h 38) (h 1 7).toInt.toNat := hp.2.2
  have nq_h : nqQ h (h 38) (h 1 7).toInt.toNat := hp0
  refine qm_seg_ok (C := qc_58) (rt := some .boolean) rfl rfl (cuts := [(2, [0, 1, 2, 3])]) 400 _ _ _ _ ?_
  show qm_PA X 58 2 [(0, .ref 1), (1, .int a), (2, .ref 38), (3, .int 0)] [] h Q
  exact (ty_58_c X h a hp Q hq _) (0 : Int32) (by have : (0 : Int32).toInt = 0 := rfl; exact ⟨by have : (0 : Int32).toInt = 0 := rfl; omega, fun i q => absurd q (by have : (0 : Int32).toInt = 0 := rfl; omega)⟩) (Nat.lt_succ_self _)
-- ThreadBank.fits(I)I
set_option maxRecDepth 100000 in
set_option maxHeartbeats 4000000 in
theorem ty_121_c (X : qm_X) (h : qm_H) (a : Int32) (hp : mq 1 h ∧ mq 8 h ∧ mq 15 h ∧ sq h ∧ wc h) (Q : qm_Q) (hq : ∀ r : Int32, ∀ h' : qm_H, (mq 1 h' ∧ mq 8 h' ∧ mq 15 h' ∧ sq h' ∧ (∀ k, (k < 38 ∨ 38 < k) → h' k = h k) ∧ (r.toInt = qFits a.toInt (mC h))) → Q (some (.int r)) h') : ∀ n : Nat, (∀ (l2 : Int32) (l3 : Int32) (l4 : Int32) (l5 : Int32) (l6 : Int32) (l7 : Int32) (l8 : Int32) (g : qm_H), (((0 ≤ l8.toInt ∧ l8.toInt ≤ l2.toInt + 1 ∧ 0 ≤ l2.toInt ∧ l2.toInt ≤ 1023) ∧ (0 ≤ a.toInt ∧ a.toInt ≤ 4) ∧ l2 = drB0 (h 1 7) ∧ fyI (seA (h 3) (h 4) (h 5) (h 6) (h 7) (h 1 7).toInt.toNat (h 1 9).toInt.toNat) (drB0 (h 1 7)) 0 10 l8.toInt.toNat l3.toInt l4.toInt l5 l6 l7.toInt ∧ nqQ h (g 38) (h 1 7).toInt.toNat) ∧ mq 1 g ∧ mq 8 g ∧ mq 15 g ∧ sq g ∧ wc g ∧ ∀ k, (k < 38 ∨ 38 < k) → g k = h k) → (1024 - l8.toInt).toNat < n → qm_PA X 121 48 [(0, .ref 0), (1, .int a), (2, .int l2), (3, .int l3), (4, .int l4), (5, .int l5), (6, .int l6), (7, .int l7), (8, .int l8)] [] g Q) := by
  have hm1 : mq 1 h := hp.1
  have ⟨⟨_, _⟩, ⟨_, _⟩, _, _⟩ := hm1
  have hm8 : mq 8 h := hp.2.1
  have ⟨⟨_, _⟩, ⟨_, _⟩, _, _⟩ := hm8
  have hm15 : mq 15 h := hp.2.2.1
  have ⟨⟨_, _⟩, ⟨_, _⟩, _, _⟩ := hm15
  have hmsq : sq h := hp.2.2.2.1
  have hmwc : wc h := hp.2.2.2.2
  intro n
  induction n with
  | zero => exact fun _ _ _ _ _ _ _ _ _ h0 => absurd h0 (Nat.not_lt_zero _)
  | succ n ih =>
    intro l2 l3 l4 l5 l6 l7 l8 g hi hr
    obtain ⟨hi0, hg1, hg8, hg15, hgsq, hgwc, hgf⟩ := hi
    have ⟨⟨_, _⟩, ⟨_, _⟩, _, _⟩ := hg1
    have ⟨⟨_, _⟩, ⟨_, _⟩, _, _⟩ := hg8
    have ⟨⟨_, _⟩, ⟨_, _⟩, _, _⟩ := hg15
    have ti_l8 := ti_rng l8
    have w1_g : g 1 = h 1 := hgf 1 (by omega)
    have w3_g : g 3 = h 3 := hgf 3 (by omega)
    have w4_g : g 4 = h 4 := hgf 4 (by omega)
    have w5_g : g 5 = h 5 := hgf 5 (by omega)
    have w6_g : g 6 = h 6 := hgf 6 (by omega)
    have w7_g : g 7 = h 7 := hgf 7 (by omega)
    have e7_g : (g 1 7).toInt.toNat = (h 1 7).toInt.toNat := by rw [w1_g]
    have nq_g : nqQ g (g 38) (g 1 7).toInt.toNat := nqQ_h hi0.2.2.2.2 w3_g w4_g w5_g e7_g
    have hfr := fn_rng (P := (seA (h 3) (h 4) (h 5) (h 6) (h 7) (h 1 7).toInt.toNat (h 1 9).toInt.toNat)) (k := l8.toInt.toNat)
    have hf1 := hi0.2.2.2.1.1
    refine qm_seg_ok (C := qc_121) (rt := some .int) rfl rfl (cuts := [(48, [0, 1, 2, 3, 4, 5, 6, 7, 8])]) 400 _ _ _ _ ?_
    show (l2.toInt < l8.toInt → ((¬ a = 0 → ((¬ l3 = 0 → (((a = 1 → (Q (some (.int l4)) g)) ∧ (¬ a = 1 → ((a = 2 → (Q (some (.int l5)) g)) ∧ (¬ a = 2 → ((a = 3 → (Q (some (.int (l2 &&& (l6 ^^^ (-1 : Int32))))) g)) ∧ (¬ a = 3 → (Q (some (.int l7)) g))))))))) ∧ (l3 = 0 → (Q (some (.int (-4 : Int32))) g)))) ∧ (a = 0 → (Q (some (.int l3)) g)))) ∧ (l8.toInt ≤ l2.toInt → (qm_PW X 58 [.ref 1, .int l8, .ref 38] g _))
    refine ⟨fun c1 => ?_, fun c2 => ?_⟩
    · refine ⟨fun c3 => ?_, fun c4 => ?_⟩
      · have := ti_neK 0 rfl c3
        refine ⟨fun c5 => ?_, fun c6 => ?_⟩
        · have := ti_neK 0 rfl c5
          refine ⟨fun c7 => ?_, fun c8 => ?_⟩
          · have := ti_eqK 1 rfl c7
            exact hq l4 g ⟨hg1, hg8, hg15, hgsq, (fun k hk => hgf k hk), (by show l4.toInt = qFits a.toInt (mC h); have hk9 : l8.toInt.toNat = (drB0 (h 1 7)).toInt.toNat + 1 := (by rw [← hi0.2.2.1]; omega); exact (ft_w hi0.2.2.2.1 (Or.inl rfl) (Or.inl rfl) (by omega) (by omega) (by omega) (Or.inl ⟨by omega, rfl⟩)).trans (show qFits a.toInt (mC h) = _ from fits_ok (by omega) hk9).symm)⟩
          · have := ti_neK 1 rfl c8
            refine ⟨fun c9 => ?_, fun c10 => ?_⟩
            · have := ti_eqK 2 rfl c9
              exact hq l5 g ⟨hg1, hg8, hg15, hgsq, (fun k hk => hgf k hk), (by show l5.toInt = qFits a.toInt (mC h); have hk9 : l8.toInt.toNat = (drB0 (h 1 7)).toInt.toNat + 1 := (by rw [← hi0.2.2.1]; omega); exact (ft_w hi0.2.2.2.1 (Or.inl rfl) (Or.inl rfl) (by omega) (by omega) (by omega) (Or.inr (Or.inl ⟨by omega, rfl⟩))).trans (show qFits a.toInt (mC h) = _ from fits_ok (by omega) hk9).symm)⟩
            · have := ti_neK 2 rfl c10
              refine ⟨fun c11 => ?_, fun c12 => ?_⟩
              · have := ti_eqK 3 rfl c11
                exact hq (l2 &&& (l6 ^^^ (-1 : Int32))) g ⟨hg1, hg8, hg15, hgsq, (fun k hk => hgf k hk), (by show (l2 &&& (l6 ^^^ (-1 : Int32))).toInt = qFits a.toInt (mC h); have hk9 : l8.toInt.toNat = (drB0 (h 1 7)).toInt.toNat + 1 := (by rw [← hi0.2.2.1]; omega); exact (ft_w hi0.2.2.2.1 (Or.inl rfl) (Or.inl rfl) (by omega) (by omega) (by omega) (Or.inr (Or.inr (Or.inl ⟨by omega, by rw [hi0.2.2.1]⟩)))).trans (show qFits a.toInt (mC h) = _ from fits_ok (by omega) hk9).symm)⟩
              · have := ti_neK 3 rfl c12
                exact hq l7 g ⟨hg1, hg8, hg15, hgsq, (fun k hk => hgf k hk), (by show l7.toInt = qFits a.toInt (mC h); have hk9 : l8.toInt.toNat = (drB0 (h 1 7)).toInt.toNat + 1 := (by rw [← hi0.2.2.1]; omega); exact (ft_w hi0.2.2.2.1 (Or.inl rfl) (Or.inl rfl) (by omega) (by omega) (by omega) (Or.inr (Or.inr (Or.inr ⟨by omega, rfl⟩)))).trans (show qFits a.toInt (mC h) = _ from fits_ok (by omega) hk9).symm)⟩
        · have := ti_eqK 0 rfl c6
          exact hq (-4 : Int32) g ⟨hg1, hg8, hg15, hgsq, (fun k hk => hgf k hk), (by show (-4 : Int32).toInt = qFits a.toInt (mC h); rw [ti_n4]; have hk9 : l8.toInt.toNat = (drB0 (h 1 7)).toInt.toNat + 1 := (by rw [← hi0.2.2.1]; omega); exact (ft_4 hi0.2.2.2.1 (by omega) (by omega)).trans (show qFits a.toInt (mC h) = _ from fits_ok (by omega) hk9).symm)⟩
      · have := ti_eqK 0 rfl c4
        exact hq l3 g ⟨hg1, hg8, hg15, hgsq, (fun k hk => hgf k hk), (by show l3.toInt = qFits a.toInt (mC h); have hk9 : l8.toInt.toNat = (drB0 (h 1 7)).toInt.toNat + 1 := (by rw [← hi0.2.2.1]; omega); exact (ft_0 hi0.2.2.2.1 (by omega)).trans (show qFits a.toInt (mC h) = _ from fits_ok (by omega) hk9).symm)⟩
    · refine ty_58 X g l8 ⟨hg1, hgwc, nq_g⟩ _ (fun r13 p14 => ?_)
      have o15 : (r13 = 0 ∨ r13 = 1) ∧ ((r13.toInt = 1 ∧ seA (g 3) (g 4) (g 5) (g 6) (g 7) (g 1 7).toInt.toNat (g 1 9).toInt.toNat l8) ∨ (r13.toInt = 0 ∧ ¬ seA (g 3) (g 4) (g 5) (g 6) (g 7) (g 1 7).toInt.toNat (g 1 9).toInt.toNat l8)) := p14
      clear p14
      show (r13 = 0 → (qm_PA X 121 48 [(0, .ref 0), (1, .int a), (2, .int l2), (3, .int l3), (4, .int l4), (5, .int l5), (6, .int l6), (7, .int l7), (8, .int (l8 + 1))] [] g Q)) ∧ (¬ r13 = 0 → ((¬ l3 = 0 → (qm_PW X 0 [.int l8] g _)) ∧ (l3 = 0 → (qm_PW X 0 [.int l8] g _))))
      refine ⟨fun c16 => ?_, fun c17 => ?_⟩
      · have := ti_eqK 0 rfl c16
        exact ih l2 l3 l4 l5 l6 l7 (l8 + 1) g ⟨(by have := ti_addK l8 (1 : Int32) 1 rfl; show (0 ≤ (l8 + 1).toInt ∧ (l8 + 1).toInt ≤ l2.toInt + 1 ∧ 0 ≤ l2.toInt ∧ l2.toInt ≤ 1023) ∧ (0 ≤ a.toInt ∧ a.toInt ≤ 4) ∧ l2 = drB0 (h 1 7) ∧ fyI (seA (h 3) (h 4) (h 5) (h 6) (h 7) (h 1 7).toInt.toNat (h 1 9).toInt.toNat) (drB0 (h 1 7)) 0 10 (l8 + 1).toInt.toNat l3.toInt l4.toInt l5 l6 l7.toInt ∧ nqQ h (g 38) (h 1 7).toInt.toNat; have e8 : l8 = nI l8.toInt.toNat := i32_nI (by omega); have e9 : (l8 + 1).toInt.toNat = l8.toInt.toNat + 1 := (by omega); rw [w1_g, w3_g, w4_g, w5_g, w6_g, w7_g] at o15; have hP := (o15.2.resolve_left (fun w => absurd w.1 (by omega))).2; exact ⟨by omega, hi0.2.1, hi0.2.2.1, by rw [e9]; exact fyI_n hi0.2.2.2.1 e8 hP, hi0.2.2.2.2⟩), hg1, hg8, hg15, hgsq, hgwc, (fun k hk => hgf k hk)⟩ (by have := ti_addK l8 (1 : Int32) 1 rfl; show (1024 - (l8 + 1).toInt).toNat < n; omega)
      · have := ti_neK 0 rfl c17
        refine ⟨fun c18 => ?_, fun c19 => ?_⟩
        · have := ti_neK 0 rfl c18
          refine ty_0 X g l8 trivial _ (fun r20 p21 => ?_)
          have o22 : r20 = bcF l8 := p21
          clear p21
          show qm_PW X 2 [.int l7, .int r20] g _
          refine ty_2 X g l7 r20 trivial _ (fun r23 p24 => ?_)
          have o25 : (l7.toInt ≤ r20.toInt ∧ r23.toInt = l7.toInt) ∨ (r20.toInt < l7.toInt ∧ r23.toInt = r20.toInt) := p24
          clear p24
          show qm_PA X 121 48 [(0, .ref 0), (1, .int a), (2, .int l2), (3, .int (l3 + 1)), (4, .int l4), (5, .int (l5 &&& l8)), (6, .int (l6 ||| l8)), (7, .int r23), (8, .int (l8 + 1))] [] g Q
          exact ih l2 (l3 + 1) l4 (l5 &&& l8) (l6 ||| l8) r23 (l8 + 1) g ⟨(by have := ti_addK l8 (1 : Int32) 1 rfl; have := ti_addK l3 (1 : Int32) 1 rfl; show (0 ≤ (l8 + 1).toInt ∧ (l8 + 1).toInt ≤ l2.toInt + 1 ∧ 0 ≤ l2.toInt ∧ l2.toInt ≤ 1023) ∧ (0 ≤ a.toInt ∧ a.toInt ≤ 4) ∧ l2 = drB0 (h 1 7) ∧ fyI (seA (h 3) (h 4) (h 5) (h 6) (h 7) (h 1 7).toInt.toNat (h 1 9).toInt.toNat) (drB0 (h 1 7)) 0 10 (l8 + 1).toInt.toNat (l3 + 1).toInt l4.toInt (l5 &&& l8) (l6 ||| l8) r23.toInt ∧ nqQ h (g 38) (h 1 7).toInt.toNat; have e8 : l8 = nI l8.toInt.toNat := i32_nI (by omega); have e9 : (l8 + 1).toInt.toNat = l8.toInt.toNat + 1 := (by omega); rw [w1_g, w3_g, w4_g, w5_g, w6_g, w7_g] at o15; have hP := (o15.2.resolve_right (fun w => absurd w.1 (by omega))).2; have p8 := bc_pop (a := l8) (by omega); rw [← o22] at p8; exact ⟨by omega, hi0.2.1, hi0.2.2.1, by rw [e9]; exact fyI_y hi0.2.2.2.1 e8 hP (by omega) (Or.inr ⟨by omega, rfl⟩) rfl rfl (by omega), hi0.2.2.2.2⟩), hg1, hg8, hg15, hgsq, hgwc, (fun k hk => hgf k hk)⟩ (by have := ti_addK l8 (1 : Int32) 1 rfl; show (1024 - (l8 + 1).toInt).toNat < n; omega)
        · have := ti_eqK 0 rfl c19
          refine ty_0 X g l8 trivial _ (fun r26 p27 => ?_)
          have o28 : r26 = bcF l8 := p27
          clear p27
          show qm_PW X 2 [.int l7, .int r26] g _
          refine ty_2 X g l7 r26 trivial _ (fun r29 p30 => ?_)
          have o31 : (l7.toInt ≤ r26.toInt ∧ r29.toInt = l7.toInt) ∨ (r26.toInt < l7.toInt ∧ r29.toInt = r26.toInt) := p30
          clear p30
          show qm_PA X 121 48 [(0, .ref 0), (1, .int a), (2, .int l2), (3, .int (l3 + 1)), (4, .int l8), (5, .int (l5 &&& l8)), (6, .int (l6 ||| l8)), (7, .int r29), (8, .int (l8 + 1))] [] g Q
          exact ih l2 (l3 + 1) l8 (l5 &&& l8) (l6 ||| l8) r29 (l8 + 1) g ⟨(by have := ti_addK l8 (1 : Int32) 1 rfl; have := ti_addK l3 (1 : Int32) 1 rfl; show (0 ≤ (l8 + 1).toInt ∧ (l8 + 1).toInt ≤ l2.toInt + 1 ∧ 0 ≤ l2.toInt ∧ l2.toInt ≤ 1023) ∧ (0 ≤ a.toInt ∧ a.toInt ≤ 4) ∧ l2 = drB0 (h 1 7) ∧ fyI (seA (h 3) (h 4) (h 5) (h 6) (h 7) (h 1 7).toInt.toNat (h 1 9).toInt.toNat) (drB0 (h 1 7)) 0 10 (l8 + 1).toInt.toNat (l3 + 1).toInt l8.toInt (l5 &&& l8) (l6 ||| l8) r29.toInt ∧ nqQ h (g 38) (h 1 7).toInt.toNat; have e8 : l8 = nI l8.toInt.toNat := i32_nI (by omega); have e9 : (l8 + 1).toInt.toNat = l8.toInt.toNat + 1 := (by omega); rw [w1_g, w3_g, w4_g, w5_g, w6_g, w7_g] at o15; have hP := (o15.2.resolve_right (fun w => absurd w.1 (by omega))).2; have p8 := bc_pop (a := l8) (by omega); rw [← o28] at p8; exact ⟨by omega, hi0.2.1, hi0.2.2.1, by rw [e9]; exact fyI_y hi0.2.2.2.1 e8 hP (by omega) (Or.inl ⟨by omega, rfl⟩) rfl rfl (by omega), hi0.2.2.2.2⟩), hg1, hg8, hg15, hgsq, hgwc, (fun k hk => hgf k hk)⟩ (by have := ti_addK l8 (1 : Int32) 1 rfl; show (1024 - (l8 + 1).toInt).toNat < n; omega)
set_option maxRecDepth 100000 in
set_option maxHeartbeats 4000000 in
theorem ty_121 (X : qm_X) (h : qm_H) (a : Int32) (hp : mq 1 h ∧ mq 8 h ∧ mq 15 h ∧ sq h ∧ wc h) (Q : qm_Q) (hq : ∀ r : Int32, ∀ h' : qm_H, (mq 1 h' ∧ mq 8 h' ∧ mq 15 h' ∧ sq h' ∧ (∀ k, (k < 38 ∨ 38 < k) → h' k = h k) ∧ (r.toInt = qFits a.toInt (mC h))) → Q (some (.int r)) h') : qm_PW X 121 [.ref 0, .int a] h Q := by
  have hm1 : mq 1 h := hp.1
  have ⟨⟨_, _⟩, ⟨_, _⟩, _, _⟩ := hm1
  have hm8 : mq 8 h := hp.2.1
  have ⟨⟨_, _⟩, ⟨_, _⟩, _, _⟩ := hm8
  have hm15 : mq 15 h := hp.2.2.1
  have ⟨⟨_, _⟩, ⟨_, _⟩, _, _⟩ := hm15
  have hmsq : sq h := hp.2.2.2.1
  have hmwc : wc h := hp.2.2.2.2
  refine qm_seg_ok (C := qc_121) (rt := some .int) rfl rfl (cuts := [(48, [0, 1, 2, 3, 4, 5, 6, 7, 8])]) 400 _ _ _ _ ?_
  show (a.toInt < 0 → (Q (some (.int (-1 : Int32))) h)) ∧ (0 ≤ a.toInt → ((a.toInt ≤ 4 → (qm_PW X 34 [.ref 1] h _)) ∧ (4 < a.toInt → (Q (some (.int (-1 : Int32))) h))))
  refine ⟨fun c1 => ?_, fun c2 => ?_⟩
  · exact hq (-1 : Int32) h ⟨hm1, hm8, hm15, hmsq, (fun k hk => rfl), (by show (-1 : Int32).toInt = qFits a.toInt (mC h); rw [ti_n1]; exact (fits_no (by omega)).symm)⟩
  · refine ⟨fun c3 => ?_, fun c4 => ?_⟩
    · refine ty_34 X h  hm1 _ (fun r5 p6 => ?_)
      have o7 : r5 = drB0 (h 1 7) ∧ (0 ≤ r5.toInt ∧ r5.toInt ≤ 1023) := p6
      clear p6
      show qm_PW X 56 [.ref 1, .ref 38] h _
      refine ty_56 X h  hm1 _ (fun g8 p9 => ?_)
      obtain ⟨p9_0, p9_1⟩ := p9
      have f10 : ∀ k, (k < 38 ∨ 38 < k) → g8 k = h k := fun k hk => (p9_0 k (by omega)).trans (rfl)
      have k11 : mq 1 g8 := by unfold mq; rw [p9_0 1 (by omega)]; exact hm1
      have k12 : mq 8 g8 := by unfold mq; rw [p9_0 8 (by omega)]; exact hm8
      have k13 : mq 15 g8 := by unfold mq; rw [p9_0 15 (by omega)]; exact hm15
      have k14 : sq g8 := by unfold sq; rw [p9_0 37 (by omega)]; exact hmsq
      have k15 : wc g8 := wf_tr2 hmwc (mC_of (fun k h1 h2 => p9_0 k (by omega)))
      have o16 : nqQ h (g8 38) (h 1 7).toInt.toNat := p9_1
      clear p9_1
      have nq_g8 : nqQ h (g8 38) (h 1 7).toInt.toNat := o16
      show qm_PA X 121 48 [(0, .ref 0), (1, .int a), (2, .int r5), (3, .int 0), (4, .int 0), (5, .int r5), (6, .int 0), (7, .int 10), (8, .int 0)] [] g8 Q
      exact (ty_121_c X h a hp Q hq _) r5 (0 : Int32) (0 : Int32) r5 (0 : Int32) (10 : Int32) (0 : Int32) g8 ⟨(by have : (10 : Int32).toInt = 10 := rfl; have : (0 : Int32).toInt = 0 := rfl; show (0 ≤ (0 : Int32).toInt ∧ (0 : Int32).toInt ≤ r5.toInt + 1 ∧ 0 ≤ r5.toInt ∧ r5.toInt ≤ 1023) ∧ (0 ≤ a.toInt ∧ a.toInt ≤ 4) ∧ r5 = drB0 (h 1 7) ∧ fyI (seA (h 3) (h 4) (h 5) (h 6) (h 7) (h 1 7).toInt.toNat (h 1 9).toInt.toNat) (drB0 (h 1 7)) 0 10 (0 : Int32).toInt.toNat (0 : Int32).toInt (0 : Int32).toInt r5 (0 : Int32) (10 : Int32).toInt ∧ nqQ h (g8 38) (h 1 7).toInt.toNat; exact ⟨by have : (0 : Int32).toInt = 0 := rfl; omega, by omega, o7.1, fyI_0 rfl rfl rfl o7.1 rfl rfl, nq_g8⟩), k11, k12, k13, k14, k15, (fun k hk => f10 k hk)⟩ (Nat.lt_succ_self _)
    · exact hq (-1 : Int32) h ⟨hm1, hm8, hm15, hmsq, (fun k hk => rfl), (by show (-1 : Int32).toInt = qFits a.toInt (mC h); rw [ti_n1]; exact (fits_no (by omega)).symm)⟩
