-- ThreadBank.place()I
set_option maxRecDepth 100000 in
set_option maxHeartbeats 4000000 in
theorem sf_111_0_c (X : qm_X) (h : qm_H) (hp : mq 1 h) (Q : qm_Q) (hq : ∀ r : Int32, (True) → Q (some (.int r)) h) : ∀ n : Nat, (∀ (l1 : Int32) (l2 : Int32), (0 ≤ l2.toInt ∧ l2.toInt ≤ 4) → (4 - l2.toInt).toNat < n → qm_PA X 111 5 [(0, .ref 0), (1, .int l1), (2, .int l2)] [] h Q) := by
  have hm1 : mq 1 h := hp
  have ⟨⟨_, _⟩, ⟨_, _⟩, _, _⟩ := hm1
  intro n
  induction n with
  | zero => exact fun _ _ _ h0 => absurd h0 (Nat.not_lt_zero _)
  | succ n ih =>
    intro l1 l2 hi hr
    have ti_l2 := ti_rng l2
    refine qm_seg_ok (C := qc_111) (rt := some .int) rfl rfl (cuts := [(5, [0, 1, 2])]) 400 _ _ _ _ ?_
    show ((h 1 6).toInt ≤ l2.toInt → ((¬ l1 = (-4 : Int32) → (qm_PW X 133 [.ref 0, .int l1] h _)) ∧ (l1 = (-4 : Int32) → (Q (some (.int (-4 : Int32))) h)))) ∧ (l2.toInt < (h 1 6).toInt → ((l1 = (-4 : Int32) → (qm_PW X 41 [.ref 1, .int l2] h _)) ∧ (¬ l1 = (-4 : Int32) → (qm_PW X 36 [.ref 1, .int l2] h _))))
    refine ⟨fun c1 => ?_, fun c2 => ?_⟩
    · refine ⟨fun c3 => ?_, fun c4 => ?_⟩
      · refine sf_133_0 X h l1 hm1 _ (fun r5 p6 => ?_)
        show Q (some (.int r5)) h
        exact hq r5 trivial
      · exact hq (-4 : Int32) trivial
    · refine ⟨fun c7 => ?_, fun c8 => ?_⟩
      · refine sf_41_1 X h l2 hm1 _ (fun r9 p10 => ?_)
        show (r9.toInt ≤ 0 → (qm_PA X 111 5 [(0, .ref 0), (1, .int l1), (2, .int (l2 + 1))] [] h Q)) ∧ (0 < r9.toInt → (((1 : Int32) = 0 → (qm_PA X 111 5 [(0, .ref 0), (1, .int l1), (2, .int (l2 + 1))] [] h Q)) ∧ (¬ (1 : Int32) = 0 → (qm_PA X 111 5 [(0, .ref 0), (1, .int l2), (2, .int (l2 + 1))] [] h Q))))
        refine ⟨fun c11 => ?_, fun c12 => ?_⟩
        · exact ih l1 (l2 + 1) (by have := ti_addK l2 (1 : Int32) 1 rfl; omega) (by have := ti_addK l2 (1 : Int32) 1 rfl; omega)
        · refine ⟨fun c13 => ?_, fun c14 => ?_⟩
          · exact absurd c13 (by decide)
          · exact ih l2 (l2 + 1) (by have := ti_addK l2 (1 : Int32) 1 rfl; omega) (by have := ti_addK l2 (1 : Int32) 1 rfl; omega)
      · refine sf_36_1 X h l2 hm1 _ (fun r15 p16 => ?_)
        show qm_PW X 36 [.ref 1, .int l1] h _
        refine sf_36_1 X h l1 hm1 _ (fun r17 p18 => ?_)
        show (r17.toInt ≤ r15.toInt → (qm_PW X 41 [.ref 1, .int l2] h _)) ∧ (r15.toInt < r17.toInt → (qm_PW X 41 [.ref 1, .int l2] h _))
        refine ⟨fun c19 => ?_, fun c20 => ?_⟩
        · refine sf_41_1 X h l2 hm1 _ (fun r21 p22 => ?_)
          show (r21.toInt ≤ 0 → (qm_PA X 111 5 [(0, .ref 0), (1, .int l1), (2, .int (l2 + 1))] [] h Q)) ∧ (0 < r21.toInt → (((0 : Int32) = 0 → (qm_PA X 111 5 [(0, .ref 0), (1, .int l1), (2, .int (l2 + 1))] [] h Q)) ∧ (¬ (0 : Int32) = 0 → (qm_PA X 111 5 [(0, .ref 0), (1, .int l2), (2, .int (l2 + 1))] [] h Q))))
          refine ⟨fun c23 => ?_, fun c24 => ?_⟩
          · exact ih l1 (l2 + 1) (by have := ti_addK l2 (1 : Int32) 1 rfl; omega) (by have := ti_addK l2 (1 : Int32) 1 rfl; omega)
          · refine ⟨fun c25 => ?_, fun c26 => ?_⟩
            · exact ih l1 (l2 + 1) (by have := ti_addK l2 (1 : Int32) 1 rfl; omega) (by have := ti_addK l2 (1 : Int32) 1 rfl; omega)
            · exact absurd c26 (by decide)
        · refine sf_41_1 X h l2 hm1 _ (fun r27 p28 => ?_)
          show (r27.toInt ≤ 0 → (qm_PA X 111 5 [(0, .ref 0), (1, .int l1), (2, .int (l2 + 1))] [] h Q)) ∧ (0 < r27.toInt → (((1 : Int32) = 0 → (qm_PA X 111 5 [(0, .ref 0), (1, .int l1), (2, .int (l2 + 1))] [] h Q)) ∧ (¬ (1 : Int32) = 0 → (qm_PA X 111 5 [(0, .ref 0), (1, .int l2), (2, .int (l2 + 1))] [] h Q))))
          refine ⟨fun c29 => ?_, fun c30 => ?_⟩
          · exact ih l1 (l2 + 1) (by have := ti_addK l2 (1 : Int32) 1 rfl; omega) (by have := ti_addK l2 (1 : Int32) 1 rfl; omega)
          · refine ⟨fun c31 => ?_, fun c32 => ?_⟩
            · exact absurd c31 (by decide)
            · exact ih l2 (l2 + 1) (by have := ti_addK l2 (1 : Int32) 1 rfl; omega) (by have := ti_addK l2 (1 : Int32) 1 rfl; omega)
set_option maxRecDepth 100000 in
set_option maxHeartbeats 4000000 in
theorem sf_111_0 (X : qm_X) (h : qm_H) (hp : mq 1 h) (Q : qm_Q) (hq : ∀ r : Int32, (True) → Q (some (.int r)) h) : qm_PW X 111 [.ref 0] h Q := by
  have hm1 : mq 1 h := hp
  have ⟨⟨_, _⟩, ⟨_, _⟩, _, _⟩ := hm1
  refine qm_seg_ok (C := qc_111) (rt := some .int) rfl rfl (cuts := [(5, [0, 1, 2])]) 400 _ _ _ _ ?_
  show qm_PA X 111 5 [(0, .ref 0), (1, .int (-4 : Int32)), (2, .int 0)] [] h Q
  exact (sf_111_0_c X h hp Q hq _) (-4 : Int32) (0 : Int32) (by have : (0 : Int32).toInt = 0 := rfl; omega) (Nat.lt_succ_self _)
-- ThreadBank.spare(I)I
set_option maxRecDepth 100000 in
set_option maxHeartbeats 4000000 in
theorem sf_114_0_c (X : qm_X) (h : qm_H) (a : Int32) (hp : mq 1 h) (Q : qm_Q) (hq : ∀ r : Int32, (True) → Q (some (.int r)) h) : ∀ n : Nat, (∀ (l2 : Int32) (l3 : Int32), (0 ≤ l3.toInt ∧ l3.toInt ≤ 16) → (16 - l3.toInt).toNat < n → qm_PA X 114 15 [(0, .ref 0), (1, .int a), (2, .int l2), (3, .int l3)] [] h Q) := by
  have hm1 : mq 1 h := hp
  have ⟨⟨_, _⟩, ⟨_, _⟩, _, _⟩ := hm1
  intro n
  induction n with
  | zero => exact fun _ _ _ h0 => absurd h0 (Nat.not_lt_zero _)
  | succ n ih =>
    intro l2 l3 hi hr
    have := sh_le (h 1 6) (by omega) (by omega)
    refine qm_seg_ok (C := qc_114) (rt := some .int) rfl rfl (cuts := [(15, [0, 1, 2, 3])]) 400 _ _ _ _ ?_
    show ((1 <<< ((h 1 6) &&& 31)).toInt ≤ l3.toInt → ((¬ a = 0 → (Q (some (.int l2)) h)) ∧ (a = 0 → (qm_PW X 0 [.int l2] h _)))) ∧ (l3.toInt < (1 <<< ((h 1 6) &&& 31)).toInt → (qm_PW X 0 [.int l3] h _))
    refine ⟨fun c1 => ?_, fun c2 => ?_⟩
    · refine ⟨fun c3 => ?_, fun c4 => ?_⟩
      · exact hq l2 trivial
      · refine sf_0 X h l2 trivial _ (fun r5 p6 => ?_)
        show Q (some (.int r5)) h
        exact hq r5 trivial
    · refine sf_0 X h l3 trivial _ (fun r7 p8 => ?_)
      show qm_PW X 0 [.int l2] h _
      refine sf_0 X h l2 trivial _ (fun r9 p10 => ?_)
      show (r7.toInt ≤ r9.toInt → (((0 : Int32) = 0 → (qm_PA X 114 15 [(0, .ref 0), (1, .int a), (2, .int l2), (3, .int (l3 + 1))] [] h Q)) ∧ (¬ (0 : Int32) = 0 → (qm_PW X 62 [.ref 1, .int l3] h _)))) ∧ (r9.toInt < r7.toInt → (((1 : Int32) = 0 → (qm_PA X 114 15 [(0, .ref 0), (1, .int a), (2, .int l2), (3, .int (l3 + 1))] [] h Q)) ∧ (¬ (1 : Int32) = 0 → (qm_PW X 62 [.ref 1, .int l3] h _))))
      refine ⟨fun c11 => ?_, fun c12 => ?_⟩
      · refine ⟨fun c13 => ?_, fun c14 => ?_⟩
        · exact ih l2 (l3 + 1) (by have := ti_addK l3 (1 : Int32) 1 rfl; omega) (by have := ti_addK l3 (1 : Int32) 1 rfl; omega)
        · exact absurd c14 (by decide)
      · refine ⟨fun c19 => ?_, fun c20 => ?_⟩
        · exact absurd c19 (by decide)
        · refine sf_62_1 X h l3 hm1 _ (fun r21 p22 => ?_)
          show (¬ r21 = 0 → (qm_PA X 114 15 [(0, .ref 0), (1, .int a), (2, .int l2), (3, .int (l3 + 1))] [] h Q)) ∧ (r21 = 0 → (qm_PA X 114 15 [(0, .ref 0), (1, .int a), (2, .int l3), (3, .int (l3 + 1))] [] h Q))
          refine ⟨fun c23 => ?_, fun c24 => ?_⟩
          · exact ih l2 (l3 + 1) (by have := ti_addK l3 (1 : Int32) 1 rfl; omega) (by have := ti_addK l3 (1 : Int32) 1 rfl; omega)
          · exact ih l3 (l3 + 1) (by have := ti_addK l3 (1 : Int32) 1 rfl; omega) (by have := ti_addK l3 (1 : Int32) 1 rfl; omega)
set_option maxRecDepth 100000 in
set_option maxHeartbeats 4000000 in
theorem sf_114_0 (X : qm_X) (h : qm_H) (a : Int32) (hp : mq 1 h) (Q : qm_Q) (hq : ∀ r : Int32, (True) → Q (some (.int r)) h) : qm_PW X 114 [.ref 0, .int a] h Q := by
  have hm1 : mq 1 h := hp
  have ⟨⟨_, _⟩, ⟨_, _⟩, _, _⟩ := hm1
  refine qm_seg_ok (C := qc_114) (rt := some .int) rfl rfl (cuts := [(15, [0, 1, 2, 3])]) 400 _ _ _ _ ?_
  show (a.toInt < 0 → (Q (some (.int (-1 : Int32))) h)) ∧ (0 ≤ a.toInt → ((a.toInt ≤ 1 → (qm_PA X 114 15 [(0, .ref 0), (1, .int a), (2, .int 0), (3, .int 1)] [] h Q)) ∧ (1 < a.toInt → (Q (some (.int (-1 : Int32))) h))))
  refine ⟨fun c1 => ?_, fun c2 => ?_⟩
  · exact hq (-1 : Int32) trivial
  · refine ⟨fun c3 => ?_, fun c4 => ?_⟩
    · exact (sf_114_0_c X h a hp Q hq _) (0 : Int32) (1 : Int32) (by have : (1 : Int32).toInt = 1 := rfl; omega) (Nat.lt_succ_self _)
    · exact hq (-1 : Int32) trivial
theorem sf_134_0 (X : qm_X) (h : qm_H) (a : Int32) (Q : qm_Q) (h8 : a = 0 → Q (some (.ref 8)) h) (h15 : ¬ a = 0 → Q (some (.ref 15)) h) : qm_PW X 134 [.ref 0, .int a] h Q := by
  refine qm_seg_ok (C := qc_134) (rt := some (.object "ThreadBank$Memory")) rfl rfl (cuts := []) 400 _ _ _ _ ?_
  show (¬ a = 0 → Q (some (.ref 15)) h) ∧ (a = 0 → Q (some (.ref 8)) h)
  exact ⟨h15, h8⟩
-- ThreadBank.fits(I)I
set_option maxRecDepth 100000 in
set_option maxHeartbeats 4000000 in
theorem sf_121_0_c (X : qm_X) (h : qm_H) (a : Int32) (hp : mq 1 h ∧ mq 8 h ∧ mq 15 h ∧ sq h) (Q : qm_Q) (hq : ∀ r : Int32, ∀ h' : qm_H, (mq 1 h' ∧ mq 8 h' ∧ mq 15 h' ∧ sq h' ∧ (∀ k, (k < 38 ∨ 38 < k) → h' k = h k)) → Q (some (.int r)) h') : ∀ n : Nat, (∀ (l2 : Int32) (l3 : Int32) (l4 : Int32) (l5 : Int32) (l6 : Int32) (l7 : Int32) (l8 : Int32) (g : qm_H), ((0 ≤ l2.toInt ∧ l2.toInt ≤ 1023 ∧ 0 ≤ l8.toInt ∧ l8.toInt ≤ 1024) ∧ mq 1 g ∧ mq 8 g ∧ mq 15 g ∧ sq g ∧ ∀ k, (k < 38 ∨ 38 < k) → g k = h k) → (1024 - l8.toInt).toNat < n → qm_PA X 121 48 [(0, .ref 0), (1, .int a), (2, .int l2), (3, .int l3), (4, .int l4), (5, .int l5), (6, .int l6), (7, .int l7), (8, .int l8)] [] g Q) := by
  have hm1 : mq 1 h := hp.1
  have ⟨⟨_, _⟩, ⟨_, _⟩, _, _⟩ := hm1
  have hm8 : mq 8 h := hp.2.1
  have ⟨⟨_, _⟩, ⟨_, _⟩, _, _⟩ := hm8
  have hm15 : mq 15 h := hp.2.2.1
  have ⟨⟨_, _⟩, ⟨_, _⟩, _, _⟩ := hm15
  have hmsq : sq h := hp.2.2.2
  intro n
  induction n with
  | zero => exact fun _ _ _ _ _ _ _ _ _ h0 => absurd h0 (Nat.not_lt_zero _)
  | succ n ih =>
    intro l2 l3 l4 l5 l6 l7 l8 g hi hr
    obtain ⟨hi0, hg1, hg8, hg15, hgsq, hgf⟩ := hi
    have ⟨⟨_, _⟩, ⟨_, _⟩, _, _⟩ := hg1
    have ⟨⟨_, _⟩, ⟨_, _⟩, _, _⟩ := hg8
    have ⟨⟨_, _⟩, ⟨_, _⟩, _, _⟩ := hg15
    refine qm_seg_ok (C := qc_121) (rt := some .int) rfl rfl (cuts := [(48, [0, 1, 2, 3, 4, 5, 6, 7, 8])]) 400 _ _ _ _ ?_
    show (l2.toInt < l8.toInt → ((¬ a = 0 → ((¬ l3 = 0 → (((a = 1 → (Q (some (.int l4)) g)) ∧ (¬ a = 1 → ((a = 2 → (Q (some (.int l5)) g)) ∧ (¬ a = 2 → ((a = 3 → (Q (some (.int (l2 &&& (l6 ^^^ (-1 : Int32))))) g)) ∧ (¬ a = 3 → (Q (some (.int l7)) g))))))))) ∧ (l3 = 0 → (Q (some (.int (-4 : Int32))) g)))) ∧ (a = 0 → (Q (some (.int l3)) g)))) ∧ (l8.toInt ≤ l2.toInt → (qm_PW X 58 [.ref 1, .int l8, .ref 38] g _))
    refine ⟨fun c1 => ?_, fun c2 => ?_⟩
    · refine ⟨fun c3 => ?_, fun c4 => ?_⟩
      · refine ⟨fun c5 => ?_, fun c6 => ?_⟩
        · refine ⟨fun c7 => ?_, fun c8 => ?_⟩
          · exact hq l4 g ⟨hg1, hg8, hg15, hgsq, (fun k hk => hgf k hk)⟩
          · refine ⟨fun c9 => ?_, fun c10 => ?_⟩
            · exact hq l5 g ⟨hg1, hg8, hg15, hgsq, (fun k hk => hgf k hk)⟩
            · refine ⟨fun c11 => ?_, fun c12 => ?_⟩
              · exact hq (l2 &&& (l6 ^^^ (-1 : Int32))) g ⟨hg1, hg8, hg15, hgsq, (fun k hk => hgf k hk)⟩
              · exact hq l7 g ⟨hg1, hg8, hg15, hgsq, (fun k hk => hgf k hk)⟩
        · exact hq (-4 : Int32) g ⟨hg1, hg8, hg15, hgsq, (fun k hk => hgf k hk)⟩
      · exact hq l3 g ⟨hg1, hg8, hg15, hgsq, (fun k hk => hgf k hk)⟩
    · refine sf_58_1_38 X g l8 hg1 _ (fun r13 p14 => ?_)
      show (r13 = 0 → (qm_PA X 121 48 [(0, .ref 0), (1, .int a), (2, .int l2), (3, .int l3), (4, .int l4), (5, .int l5), (6, .int l6), (7, .int l7), (8, .int (l8 + 1))] [] g Q)) ∧ (¬ r13 = 0 → ((¬ l3 = 0 → (qm_PW X 0 [.int l8] g _)) ∧ (l3 = 0 → (qm_PW X 0 [.int l8] g _))))
      refine ⟨fun c15 => ?_, fun c16 => ?_⟩
      · exact ih l2 l3 l4 l5 l6 l7 (l8 + 1) g ⟨(by have := ti_addK l8 (1 : Int32) 1 rfl; show 0 ≤ l2.toInt ∧ l2.toInt ≤ 1023 ∧ 0 ≤ (l8 + 1).toInt ∧ (l8 + 1).toInt ≤ 1024; omega), hg1, hg8, hg15, hgsq, (fun k hk => hgf k hk)⟩ (by have := ti_addK l8 (1 : Int32) 1 rfl; show (1024 - (l8 + 1).toInt).toNat < n; omega)
      · refine ⟨fun c17 => ?_, fun c18 => ?_⟩
        · refine sf_0 X g l8 trivial _ (fun r19 p20 => ?_)
          show qm_PW X 2 [.int l7, .int r19] g _
          refine sf_2 X g l7 r19 trivial _ (fun r21 p22 => ?_)
          show qm_PA X 121 48 [(0, .ref 0), (1, .int a), (2, .int l2), (3, .int (l3 + 1)), (4, .int l4), (5, .int (l5 &&& l8)), (6, .int (l6 ||| l8)), (7, .int r21), (8, .int (l8 + 1))] [] g Q
          exact ih l2 (l3 + 1) l4 (l5 &&& l8) (l6 ||| l8) r21 (l8 + 1) g ⟨(by have := ti_addK l8 (1 : Int32) 1 rfl; show 0 ≤ l2.toInt ∧ l2.toInt ≤ 1023 ∧ 0 ≤ (l8 + 1).toInt ∧ (l8 + 1).toInt ≤ 1024; omega), hg1, hg8, hg15, hgsq, (fun k hk => hgf k hk)⟩ (by have := ti_addK l8 (1 : Int32) 1 rfl; show (1024 - (l8 + 1).toInt).toNat < n; omega)
        · refine sf_0 X g l8 trivial _ (fun r23 p24 => ?_)
          show qm_PW X 2 [.int l7, .int r23] g _
          refine sf_2 X g l7 r23 trivial _ (fun r25 p26 => ?_)
          show qm_PA X 121 48 [(0, .ref 0), (1, .int a), (2, .int l2), (3, .int (l3 + 1)), (4, .int l8), (5, .int (l5 &&& l8)), (6, .int (l6 ||| l8)), (7, .int r25), (8, .int (l8 + 1))] [] g Q
          exact ih l2 (l3 + 1) l8 (l5 &&& l8) (l6 ||| l8) r25 (l8 + 1) g ⟨(by have := ti_addK l8 (1 : Int32) 1 rfl; show 0 ≤ l2.toInt ∧ l2.toInt ≤ 1023 ∧ 0 ≤ (l8 + 1).toInt ∧ (l8 + 1).toInt ≤ 1024; omega), hg1, hg8, hg15, hgsq, (fun k hk => hgf k hk)⟩ (by have := ti_addK l8 (1 : Int32) 1 rfl; show (1024 - (l8 + 1).toInt).toNat < n; omega)
set_option maxRecDepth 100000 in
set_option maxHeartbeats 4000000 in
theorem sf_121_0 (X : qm_X) (h : qm_H) (a : Int32) (hp : mq 1 h ∧ mq 8 h ∧ mq 15 h ∧ sq h) (Q : qm_Q) (hq : ∀ r : Int32, ∀ h' : qm_H, (mq 1 h' ∧ mq 8 h' ∧ mq 15 h' ∧ sq h' ∧ (∀ k, (k < 38 ∨ 38 < k) → h' k = h k)) → Q (some (.int r)) h') : qm_PW X 121 [.ref 0, .int a] h Q := by
  have hm1 : mq 1 h := hp.1
  have ⟨⟨_, _⟩, ⟨_, _⟩, _, _⟩ := hm1
  have hm8 : mq 8 h := hp.2.1
  have ⟨⟨_, _⟩, ⟨_, _⟩, _, _⟩ := hm8
  have hm15 : mq 15 h := hp.2.2.1
  have ⟨⟨_, _⟩, ⟨_, _⟩, _, _⟩ := hm15
  have hmsq : sq h := hp.2.2.2
  refine qm_seg_ok (C := qc_121) (rt := some .int) rfl rfl (cuts := [(48, [0, 1, 2, 3, 4, 5, 6, 7, 8])]) 400 _ _ _ _ ?_
  show (a.toInt < 0 → (Q (some (.int (-1 : Int32))) h)) ∧ (0 ≤ a.toInt → ((a.toInt ≤ 4 → (qm_PW X 34 [.ref 1] h _)) ∧ (4 < a.toInt → (Q (some (.int (-1 : Int32))) h))))
  refine ⟨fun c1 => ?_, fun c2 => ?_⟩
  · exact hq (-1 : Int32) h ⟨hm1, hm8, hm15, hmsq, (fun k hk => rfl)⟩
  · refine ⟨fun c3 => ?_, fun c4 => ?_⟩
    · refine sf_34_1 X h  hm1 _ (fun r5 p6 => ?_)
      show qm_PW X 56 [.ref 1, .ref 38] h _
      refine sf_56_1_38 X h  hm1 _ (fun g7 p8 => ?_)
      have f9 : ∀ k, (k < 38 ∨ 38 < k) → g7 k = h k := fun k hk => (p8 k (by omega)).trans (rfl)
      have k10 : mq 1 g7 := by unfold mq; rw [p8 1 (by omega)]; exact hm1
      have k11 : mq 8 g7 := by unfold mq; rw [p8 8 (by omega)]; exact hm8
      have k12 : mq 15 g7 := by unfold mq; rw [p8 15 (by omega)]; exact hm15
      have k13 : sq g7 := by unfold sq; rw [p8 37 (by omega)]; exact hmsq
      show qm_PA X 121 48 [(0, .ref 0), (1, .int a), (2, .int r5), (3, .int 0), (4, .int 0), (5, .int r5), (6, .int 0), (7, .int 10), (8, .int 0)] [] g7 Q
      exact (sf_121_0_c X h a hp Q hq _) r5 (0 : Int32) (0 : Int32) r5 (0 : Int32) (10 : Int32) (0 : Int32) g7 ⟨(by have : (0 : Int32).toInt = 0 := rfl; show 0 ≤ r5.toInt ∧ r5.toInt ≤ 1023 ∧ 0 ≤ (0 : Int32).toInt ∧ (0 : Int32).toInt ≤ 1024; omega), k10, k11, k12, k13, (fun k hk => f9 k hk)⟩ (Nat.lt_succ_self _)
    · exact hq (-1 : Int32) h ⟨hm1, hm8, hm15, hmsq, (fun k hk => rfl)⟩
-- ThreadBank.fewest()I
set_option maxRecDepth 100000 in
set_option maxHeartbeats 4000000 in
theorem sf_110_0_c (X : qm_X) (h : qm_H) (hp : mq 1 h) (Q : qm_Q) (hq : ∀ r : Int32, (True) → Q (some (.int r)) h) : ∀ n : Nat, (∀ (l1 : Int32) (l2 : Int32) (l3 : Int32), (0 ≤ l3.toInt ∧ l3.toInt ≤ 3) → (l3.toInt * 8589934592 + 4294967296).toNat < n → qm_PA X 110 12 [(0, .ref 0), (1, .int l1), (2, .int l2), (3, .int l3)] [] h Q) ∧ (∀ (l1 : Int32) (l2 : Int32) (l3 : Int32) (l4 : Int32), (1 ≤ l3.toInt ∧ l3.toInt ≤ 3) → (l3.toInt * 8589934592 + l4.toInt).toNat < n → qm_PA X 110 27 [(0, .ref 0), (1, .int l1), (2, .int l2), (3, .int l3), (4, .int l4)] [] h Q) := by
  have hm1 : mq 1 h := hp
  have ⟨⟨_, _⟩, ⟨_, _⟩, _, _⟩ := hm1
  intro n
  induction n with
  | zero => exact ⟨fun _ _ _ _ h0 => absurd h0 (Nat.not_lt_zero _), fun _ _ _ _ _ h0 => absurd h0 (Nat.not_lt_zero _)⟩
  | succ n ih =>
    refine ⟨?_, ?_⟩
    · intro l1 l2 l3 hi hr
      refine qm_seg_ok (C := qc_110) (rt := some .int) rfl rfl (cuts := [(12, [0, 1, 2, 3]), (27, [0, 1, 2, 3, 4])]) 400 _ _ _ _ ?_
      show (l3.toInt < 1 → (Q (some (.int l1)) h)) ∧ (1 ≤ l3.toInt → (qm_PW X 42 [.ref 1, .int l3] h _))
      refine ⟨fun c1 => ?_, fun c2 => ?_⟩
      · exact hq l1 trivial
      · refine sf_42_1 X h l3 hm1 _ (fun r3 p4 => ?_)
        show qm_PA X 110 27 [(0, .ref 0), (1, .int l1), (2, .int l2), (3, .int l3), (4, .int r3)] [] h Q
        have := ti_rng r3
        exact ih.2 l1 l2 l3 r3 (by omega) (by omega)
    · intro l1 l2 l3 l4 hi hr
      have := ti_rng l4
      refine qm_seg_ok (C := qc_110) (rt := some .int) rfl rfl (cuts := [(12, [0, 1, 2, 3]), (27, [0, 1, 2, 3, 4])]) 400 _ _ _ _ ?_
      show (l4.toInt ≤ 0 → (qm_PA X 110 12 [(0, .ref 0), (1, .int l1), (2, .int l2), (3, .int (l3 + (-1 : Int32)))] [] h Q)) ∧ (0 < l4.toInt → ((l2.toInt ≤ 0 → (qm_PA X 110 12 [(0, .ref 0), (1, .int l1), (2, .int l2), (3, .int (l3 + (-1 : Int32)))] [] h Q)) ∧ (0 < l2.toInt → (qm_PA X 110 27 [(0, .ref 0), (1, .int (l1 + 1)), (2, .int (l2 - l3)), (3, .int l3), (4, .int (l4 + (-1 : Int32)))] [] h Q))))
      refine ⟨fun c1 => ?_, fun c2 => ?_⟩
      · have hz3 := ti_addK l3 (-1 : Int32) (-1) ti_n1 (by have := ti_rng l3; omega)
        revert hz3
        generalize l3 + (-1 : Int32) = z3
        intro hz3
        exact ih.1 l1 l2 z3 (by omega) (by omega)
      · refine ⟨fun c4 => ?_, fun c5 => ?_⟩
        · have hz6 := ti_addK l3 (-1 : Int32) (-1) ti_n1 (by have := ti_rng l3; omega)
          revert hz6
          generalize l3 + (-1 : Int32) = z6
          intro hz6
          exact ih.1 l1 l2 z6 (by omega) (by omega)
        · have hz7 := ti_addK l4 (-1 : Int32) (-1) ti_n1 (by have := ti_rng l4; omega)
          revert hz7
          generalize l4 + (-1 : Int32) = z7
          intro hz7
          have := ti_rng z7
          exact ih.2 (l1 + 1) (l2 - l3) l3 z7 (by omega) (by omega)
set_option maxRecDepth 100000 in
set_option maxHeartbeats 4000000 in
theorem sf_110_0 (X : qm_X) (h : qm_H) (hp : mq 1 h) (Q : qm_Q) (hq : ∀ r : Int32, (True) → Q (some (.int r)) h) : qm_PW X 110 [.ref 0] h Q := by
  have hm1 : mq 1 h := hp
  have ⟨⟨_, _⟩, ⟨_, _⟩, _, _⟩ := hm1
  refine qm_seg_ok (C := qc_110) (rt := some .int) rfl rfl (cuts := [(12, [0, 1, 2, 3]), (27, [0, 1, 2, 3, 4])]) 400 _ _ _ _ ?_
  show qm_PA X 110 12 [(0, .ref 0), (1, .int 0), (2, .int (h 1 7)), (3, .int 3)] [] h Q
  exact (sf_110_0_c X h hp Q hq _).1 (0 : Int32) (h 1 7) (3 : Int32) (by have : (3 : Int32).toInt = 3 := rfl; omega) (Nat.lt_succ_self _)
theorem ti_neK {x k : Int32} (kz : Int) (hk : k.toInt = kz) (h : ¬ x = k) : x.toInt ≠ kz := fun e => h (Int32.toInt_inj.mp (e.trans hk.symm))
theorem ti_eqK {x k : Int32} (kz : Int) (hk : k.toInt = kz) (h : x = k) : x.toInt = kz := by rw [h]; exact hk
/-! ===== the reference's store: what is held to ===== -/
noncomputable def mi (h : qm_H) : Prop := (0 ≤ (h 39 3).toInt ∧ (h 39 3).toInt ≤ 4) ∧ (0 ≤ (h 39 9).toInt ∧ (h 39 9).toInt ≤ 160) ∧ (0 ≤ (h 39 19).toInt ∧ (h 39 19).toInt ≤ 4) ∧ (0 ≤ (h 39 20).toInt ∧ (h 39 20).toInt ≤ 255) ∧ (0 ≤ (h 39 11).toInt ∧ (h 39 11).toInt ≤ 160)
noncomputable def zs (h : qm_H) : Prop := ∀ j : Nat, 0 ≤ (h 49 j).toInt ∧ (h 49 j).toInt ≤ 40
/-- a PAIR's number: both its figures below 4 -/
noncomputable def pr (x : Int32) : Prop := 0 ≤ x.toInt ∧ x.toInt / 10 ≤ 3 ∧ x.toInt % 10 ≤ 3
/-- a state of the reference, in a row of 49 from o on -/
noncomputable def pk (f : Nat → Int32) (o : Nat) : Prop := (0 ≤ (f (o + 4)).toInt ∧ (f (o + 4)).toInt ≤ 10) ∧ (0 ≤ (f (o + 36)).toInt ∧ (f (o + 36)).toInt ≤ 6) ∧ (∀ t : Nat, t < 10 → 0 ≤ (f (o + (6 + 3 * t))).toInt ∧ (f (o + (6 + 3 * t))).toInt ≤ 39) ∧ (∀ t : Nat, t < 10 → pr (f (o + (7 + 3 * t)))) ∧ (∀ k : Nat, k < 6 → pr (f (o + (37 + 2 * k)))) ∧ ∀ t : Nat, t < 10 → 0 ≤ (f (o + (8 + 3 * t))).toInt ∧ (f (o + (8 + 3 * t))).toInt ≤ 99
noncomputable def am (h : qm_H) : Prop := (0 ≤ (h 41 4).toInt ∧ (h 41 4).toInt ≤ 10) ∧ (0 ≤ (h 41 36).toInt ∧ (h 41 36).toInt ≤ 6) ∧ (∀ t : Nat, t < 10 → 0 ≤ (h 41 (6 + 3 * t)).toInt ∧ (h 41 (6 + 3 * t)).toInt ≤ 39) ∧ (∀ t : Nat, t < 10 → pr (h 41 (7 + 3 * t))) ∧ (∀ k : Nat, k < 6 → pr (h 41 (37 + 2 * k))) ∧ ∀ t : Nat, t < 10 → 0 ≤ (h 41 (8 + 3 * t)).toInt ∧ (h 41 (8 + 3 * t)).toInt ≤ 99
noncomputable def sm (h : qm_H) : Prop := ((0 ≤ (h 40 4).toInt ∧ (h 40 4).toInt ≤ 10) ∧ (0 ≤ (h 40 36).toInt ∧ (h 40 36).toInt ≤ 6)) ∧ pk (h 40) 0 ∧ pk (h 40) 49 ∧ pk (h 40) 98
theorem pk_of {f g : Nat → Int32} {o o' : Nat} (hf : pk f o) (e : ∀ j, j < 49 → g (o' + j) = f (o + j)) : pk g o' := by
  obtain ⟨h1, h2, h3, h4, h5⟩ := hf
  refine ⟨by rw [e 4 (by omega)]; exact h1, by rw [e 36 (by omega)]; exact h2, fun t ht => ?_, fun t ht => ?_, fun k hk => ?_, fun t ht => ?_⟩
  · rw [e (6 + 3 * t) (by omega)]; exact h3 t ht
  · rw [e (7 + 3 * t) (by omega)]; exact h4 t ht
  · rw [e (37 + 2 * k) (by omega)]; exact h5.1 k hk
  · rw [e (8 + 3 * t) (by omega)]; exact h5.2 t ht
theorem am_pk {h : qm_H} (hp : pk (h 41) 0) : am h := by
  obtain ⟨h1, h2, h3, h4, h5⟩ := hp
  refine ⟨h1, h2, fun t ht => ?_, fun t ht => ?_, fun k hk => ?_, fun t ht => ?_⟩
  · have := h3 t ht; rwa [Nat.zero_add] at this
  · have := h4 t ht; rwa [Nat.zero_add] at this
  · have := h5.1 k hk; rwa [Nat.zero_add] at this
  · have := h5.2 t ht; rwa [Nat.zero_add] at this
theorem pk_am {h : qm_H} (hp : am h) : pk (h 41) 0 := by
  obtain ⟨h1, h2, h3, h4, h5⟩ := hp
  refine ⟨h1, h2, fun t ht => ?_, fun t ht => ?_, fun k hk => ?_, fun t ht => ?_⟩
  · have := h3 t ht; rwa [Nat.zero_add]
  · have := h4 t ht; rwa [Nat.zero_add]
  · have := h5.1 k hk; rwa [Nat.zero_add]
  · have := h5.2 t ht; rwa [Nat.zero_add]
/-- what a place of the thread's three is held to -/
theorem am_of {h : qm_H} (hp : am h) {a b : Int32} (ha : 0 ≤ a.toInt ∧ a.toInt ≤ 9) (hb : 0 ≤ b.toInt ∧ b.toInt ≤ 2) : (((6 + (3 * a)) + b).toInt = 6 + 3 * a.toInt + b.toInt) ∧ (b.toInt = 0 → 0 ≤ (h 41 ((6 + (3 * a)) + b).toInt.toNat).toInt ∧ (h 41 ((6 + (3 * a)) + b).toInt.toNat).toInt ≤ 39) ∧ (b.toInt = 1 → pr (h 41 ((6 + (3 * a)) + b).toInt.toNat)) ∧ (b.toInt = 2 → 0 ≤ (h 41 ((6 + (3 * a)) + b).toInt.toNat).toInt ∧ (h 41 ((6 + (3 * a)) + b).toInt.toNat).toInt ≤ 99) := by
  have e1 := ti_mulL (3 : Int32) 3 rfl a (by omega)
  have e2 := ti_addL (3 * a) (6 : Int32) 6 rfl (by omega)
  have e3 := ti_add (6 + 3 * a) b (by omega)
  have e4 : ((6 + (3 * a)) + b).toInt = 6 + 3 * a.toInt + b.toInt := by omega
  refine ⟨e4, fun h0 => ?_, fun h0 => ?_, fun h0 => ?_⟩
  · have e5 : ((6 + (3 * a)) + b).toInt.toNat = 6 + 3 * a.toInt.toNat := by omega
    rw [e5]
    exact hp.2.2.1 a.toInt.toNat (by omega)
  · have e5 : ((6 + (3 * a)) + b).toInt.toNat = 7 + 3 * a.toInt.toNat := by omega
    rw [e5]
    exact hp.2.2.2.1 a.toInt.toNat (by omega)
  · have e5 : ((6 + (3 * a)) + b).toInt.toNat = 8 + 3 * a.toInt.toNat := by omega
    rw [e5]
    exact hp.2.2.2.2.2 a.toInt.toNat (by omega)
-- ThreadBankModel.starts()V
set_option maxRecDepth 100000 in
set_option maxHeartbeats 4000000 in
theorem cp_169 (X : qm_X) (h : qm_H) (Q : qm_Q) (hq : ∀ h' : qm_H, ((∀ k, k ≠ 41 → h' k = h k) ∧ ∀ j : Nat, j < 49 → h' 41 j = h 40 j) → Q none h') : ∀ n : Nat, ∀ (l1 : Int32) (g : qm_H), (0 ≤ l1.toInt ∧ l1.toInt ≤ 49) → (∀ k, k ≠ 41 → g k = h k) → (∀ j : Nat, (j : Int) < l1.toInt → g 41 j = h 40 j) → (49 - l1.toInt).toNat < n → qm_PA X 169 2 [(0, .ref 39), (1, .int l1)] [] g Q := by
  intro n
  induction n with
  | zero => exact fun _ _ _ _ _ h0 => absurd h0 (Nat.not_lt_zero _)
  | succ n ih =>
    intro l1 g hi hf hc hr
    refine qm_seg_ok (C := qc_169) (rt := none) rfl rfl (cuts := [(2, [0, 1])]) 400 _ _ _ _ ?_
    show (49 ≤ l1.toInt → Q none g) ∧ (l1.toInt < 49 → (0 ≤ l1.toInt ∧ l1.toInt < 147) ∧ ((0 ≤ l1.toInt ∧ l1.toInt < 49) ∧ qm_PA X 169 2 [(0, .ref 39), (1, .int (l1 + 1))] [] (qm_row g 41 (upd (g 41) l1.toInt.toNat (g 40 l1.toInt.toNat))) Q))
    refine ⟨fun c1 => hq g ⟨hf, fun j hj => hc j (by omega)⟩, fun c2 => ⟨by omega, by omega, ?_⟩⟩
    have e1 := ti_addK l1 (1 : Int32) 1 rfl (by omega)
    refine ih (l1 + 1) _ (by omega) (fun k hk => ?_) (fun j hj => ?_) (by omega)
    · simp only [qm_row]
      rw [if_neg hk]
      exact hf k hk
    · show upd (g 41) l1.toInt.toNat (g 40 l1.toInt.toNat) j = h 40 j
      unfold upd
      split
      · rename_i e
        rw [hf 40 (by omega), e]
      · exact hc j (by omega)
set_option maxRecDepth 100000 in
set_option maxHeartbeats 4000000 in
theorem sf_169_39 (X : qm_X) (h : qm_H) (hp : sm h) (Q : qm_Q) (hq : ∀ h' : qm_H, (am h' ∧ (∀ k, (k < 41 ∨ 41 < k) → h' k = h k) ∧ (∀ j : Nat, j < 49 → h' 41 j = h 40 j)) → Q none h') : qm_PW X 169 [.ref 39] h Q := by
  refine qm_seg_ok (C := qc_169) (rt := none) rfl rfl (cuts := [(2, [0, 1])]) 400 _ _ _ _ ?_
  show qm_PA X 169 2 [(0, .ref 39), (1, .int 0)] [] h Q
  refine cp_169 X h Q (fun h' q => hq h' ⟨?_, fun k hk => q.1 k (by omega), q.2⟩) _ 0 h (by decide) (fun _ _ => rfl) (fun j hj => absurd hj (by have : (0 : Int32).toInt = 0 := rfl; omega)) (Nat.lt_succ_self _)
  exact am_pk (pk_of hp.2.1 (fun j hj => by rw [Nat.zero_add]; exact q.2 j hj))
theorem am_many {h : qm_H} (hp : am h) {x : Int32} (hx : 0 ≤ x.toInt ∧ x.toInt ≤ 10) : am (qm_row h 41 (upd (h 41) 4 x)) := by
  obtain ⟨h1, h2, h3, h4, h5⟩ := hp
  refine ⟨hx, h2, fun t ht => ?_, fun t ht => ?_, fun k hk => ?_, fun t ht => ?_⟩
  · show 0 ≤ (upd (h 41) 4 x (6 + 3 * t)).toInt ∧ (upd (h 41) 4 x (6 + 3 * t)).toInt ≤ 39
    unfold upd; rw [if_neg (by omega)]; exact h3 t ht
  · show pr (upd (h 41) 4 x (7 + 3 * t))
    unfold upd; rw [if_neg (by omega)]; exact h4 t ht
  · show pr (upd (h 41) 4 x (37 + 2 * k))
    unfold upd; rw [if_neg (by omega)]; exact h5.1 k hk
  · show 0 ≤ (upd (h 41) 4 x (8 + 3 * t)).toInt ∧ (upd (h 41) 4 x (8 + 3 * t)).toInt ≤ 99
    unfold upd; rw [if_neg (by omega)]; exact h5.2 t ht
theorem am_upd {h : qm_H} (hp : am h) {a b x : Int32} (ha : 0 ≤ a.toInt ∧ a.toInt ≤ 9) (hb : 0 ≤ b.toInt ∧ b.toInt ≤ 2) (hx : (b.toInt = 0 → 0 ≤ x.toInt ∧ x.toInt ≤ 39) ∧ (b.toInt = 1 → 0 ≤ x.toInt ∧ x.toInt / 10 ≤ 3 ∧ x.toInt % 10 ≤ 3) ∧ (b.toInt = 2 → 0 ≤ x.toInt ∧ x.toInt ≤ 99)) : am (qm_row h 41 (upd (h 41) ((6 + (3 * a)) + b).toInt.toNat x)) := by
  have e := (am_of hp ha hb).1
  have e2 : ((6 + (3 * a)) + b).toInt.toNat = 6 + 3 * a.toInt.toNat + b.toInt.toNat := by omega
  rw [e2]
  have hbn : b.toInt.toNat = 0 ∨ b.toInt.toNat = 1 ∨ b.toInt.toNat = 2 := by omega
  obtain ⟨h1, h2, h3, h4, h5⟩ := hp
  refine ⟨?_, ?_, fun t ht => ?_, fun t ht => ?_, fun k hk => ?_, fun t ht => ?_⟩
  · show 0 ≤ (upd (h 41) _ x 4).toInt ∧ (upd (h 41) _ x 4).toInt ≤ 10
    unfold upd; rw [if_neg (by omega)]; exact h1
  · show 0 ≤ (upd (h 41) _ x 36).toInt ∧ (upd (h 41) _ x 36).toInt ≤ 6
    unfold upd; rw [if_neg (by omega)]; exact h2
  · show 0 ≤ (upd (h 41) _ x (6 + 3 * t)).toInt ∧ (upd (h 41) _ x (6 + 3 * t)).toInt ≤ 39
    unfold upd
    split
    · exact hx.1 (by omega)
    · exact h3 t ht
  · show pr (upd (h 41) _ x (7 + 3 * t))
    unfold upd
    split
    · exact hx.2.1 (by omega)
    · exact h4 t ht
  · show pr (upd (h 41) _ x (37 + 2 * k))
    unfold upd; rw [if_neg (by omega)]; exact h5.1 k hk
  · show 0 ≤ (upd (h 41) _ x (8 + 3 * t)).toInt ∧ (upd (h 41) _ x (8 + 3 * t)).toInt ≤ 99
    unfold upd
    split
    · exact hx.2.2 (by omega)
    · exact h5.2 t ht
/-- the numbers of a RING's CLERKS -/
noncomputable def rw_ (h : qm_H) : Prop := ∀ j : Nat, 0 ≤ (h 46 j).toInt ∧ (h 46 j).toInt ≤ 3
theorem ti_remV (x m : Int32) (hx : 0 ≤ x.toInt) (hm : 0 < m.toInt) : 0 ≤ (x - x / m * m).toInt ∧ (x - x / m * m).toInt < m.toInt := by
  have h1 := ti_rem m m.toInt rfl x hm hx
  rw [h1]
  exact ⟨Int.emod_nonneg _ (by omega), Int.emod_lt_of_pos _ hm⟩
