-- ThreadBank.fits(I)I
set_option maxRecDepth 100000 in
set_option maxHeartbeats 4000000 in
theorem sf_121_0_c (X : qm_X) (h : qm_H) (a : Int32) (hp : mq 1 h ∧ mq 8 h ∧ mq 15 h ∧ sq h) (Q : qm_Q) (hq : ∀ r : Int32, ∀ h' : qm_H, (mq 1 h' ∧ mq 8 h' ∧ mq 15 h' ∧ sq h' ∧ (∀ k, (k < 38 ∨ 38 < k) → h' k = h k)) → Q (some (.int r)) h') : ∀ n : Nat, (∀ (l2 : Int32) (l3 : Int32) (l4 : Int32) (l5 : Int32) (l6 : Int32) (l7 : Int32) (l8 : Int32) (g : qm_H), ((0 ≤ l2.toInt ∧ l2.toInt ≤ 1023 ∧ 0 ≤ l8.toInt ∧ l8.toInt ≤ 1024) ∧ mq 1 g ∧ mq 8 g ∧ mq 15 g ∧ sq g ∧ ∀ k, (k < 38 ∨ 38 < k) → g k = h k) → (1024 - l8.toInt).toNat < n → qm_PA X 121 48 [(0, .ref 0), (1, .int a), (2, .int l2), (3, .int l3), (4, .int l4), (5, .int l5), (6, .int l6), (7, .int l7), (8, .int l8)] [] g Q) := by
  have hm1 : mq 1 h := hp.1
  have ⟨⟨_, _⟩, ⟨_, _⟩, _, _⟩ := hm1
  have hm8 : mq 8 h := hp.2.1
  have ⟨⟨_, _⟩, ⟨_, _⟩, _, _⟩ := hm8
  have hm15 : mq 15 h := hp.2.2.1
  have ⟨⟨_, _⟩, ⟨_, _⟩, _, _⟩ := hm15
  have hmsq : sq h := hp.2.2.2
  intro n
  induction n with
  | zero => exact fun _ _ _ _ _ _ _ _ _ h0 => absurd h0 (Nat.not_lt_zero _)
  | succ n ih =>
    intro l2 l3 l4 l5 l6 l7 l8 g hi hr
    obtain ⟨hi0, hg1, hg8, hg15, hgsq, hgf⟩ := hi
    have ⟨⟨_, _⟩, ⟨_, _⟩, _, _⟩ := hg1
    have ⟨⟨_, _⟩, ⟨_, _⟩, _, _⟩ := hg8
    have ⟨⟨_, _⟩, ⟨_, _⟩, _, _⟩ := hg15
    refine qm_seg_ok (C := qc_121) (rt := some .int) rfl rfl (cuts := [(48, [0, 1, 2, 3, 4, 5, 6, 7, 8])]) 400 _ _ _ _ ?_
    show (l2.toInt < l8.toInt → ((¬ a = 0 → ((¬ l3 = 0 → (((a = 1 → (Q (some (.int l4)) g)) ∧ (¬ a = 1 → ((a = 2 → (Q (some (.int l5)) g)) ∧ (¬ a = 2 → ((a = 3 → (Q (some (.int (l2 &&& (l6 ^^^ (-1 : Int32))))) g)) ∧ (¬ a = 3 → (Q (some (.int l7)) g))))))))) ∧ (l3 = 0 → (Q (some (.int (-4 : Int32))) g)))) ∧ (a = 0 → (Q (some (.int l3)) g)))) ∧ (l8.toInt ≤ l2.toInt → (qm_PW X 58 [.ref 1, .int l8, .ref 38] g _))
    refine ⟨fun c1 => ?_, fun c2 => ?_⟩
    · refine ⟨fun c3 => ?_, fun c4 => ?_⟩
      · refine ⟨fun c5 => ?_, fun c6 => ?_⟩
        · refine ⟨fun c7 => ?_, fun c8 => ?_⟩
          · exact hq l4 g ⟨hg1, hg8, hg15, hgsq, (fun k hk => hgf k hk)⟩
          · refine ⟨fun c9 => ?_, fun c10 => ?_⟩
            · exact hq l5 g ⟨hg1, hg8, hg15, hgsq, (fun k hk => hgf k hk)⟩
            · refine ⟨fun c11 => ?_, fun c12 => ?_⟩
              · exact hq (l2 &&& (l6 ^^^ (-1 : Int32))) g ⟨hg1, hg8, hg15, hgsq, (fun k hk => hgf k hk)⟩
              · exact hq l7 g ⟨hg1, hg8, hg15, hgsq, (fun k hk => hgf k hk)⟩
        · exact hq (-4 : Int32) g ⟨hg1, hg8, hg15, hgsq, (fun k hk => hgf k hk)⟩
      · exact hq l3 g ⟨hg1, hg8, hg15, hgsq, (fun k hk => hgf k hk)⟩
    · refine sf_58_1_38 X g l8 hg1 _ (fun r13 p14 => ?_)
      show (r13 = 0 → (qm_PA X 121 48 [(0, .ref 0), (1, .int a), (2, .int l2), (3, .int l3), (4, .int l4), (5, .int l5), (6, .int l6), (7, .int l7), (8, .int (l8 + 1))] [] g Q)) ∧ (¬ r13 = 0 → ((¬ l3 = 0 → (qm_PW X 0 [.int l8] g _)) ∧ (l3 = 0 → (qm_PW X 0 [.int l8] g _))))
      refine ⟨fun c15 => ?_, fun c16 => ?_⟩
      · exact ih l2 l3 l4 l5 l6 l7 (l8 + 1) g ⟨(by have := ti_addK l8 (1 : Int32) 1 rfl; show 0 ≤ l2.toInt ∧ l2.toInt ≤ 1023 ∧ 0 ≤ (l8 + 1).toInt ∧ (l8 + 1).toInt ≤ 1024; omega), hg1, hg8, hg15, hgsq, (fun k hk => hgf k hk)⟩ (by have := ti_addK l8 (1 : Int32) 1 rfl; show (1024 - (l8 + 1).toInt).toNat < n; omega)
      · refine ⟨fun c17 => ?_, fun c18 => ?_⟩
        · refine sf_0 X g l8 trivial _ (fun r19 p20 => ?_)
          show qm_PW X 2 [.int l7, .int r19] g _
          refine sf_2 X g l7 r19 trivial _ (fun r21 p22 => ?_)
          show qm_PA X 121 48 [(0, .ref 0), (1, .int a), (2, .int l2), (3, .int (l3 + 1)), (4, .int l4), (5, .int (l5 &&& l8)), (6, .int (l6 ||| l8)), (7, .int r21), (8, .int (l8 + 1))] [] g Q
          exact ih l2 (l3 + 1) l4 (l5 &&& l8) (l6 ||| l8) r21 (l8 + 1) g ⟨(by have := ti_addK l8 (1 : Int32) 1 rfl; show 0 ≤ l2.toInt ∧ l2.toInt ≤ 1023 ∧ 0 ≤ (l8 + 1).toInt ∧ (l8 + 1).toInt ≤ 1024; omega), hg1, hg8, hg15, hgsq, (fun k hk => hgf k hk)⟩ (by have := ti_addK l8 (1 : Int32) 1 rfl; show (1024 - (l8 + 1).toInt).toNat < n; omega)
        · refine sf_0 X g l8 trivial _ (fun r23 p24 => ?_)
          show qm_PW X 2 [.int l7, .int r23] g _
          refine sf_2 X g l7 r23 trivial _ (fun r25 p26 => ?_)
          show qm_PA X 121 48 [(0, .ref 0), (1, .int a), (2, .int l2), (3, .int (l3 + 1)), (4, .int l8), (5, .int (l5 &&& l8)), (6, .int (l6 ||| l8)), (7, .int r25), (8, .int (l8 + 1))] [] g Q
          exact ih l2 (l3 + 1) l8 (l5 &&& l8) (l6 ||| l8) r25 (l8 + 1) g ⟨(by have := ti_addK l8 (1 : Int32) 1 rfl; show 0 ≤ l2.toInt ∧ l2.toInt ≤ 1023 ∧ 0 ≤ (l8 + 1).toInt ∧ (l8 + 1).toInt ≤ 1024; omega), hg1, hg8, hg15, hgsq, (fun k hk => hgf k hk)⟩ (by have := ti_addK l8 (1 : Int32) 1 rfl; show (1024 - (l8 + 1).toInt).toNat < n; omega)
set_option maxRecDepth 100000 in
set_option maxHeartbeats 4000000 in
theorem sf_121_0 (X : qm_X) (h : qm_H) (a : Int32) (hp : mq 1 h ∧ mq 8 h ∧ mq 15 h ∧ sq h) (Q : qm_Q) (hq : ∀ r : Int32, ∀ h' : qm_H, (mq 1 h' ∧ mq 8 h' ∧ mq 15 h' ∧ sq h' ∧ (∀ k, (k < 38 ∨ 38 < k) → h' k = h k)) → Q (some (.int r)) h') : qm_PW X 121 [.ref 0, .int a] h Q := by
  have hm1 : mq 1 h := hp.1
  have ⟨⟨_, _⟩, ⟨_, _⟩, _, _⟩ := hm1
  have hm8 : mq 8 h := hp.2.1
  have ⟨⟨_, _⟩, ⟨_, _⟩, _, _⟩ := hm8
  have hm15 : mq 15 h := hp.2.2.1
  have ⟨⟨_, _⟩, ⟨_, _⟩, _, _⟩ := hm15
  have hmsq : sq h := hp.2.2.2
  refine qm_seg_ok (C := qc_121) (rt := some .int) rfl rfl (cuts := [(48, [0, 1, 2, 3, 4, 5, 6, 7, 8])]) 400 _ _ _ _ ?_
  show (a.toInt < 0 → (Q (some (.int (-1 : Int32))) h)) ∧ (0 ≤ a.toInt → ((a.toInt ≤ 4 → (qm_PW X 34 [.ref 1] h _)) ∧ (4 < a.toInt → (Q (some (.int (-1 : Int32))) h))))
  refine ⟨fun c1 => ?_, fun c2 => ?_⟩
  · exact hq (-1 : Int32) h ⟨hm1, hm8, hm15, hmsq, (fun k hk => rfl)⟩
  · refine ⟨fun c3 => ?_, fun c4 => ?_⟩
    · refine sf_34_1 X h  hm1 _ (fun r5 p6 => ?_)
      show qm_PW X 56 [.ref 1, .ref 38] h _
      refine sf_56_1_38 X h  hm1 _ (fun g7 p8 => ?_)
      have f9 : ∀ k, (k < 38 ∨ 38 < k) → g7 k = h k := fun k hk => (p8 k (by omega)).trans (rfl)
      have k10 : mq 1 g7 := by unfold mq; rw [p8 1 (by omega)]; exact hm1
      have k11 : mq 8 g7 := by unfold mq; rw [p8 8 (by omega)]; exact hm8
      have k12 : mq 15 g7 := by unfold mq; rw [p8 15 (by omega)]; exact hm15
      have k13 : sq g7 := by unfold sq; rw [p8 37 (by omega)]; exact hmsq
      show qm_PA X 121 48 [(0, .ref 0), (1, .int a), (2, .int r5), (3, .int 0), (4, .int 0), (5, .int r5), (6, .int 0), (7, .int 10), (8, .int 0)] [] g7 Q
      exact (sf_121_0_c X h a hp Q hq _) r5 (0 : Int32) (0 : Int32) r5 (0 : Int32) (10 : Int32) (0 : Int32) g7 ⟨(by have : (0 : Int32).toInt = 0 := rfl; show 0 ≤ r5.toInt ∧ r5.toInt ≤ 1023 ∧ 0 ≤ (0 : Int32).toInt ∧ (0 : Int32).toInt ≤ 1024; omega), k10, k11, k12, k13, (fun k hk => f9 k hk)⟩ (Nat.lt_succ_self _)
    · exact hq (-1 : Int32) h ⟨hm1, hm8, hm15, hmsq, (fun k hk => rfl)⟩
