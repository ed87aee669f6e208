-- ThreadBank.read(IIII)I
set_option maxRecDepth 100000 in
set_option maxHeartbeats 4000000 in
theorem sf_127_0_c (X : qm_X) (h : qm_H) (a : Int32) (b : Int32) (c : Int32) (d : Int32) (hp : mq 1 h ∧ mq 8 h ∧ mq 15 h ∧ sq h) (Q : qm_Q) (hq : ∀ r : Int32, ∀ h' : qm_H, (mq 1 h' ∧ mq 8 h' ∧ mq 15 h' ∧ sq h' ∧ (∀ k, (k < 0 ∨ 7 < k) → h' k = h k)) → Q (some (.int r)) h') : ∀ n : Nat, (∀ (l5 : Int32) (l6 : Int32) (l7 : Int32) (g : qm_H), ((0 ≤ l7.toInt ∧ l7.toInt ≤ 10 ∧ 0 ≤ l6.toInt ∧ l6.toInt ≤ 10 ∧ d.toInt ≤ 10) ∧ mq 1 g ∧ mq 8 g ∧ mq 15 g ∧ sq g ∧ ∀ k, (k < 0 ∨ 7 < k) → g k = h k) → (10 - l7.toInt).toNat < n → qm_PA X 127 51 [(0, .ref 0), (1, .int a), (2, .int b), (3, .int c), (4, .int d), (5, .int l5), (6, .int l6), (7, .int l7)] [] g Q) := by
  have hm1 : mq 1 h := hp.1
  have ⟨⟨_, _⟩, ⟨_, _⟩, _, _⟩ := hm1
  have hm8 : mq 8 h := hp.2.1
  have ⟨⟨_, _⟩, ⟨_, _⟩, _, _⟩ := hm8
  have hm15 : mq 15 h := hp.2.2.1
  have ⟨⟨_, _⟩, ⟨_, _⟩, _, _⟩ := hm15
  have hmsq : sq h := hp.2.2.2
  intro n
  induction n with
  | zero => exact fun _ _ _ _ _ h0 => absurd h0 (Nat.not_lt_zero _)
  | succ n ih =>
    intro l5 l6 l7 g hi hr
    obtain ⟨hi0, hg1, hg8, hg15, hgsq, hgf⟩ := hi
    have ⟨⟨_, _⟩, ⟨_, _⟩, _, _⟩ := hg1
    have ⟨⟨_, _⟩, ⟨_, _⟩, _, _⟩ := hg8
    have ⟨⟨_, _⟩, ⟨_, _⟩, _, _⟩ := hg15
    refine qm_seg_ok (C := qc_127) (rt := some .int) rfl rfl (cuts := [(51, [0, 1, 2, 3, 4, 5, 6, 7])]) 400 _ _ _ _ ?_
    show (d.toInt ≤ l7.toInt → (Q (some (.int ((g 1 7) - l6))) (qm_row g 0 (upd (g 0) 8 l5)))) ∧ (l7.toInt < d.toInt → ((¬ l5 = 0 → (Q (some (.int ((g 1 7) - l6))) (qm_row g 0 (upd (g 0) 8 l5)))) ∧ (l5 = 0 → (qm_PW X 74 [.ref 34, .int a, .int (c + (3 * l7))] g _))))
    refine ⟨fun c1 => ?_, fun c2 => ?_⟩
    · exact hq ((g 1 7) - l6) (qm_row g 0 (upd (g 0) 8 l5)) ⟨(by exact hg1), (by exact hg8), (by exact hg15), (by exact hgsq), (fun k hk => by simp only [qm_row]; rw [if_neg (by omega)]; exact hgf k hk)⟩
    · refine ⟨fun c3 => ?_, fun c4 => ?_⟩
      · exact hq ((g 1 7) - l6) (qm_row g 0 (upd (g 0) 8 l5)) ⟨(by exact hg1), (by exact hg8), (by exact hg15), (by exact hgsq), (fun k hk => by simp only [qm_row]; rw [if_neg (by omega)]; exact hgf k hk)⟩
      · refine sf_74_34 X g a (c + (3 * l7)) hgsq _ (fun r5 p6 => ?_)
        show (¬ r5 = 0 → (qm_PA X 127 51 [(0, .ref 0), (1, .int a), (2, .int b), (3, .int c), (4, .int d), (5, .int r5), (6, .int l6), (7, .int (l7 + 1))] [] g Q)) ∧ (r5 = 0 → (qm_PW X 130 [.ref 0, .int a, .int (c + (3 * l7))] g _))
        refine ⟨fun c7 => ?_, fun c8 => ?_⟩
        · exact ih r5 l6 (l7 + 1) g ⟨(by have := ti_addK l7 (1 : Int32) 1 rfl; show 0 ≤ (l7 + 1).toInt ∧ (l7 + 1).toInt ≤ 10 ∧ 0 ≤ l6.toInt ∧ l6.toInt ≤ 10 ∧ d.toInt ≤ 10; omega), hg1, hg8, hg15, hgsq, (fun k hk => hgf k hk)⟩ (by have := ti_addK l7 (1 : Int32) 1 rfl; show (10 - (l7 + 1).toInt).toNat < n; omega)
        · refine sf_130_0 X g a (c + (3 * l7)) ⟨hg1, hgsq⟩ _ (fun r9 g10 p11 => ?_)
          have f12 : ∀ k, (k < 0 ∨ 7 < k) → g10 k = h k := fun k hk => (p11.2.1 k (by omega)).trans (hgf k hk)
          have k13 : mq 8 g10 := by unfold mq; rw [p11.2.1 8 (by omega)]; exact hg8
          have k14 : mq 15 g10 := by unfold mq; rw [p11.2.1 15 (by omega)]; exact hg15
          have k15 : sq g10 := by unfold sq; rw [p11.2.1 37 (by omega)]; exact hgsq
          show (¬ r9 = 0 → (qm_PA X 127 51 [(0, .ref 0), (1, .int a), (2, .int b), (3, .int c), (4, .int d), (5, .int r5), (6, .int l6), (7, .int (l7 + 1))] [] g10 Q)) ∧ (r9 = 0 → (Q (some (.int ((-20 : Int32) - l7))) (qm_row g10 1 (upd (g10 1) 7 l6))))
          refine ⟨fun c16 => ?_, fun c17 => ?_⟩
          · exact ih r5 l6 (l7 + 1) g10 ⟨(by have := ti_addK l7 (1 : Int32) 1 rfl; show 0 ≤ (l7 + 1).toInt ∧ (l7 + 1).toInt ≤ 10 ∧ 0 ≤ l6.toInt ∧ l6.toInt ≤ 10 ∧ d.toInt ≤ 10; omega), p11.1, k13, k14, k15, (fun k hk => f12 k hk)⟩ (by have := ti_addK l7 (1 : Int32) 1 rfl; show (10 - (l7 + 1).toInt).toNat < n; omega)
          · exact hq ((-20 : Int32) - l7) (qm_row g10 1 (upd (g10 1) 7 l6)) ⟨(by have ⟨⟨_, _⟩, ⟨_, _⟩, _, _⟩ := hm1; have ⟨⟨_, _⟩, ⟨_, _⟩, _, _⟩ := hm8; have ⟨⟨_, _⟩, ⟨_, _⟩, _, _⟩ := hm15; have ⟨⟨_, _⟩, ⟨_, _⟩, _, _⟩ := hg1; have ⟨⟨_, _⟩, ⟨_, _⟩, _, _⟩ := hg8; have ⟨⟨_, _⟩, ⟨_, _⟩, _, _⟩ := hg15; have ⟨⟨_, _⟩, ⟨_, _⟩, _, _⟩ := p11.1; have ⟨⟨_, _⟩, ⟨_, _⟩, _, _⟩ := k13; have ⟨⟨_, _⟩, ⟨_, _⟩, _, _⟩ := k14; show (0 ≤ (g10 1 6).toInt ∧ (g10 1 6).toInt ≤ 4) ∧ (0 ≤ l6.toInt ∧ l6.toInt ≤ 10) ∧ (0 ≤ (g10 1 9).toInt ∧ (g10 1 9).toInt ≤ 6); omega), (by exact k13), (by exact k14), (by exact k15), (fun k hk => by simp only [qm_row]; rw [if_neg (by omega)]; exact f12 k hk)⟩
set_option maxRecDepth 100000 in
set_option maxHeartbeats 4000000 in
theorem sf_127_0 (X : qm_X) (h : qm_H) (a : Int32) (b : Int32) (c : Int32) (d : Int32) (hp : mq 1 h ∧ mq 8 h ∧ mq 15 h ∧ sq h) (Q : qm_Q) (hq : ∀ r : Int32, ∀ h' : qm_H, (mq 1 h' ∧ mq 8 h' ∧ mq 15 h' ∧ sq h' ∧ (∀ k, (k < 0 ∨ 7 < k) → h' k = h k)) → Q (some (.int r)) h') : qm_PW X 127 [.ref 0, .int a, .int b, .int c, .int d] h Q := by
  have hm1 : mq 1 h := hp.1
  have ⟨⟨_, _⟩, ⟨_, _⟩, _, _⟩ := hm1
  have hm8 : mq 8 h := hp.2.1
  have ⟨⟨_, _⟩, ⟨_, _⟩, _, _⟩ := hm8
  have hm15 : mq 15 h := hp.2.2.1
  have ⟨⟨_, _⟩, ⟨_, _⟩, _, _⟩ := hm15
  have hmsq : sq h := hp.2.2.2
  refine qm_seg_ok (C := qc_127) (rt := some .int) rfl rfl (cuts := [(51, [0, 1, 2, 3, 4, 5, 6, 7])]) 400 _ _ _ _ ?_
  show qm_PW X 65 [.int a] h _
  refine sf_65 X h a trivial _ (fun r1 p2 => ?_)
  show (r1 = 0 → (Q (some (.int (-1 : Int32))) h)) ∧ (¬ r1 = 0 → (qm_PW X 66 [.int b] h _))
  refine ⟨fun c3 => ?_, fun c4 => ?_⟩
  · exact hq (-1 : Int32) h ⟨hm1, hm8, hm15, hmsq, (fun k hk => rfl)⟩
  · have := p2.2 c4
    refine sf_66 X h b trivial _ (fun r5 p6 => ?_)
    show (r5 = 0 → (Q (some (.int (-1 : Int32))) h)) ∧ (¬ r5 = 0 → ((d.toInt < 0 → (Q (some (.int (-1 : Int32))) h)) ∧ (0 ≤ d.toInt → ((d.toInt ≤ 10 → (qm_PW X 73 [.ref 34, .int a, .int b] h _)) ∧ (10 < d.toInt → (Q (some (.int (-1 : Int32))) h))))))
    refine ⟨fun c7 => ?_, fun c8 => ?_⟩
    · exact hq (-1 : Int32) h ⟨hm1, hm8, hm15, hmsq, (fun k hk => rfl)⟩
    · refine ⟨fun c9 => ?_, fun c10 => ?_⟩
      · exact hq (-1 : Int32) h ⟨hm1, hm8, hm15, hmsq, (fun k hk => rfl)⟩
      · refine ⟨fun c11 => ?_, fun c12 => ?_⟩
        · refine sf_73_34 X h a b trivial _ (fun r13 p14 => ?_)
          show qm_PA X 127 51 [(0, .ref 0), (1, .int a), (2, .int b), (3, .int c), (4, .int d), (5, .int r13), (6, .int (h 1 7)), (7, .int 0)] [] h Q
          exact (sf_127_0_c X h a b c d hp Q hq _) r13 (h 1 7) (0 : Int32) h ⟨(by have : (0 : Int32).toInt = 0 := rfl; show 0 ≤ (0 : Int32).toInt ∧ (0 : Int32).toInt ≤ 10 ∧ 0 ≤ (h 1 7).toInt ∧ (h 1 7).toInt ≤ 10 ∧ d.toInt ≤ 10; omega), hm1, hm8, hm15, hmsq, (fun k hk => rfl)⟩ (Nat.lt_succ_self _)
        · exact hq (-1 : Int32) h ⟨hm1, hm8, hm15, hmsq, (fun k hk => rfl)⟩
