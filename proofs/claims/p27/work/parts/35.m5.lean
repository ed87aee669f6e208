-- ThreadBankModel.thread(II)I
set_option maxRecDepth 100000 in
set_option maxHeartbeats 4000000 in
theorem sf_187_39 (X : qm_X) (h : qm_H) (a : Int32) (b : Int32) (hp : mi h ∧ sm h ∧ zs h ∧ rw_ h) (Q : qm_Q) (hq : ∀ r : Int32, ∀ h' : qm_H, (mi h' ∧ sm h' ∧ zs h' ∧ rw_ h' ∧ (∀ k, (k < 41 ∨ 41 < k) → h' k = h k)) → Q (some (.int r)) h') : qm_PW X 187 [.ref 39, .int a, .int b] h Q := by
  have hmmi : mi h := hp.1
  have ⟨⟨_, _⟩, ⟨_, _⟩, ⟨_, _⟩, ⟨_, _⟩, _, _⟩ := hmmi
  have hmsm : sm h := hp.2.1
  have ⟨⟨⟨_, _⟩, _, _⟩, _, _, _⟩ := hmsm
  have hmzs : zs h := hp.2.2.1
  have hmrw : rw_ h := hp.2.2.2
  refine qm_seg_ok (C := qc_187) (rt := some .int) rfl rfl (cuts := []) 400 _ _ _ _ ?_
  show qm_PW X 167 [.ref 39, .int a] h _
  refine sf_167_39 X h a hmsm _ (fun r1 p2 => ?_)
  show (r1 = 0 → (Q (some (.int (-1 : Int32))) h)) ∧ (¬ r1 = 0 → (qm_PW X 141 [.long (Int32.toInt64 b), .long 0, .long 3] h _))
  refine ⟨fun c3 => ?_, fun c4 => ?_⟩
  · exact hq (-1 : Int32) h ⟨hmmi, hmsm, hmzs, hmrw, (fun k hk => rfl)⟩
  · have := p2.2 c4
    refine sf_141 X h ((Int32.toInt64 b) : Int64) (0 : Int64) (3 : Int64) trivial _ (fun r5 p6 => ?_)
    show (¬ r5 = 0 → (qm_PW X 169 [.ref 39] h _)) ∧ (r5 = 0 → (Q (some (.int (-1 : Int32))) h))
    refine ⟨fun c7 => ?_, fun c8 => ?_⟩
    · have := p6.2.1 c7
      refine sf_169_39 X h  hmsm _ (fun g9 p10 => ?_)
      have f11 : ∀ k, (k < 41 ∨ 41 < k) → g9 k = h k := fun k hk => (p10.2.1 k (by omega)).trans (rfl)
      have k12 : mi g9 := by unfold mi; rw [p10.2.1 39 (by omega)]; exact hmmi
      have k13 : sm g9 := by unfold sm; rw [p10.2.1 40 (by omega)]; exact hmsm
      have k14 : zs g9 := by unfold zs; rw [p10.2.1 49 (by omega)]; exact hmzs
      have k15 : rw_ g9 := by unfold rw_; rw [p10.2.1 46 (by omega)]; exact hmrw
      show (3 ≤ b.toInt → (qm_PW X 179 [.ref 39, .int a] g9 _)) ∧ (b.toInt < 3 → (qm_PW X 171 [.ref 39, .int a, .int b] g9 _))
      refine ⟨fun c16 => ?_, fun c17 => ?_⟩
      · refine sf_179_39 X g9 a ⟨p10.1, (by have : (0 : Int64).toInt = 0 := rfl; have : (3 : Int64).toInt = 3 := rfl; have := i64 b; omega)⟩ _ (fun r18 p19 => ?_)
        show qm_PW X 142 [.int r18] g9 _
        refine sf_142 X g9 r18 trivial _ (fun r20 p21 => ?_)
        show Q (some (.int r20)) g9
        exact hq r20 g9 ⟨k12, k13, k14, k15, (fun k hk => f11 k hk)⟩
      · refine sf_171_39 X g9 a b ⟨p10.1, (by have : (0 : Int64).toInt = 0 := rfl; have : (3 : Int64).toInt = 3 := rfl; have := i64 b; omega)⟩ _ (fun r22 p23 => ?_)
        show Q (some (.int r22)) g9
        exact hq r22 g9 ⟨k12, k13, k14, k15, (fun k hk => f11 k hk)⟩
    · have := p6.2.2 c8
      exact hq (-1 : Int32) h ⟨hmmi, hmsm, hmzs, hmrw, (fun k hk => rfl)⟩
-- ThreadBankModel.fewest()I
set_option maxRecDepth 100000 in
set_option maxHeartbeats 4000000 in
theorem sf_210_39_c (X : qm_X) (h : qm_H) (hp : mi h ∧ sm h ∧ zs h ∧ rw_ h) (Q : qm_Q) (hq : ∀ r : Int32, ∀ h' : qm_H, (mi h' ∧ sm h' ∧ zs h' ∧ rw_ h' ∧ (∀ k, (k < 41 ∨ 41 < k) → h' k = h k)) → Q (some (.int r)) h') : ∀ n : Nat, (∀ (l1 : Int32) (l2 : Int32) (l3 : Int32) (g : qm_H), ((0 ≤ l3.toInt ∧ l3.toInt ≤ 3) ∧ mi g ∧ sm g ∧ zs g ∧ rw_ g ∧ am g ∧ ∀ k, (k < 41 ∨ 41 < k) → g k = h k) → (l3.toInt * 10000 + 5000).toNat < n → qm_PA X 210 15 [(0, .ref 39), (1, .int l1), (2, .int l2), (3, .int l3)] [] g Q) ∧ (∀ (l1 : Int32) (l2 : Int32) (l3 : Int32) (l4 : Int32) (g : qm_H), ((1 ≤ l3.toInt ∧ l3.toInt ≤ 3 ∧ 0 ≤ l4.toInt ∧ l4.toInt ≤ 4) ∧ mi g ∧ sm g ∧ zs g ∧ rw_ g ∧ am g ∧ ∀ k, (k < 41 ∨ 41 < k) → g k = h k) → (l3.toInt * 10000 + (4 - l4.toInt) * 100 + 50).toNat < n → qm_PA X 210 22 [(0, .ref 39), (1, .int l1), (2, .int l2), (3, .int l3), (4, .int l4)] [] g Q) ∧ (∀ (l1 : Int32) (l2 : Int32) (l3 : Int32) (l4 : Int32) (l5 : Int32) (g : qm_H), ((1 ≤ l3.toInt ∧ l3.toInt ≤ 3 ∧ 0 ≤ l4.toInt ∧ l4.toInt ≤ 3 ∧ 0 ≤ l5.toInt ∧ l5.toInt ≤ 5) ∧ mi g ∧ sm g ∧ zs g ∧ rw_ g ∧ am g ∧ ∀ k, (k < 41 ∨ 41 < k) → g k = h k) → (l3.toInt * 10000 + (4 - l4.toInt) * 100 + 40 - l5.toInt).toNat < n → qm_PA X 210 34 [(0, .ref 39), (1, .int l1), (2, .int l2), (3, .int l3), (4, .int l4), (5, .int l5)] [] g Q) := by
  have hmmi : mi h := hp.1
  have ⟨⟨_, _⟩, ⟨_, _⟩, ⟨_, _⟩, ⟨_, _⟩, _, _⟩ := hmmi
  have hmsm : sm h := hp.2.1
  have ⟨⟨⟨_, _⟩, _, _⟩, _, _, _⟩ := hmsm
  have hmzs : zs h := hp.2.2.1
  have hmrw : rw_ h := hp.2.2.2
  intro n
  induction n with
  | zero => exact ⟨fun _ _ _ _ _ h0 => absurd h0 (Nat.not_lt_zero _), fun _ _ _ _ _ _ h0 => absurd h0 (Nat.not_lt_zero _), fun _ _ _ _ _ _ _ h0 => absurd h0 (Nat.not_lt_zero _)⟩
  | succ n ih =>
    refine ⟨?_, ?_, ?_⟩
    · intro l1 l2 l3 g hi hr
      obtain ⟨hi0, hgmi, hgsm, hgzs, hgrw, hgam, hgf⟩ := hi
      have ⟨⟨_, _⟩, ⟨_, _⟩, ⟨_, _⟩, ⟨_, _⟩, _, _⟩ := hgmi
      have ⟨⟨⟨_, _⟩, _, _⟩, _, _, _⟩ := hgsm
      have ⟨⟨_, _⟩, ⟨_, _⟩, _, _, _⟩ := hgam
      refine qm_seg_ok (C := qc_210) (rt := some .int) rfl rfl (cuts := [(15, [0, 1, 2, 3]), (22, [0, 1, 2, 3, 4]), (34, [0, 1, 2, 3, 4, 5])]) 400 _ _ _ _ ?_
      show (l3.toInt ≤ 0 → (Q (some (.int l2)) g)) ∧ (0 < l3.toInt → (qm_PA X 210 22 [(0, .ref 39), (1, .int l1), (2, .int l2), (3, .int l3), (4, .int 0)] [] g Q))
      refine ⟨fun c1 => ?_, fun c2 => ?_⟩
      · exact hq l2 g ⟨hgmi, hgsm, hgzs, hgrw, (fun k hk => hgf k hk)⟩
      · exact ih.2.1 l1 l2 l3 (0 : Int32) g ⟨(by have : (0 : Int32).toInt = 0 := rfl; show 1 ≤ l3.toInt ∧ l3.toInt ≤ 3 ∧ 0 ≤ (0 : Int32).toInt ∧ (0 : Int32).toInt ≤ 4; omega), hgmi, hgsm, hgzs, hgrw, hgam, (fun k hk => hgf k hk)⟩ (by have : (0 : Int32).toInt = 0 := rfl; show (l3.toInt * 10000 + (4 - (0 : Int32).toInt) * 100 + 50).toNat < n; omega)
    · intro l1 l2 l3 l4 g hi hr
      obtain ⟨hi0, hgmi, hgsm, hgzs, hgrw, hgam, hgf⟩ := hi
      have ⟨⟨_, _⟩, ⟨_, _⟩, ⟨_, _⟩, ⟨_, _⟩, _, _⟩ := hgmi
      have ⟨⟨⟨_, _⟩, _, _⟩, _, _, _⟩ := hgsm
      have ⟨⟨_, _⟩, ⟨_, _⟩, _, _, _⟩ := hgam
      refine qm_seg_ok (C := qc_210) (rt := some .int) rfl rfl (cuts := [(15, [0, 1, 2, 3]), (22, [0, 1, 2, 3, 4]), (34, [0, 1, 2, 3, 4, 5])]) 400 _ _ _ _ ?_
      show ((g 39 3).toInt ≤ l4.toInt → (qm_PA X 210 15 [(0, .ref 39), (1, .int l1), (2, .int l2), (3, .int (l3 + (-1 : Int32)))] [] g Q)) ∧ (l4.toInt < (g 39 3).toInt → (qm_PA X 210 34 [(0, .ref 39), (1, .int l1), (2, .int l2), (3, .int l3), (4, .int l4), (5, .int 0)] [] g Q))
      refine ⟨fun c1 => ?_, fun c2 => ?_⟩
      · have hz3 := ti_addK l3 (-1 : Int32) (-1) ti_n1 (by have := ti_rng l3; omega)
        revert hz3
        generalize l3 + (-1 : Int32) = z3
        intro hz3
        exact ih.1 l1 l2 z3 g ⟨(by show 0 ≤ z3.toInt ∧ z3.toInt ≤ 3; omega), hgmi, hgsm, hgzs, hgrw, hgam, (fun k hk => hgf k hk)⟩ (by show (z3.toInt * 10000 + 5000).toNat < n; omega)
      · exact ih.2.2 l1 l2 l3 l4 (0 : Int32) g ⟨(by have : (0 : Int32).toInt = 0 := rfl; show 1 ≤ l3.toInt ∧ l3.toInt ≤ 3 ∧ 0 ≤ l4.toInt ∧ l4.toInt ≤ 3 ∧ 0 ≤ (0 : Int32).toInt ∧ (0 : Int32).toInt ≤ 5; omega), hgmi, hgsm, hgzs, hgrw, hgam, (fun k hk => hgf k hk)⟩ (by have : (0 : Int32).toInt = 0 := rfl; show (l3.toInt * 10000 + (4 - l4.toInt) * 100 + 40 - (0 : Int32).toInt).toNat < n; omega)
    · intro l1 l2 l3 l4 l5 g hi hr
      obtain ⟨hi0, hgmi, hgsm, hgzs, hgrw, hgam, hgf⟩ := hi
      have ⟨⟨_, _⟩, ⟨_, _⟩, ⟨_, _⟩, ⟨_, _⟩, _, _⟩ := hgmi
      have ⟨⟨⟨_, _⟩, _, _⟩, _, _, _⟩ := hgsm
      have ⟨⟨_, _⟩, ⟨_, _⟩, _, _, _⟩ := hgam
      refine qm_seg_ok (C := qc_210) (rt := some .int) rfl rfl (cuts := [(15, [0, 1, 2, 3]), (22, [0, 1, 2, 3, 4]), (34, [0, 1, 2, 3, 4, 5])]) 400 _ _ _ _ ?_
      show (5 ≤ l5.toInt → (qm_PA X 210 22 [(0, .ref 39), (1, .int l1), (2, .int l2), (3, .int l3), (4, .int (l4 + 1))] [] g Q)) ∧ (l5.toInt < 5 → (qm_PW X 173 [.ref 39, .int ((10 * l4) + l5)] g _))
      refine ⟨fun c1 => ?_, fun c2 => ?_⟩
      · exact ih.2.1 l1 l2 l3 (l4 + 1) g ⟨(by have := ti_addK l4 (1 : Int32) 1 rfl; show 1 ≤ l3.toInt ∧ l3.toInt ≤ 3 ∧ 0 ≤ (l4 + 1).toInt ∧ (l4 + 1).toInt ≤ 4; omega), hgmi, hgsm, hgzs, hgrw, hgam, (fun k hk => hgf k hk)⟩ (by have := ti_addK l4 (1 : Int32) 1 rfl; show (l3.toInt * 10000 + (4 - (l4 + 1).toInt) * 100 + 50).toNat < n; omega)
      · refine sf_173_39 X g ((10 * l4) + l5) ⟨hgam, (by have := ti_mulL (10 : Int32) 10 rfl l4; have := ti_add (10 * l4) l5; omega)⟩ _ (fun r3 p4 => ?_)
        show (¬ r3 = l3 → (qm_PW X 142 [.int 0] g _)) ∧ (r3 = l3 → ((l1.toInt ≤ 0 → (qm_PW X 142 [.int 0] g _)) ∧ (0 < l1.toInt → (qm_PW X 142 [.int 1] g _))))
        refine ⟨fun c5 => ?_, fun c6 => ?_⟩
        · refine sf_142 X g (0 : Int32) trivial _ (fun r7 p8 => ?_)
          show ((0 : Int32) = 0 → (qm_PA X 210 34 [(0, .ref 39), (1, .int (l1 - 0)), (2, .int (l2 + r7)), (3, .int l3), (4, .int l4), (5, .int (l5 + 1))] [] g Q)) ∧ (¬ (0 : Int32) = 0 → (qm_PA X 210 34 [(0, .ref 39), (1, .int (l1 - l3)), (2, .int (l2 + r7)), (3, .int l3), (4, .int l4), (5, .int (l5 + 1))] [] g Q))
          refine ⟨fun c9 => ?_, fun c10 => ?_⟩
          · exact ih.2.2 (l1 - 0) (l2 + r7) l3 l4 (l5 + 1) g ⟨(by have := ti_addK l5 (1 : Int32) 1 rfl; show 1 ≤ l3.toInt ∧ l3.toInt ≤ 3 ∧ 0 ≤ l4.toInt ∧ l4.toInt ≤ 3 ∧ 0 ≤ (l5 + 1).toInt ∧ (l5 + 1).toInt ≤ 5; omega), hgmi, hgsm, hgzs, hgrw, hgam, (fun k hk => hgf k hk)⟩ (by have := ti_addK l5 (1 : Int32) 1 rfl; show (l3.toInt * 10000 + (4 - l4.toInt) * 100 + 40 - (l5 + 1).toInt).toNat < n; omega)
          · exact absurd c10 (by decide)
        · refine ⟨fun c11 => ?_, fun c12 => ?_⟩
          · refine sf_142 X g (0 : Int32) trivial _ (fun r13 p14 => ?_)
            show ((0 : Int32) = 0 → (qm_PA X 210 34 [(0, .ref 39), (1, .int (l1 - 0)), (2, .int (l2 + r13)), (3, .int l3), (4, .int l4), (5, .int (l5 + 1))] [] g Q)) ∧ (¬ (0 : Int32) = 0 → (qm_PA X 210 34 [(0, .ref 39), (1, .int (l1 - l3)), (2, .int (l2 + r13)), (3, .int l3), (4, .int l4), (5, .int (l5 + 1))] [] g Q))
            refine ⟨fun c15 => ?_, fun c16 => ?_⟩
            · exact ih.2.2 (l1 - 0) (l2 + r13) l3 l4 (l5 + 1) g ⟨(by have := ti_addK l5 (1 : Int32) 1 rfl; show 1 ≤ l3.toInt ∧ l3.toInt ≤ 3 ∧ 0 ≤ l4.toInt ∧ l4.toInt ≤ 3 ∧ 0 ≤ (l5 + 1).toInt ∧ (l5 + 1).toInt ≤ 5; omega), hgmi, hgsm, hgzs, hgrw, hgam, (fun k hk => hgf k hk)⟩ (by have := ti_addK l5 (1 : Int32) 1 rfl; show (l3.toInt * 10000 + (4 - l4.toInt) * 100 + 40 - (l5 + 1).toInt).toNat < n; omega)
            · exact absurd c16 (by decide)
          · refine sf_142 X g (1 : Int32) trivial _ (fun r17 p18 => ?_)
            show ((1 : Int32) = 0 → (qm_PA X 210 34 [(0, .ref 39), (1, .int (l1 - 0)), (2, .int (l2 + r17)), (3, .int l3), (4, .int l4), (5, .int (l5 + 1))] [] g Q)) ∧ (¬ (1 : Int32) = 0 → (qm_PA X 210 34 [(0, .ref 39), (1, .int (l1 - l3)), (2, .int (l2 + r17)), (3, .int l3), (4, .int l4), (5, .int (l5 + 1))] [] g Q))
            refine ⟨fun c19 => ?_, fun c20 => ?_⟩
            · exact absurd c19 (by decide)
            · exact ih.2.2 (l1 - l3) (l2 + r17) l3 l4 (l5 + 1) g ⟨(by have := ti_addK l5 (1 : Int32) 1 rfl; show 1 ≤ l3.toInt ∧ l3.toInt ≤ 3 ∧ 0 ≤ l4.toInt ∧ l4.toInt ≤ 3 ∧ 0 ≤ (l5 + 1).toInt ∧ (l5 + 1).toInt ≤ 5; omega), hgmi, hgsm, hgzs, hgrw, hgam, (fun k hk => hgf k hk)⟩ (by have := ti_addK l5 (1 : Int32) 1 rfl; show (l3.toInt * 10000 + (4 - l4.toInt) * 100 + 40 - (l5 + 1).toInt).toNat < n; omega)
set_option maxRecDepth 100000 in
set_option maxHeartbeats 4000000 in
theorem sf_210_39 (X : qm_X) (h : qm_H) (hp : mi h ∧ sm h ∧ zs h ∧ rw_ h) (Q : qm_Q) (hq : ∀ r : Int32, ∀ h' : qm_H, (mi h' ∧ sm h' ∧ zs h' ∧ rw_ h' ∧ (∀ k, (k < 41 ∨ 41 < k) → h' k = h k)) → Q (some (.int r)) h') : qm_PW X 210 [.ref 39] h Q := by
  have hmmi : mi h := hp.1
  have ⟨⟨_, _⟩, ⟨_, _⟩, ⟨_, _⟩, ⟨_, _⟩, _, _⟩ := hmmi
  have hmsm : sm h := hp.2.1
  have ⟨⟨⟨_, _⟩, _, _⟩, _, _, _⟩ := hmsm
  have hmzs : zs h := hp.2.2.1
  have hmrw : rw_ h := hp.2.2.2
  refine qm_seg_ok (C := qc_210) (rt := some .int) rfl rfl (cuts := [(15, [0, 1, 2, 3]), (22, [0, 1, 2, 3, 4]), (34, [0, 1, 2, 3, 4, 5])]) 400 _ _ _ _ ?_
  show qm_PW X 169 [.ref 39] h _
  refine sf_169_39 X h  hmsm _ (fun g1 p2 => ?_)
  have f3 : ∀ k, (k < 41 ∨ 41 < k) → g1 k = h k := fun k hk => (p2.2.1 k (by omega)).trans (rfl)
  have k4 : mi g1 := by unfold mi; rw [p2.2.1 39 (by omega)]; exact hmmi
  have k5 : sm g1 := by unfold sm; rw [p2.2.1 40 (by omega)]; exact hmsm
  have k6 : zs g1 := by unfold zs; rw [p2.2.1 49 (by omega)]; exact hmzs
  have k7 : rw_ g1 := by unfold rw_; rw [p2.2.1 46 (by omega)]; exact hmrw
  show (0 ≤ (4 : Int) ∧ (4 : Int) < 49) ∧ (qm_PA X 210 15 [(0, .ref 39), (1, .int (g1 41 4)), (2, .int 0), (3, .int 3)] [] g1 Q)
  refine ⟨by decide, ?_⟩
  exact (sf_210_39_c X h hp Q hq _).1 (g1 41 4) (0 : Int32) (3 : Int32) g1 ⟨(by have : (3 : Int32).toInt = 3 := rfl; show 0 ≤ (3 : Int32).toInt ∧ (3 : Int32).toInt ≤ 3; omega), k4, k5, k6, k7, p2.1, (fun k hk => f3 k hk)⟩ (Nat.lt_succ_self _)
-- ThreadBankModel.count(I)I
set_option maxRecDepth 100000 in
set_option maxHeartbeats 4000000 in
theorem sf_238_39_c (X : qm_X) (h : qm_H) (a : Int32) (hp : mi h ∧ sm h ∧ zs h ∧ rw_ h) (Q : qm_Q) (hq : ∀ r : Int32, ∀ h' : qm_H, (mi h' ∧ sm h' ∧ zs h' ∧ rw_ h' ∧ (∀ k, (k < 41 ∨ 41 < k) → h' k = h k)) → Q (some (.int r)) h') : ∀ n : Nat, (∀ (l2 : Int32) (l3 : Int32) (l4 : Int32) (g : qm_H), ((0 ≤ l4.toInt ∧ l4.toInt ≤ 10) ∧ mi g ∧ sm g ∧ zs g ∧ rw_ g ∧ am g ∧ ∀ k, (k < 41 ∨ 41 < k) → g k = h k) → (10 - l4.toInt).toNat < n → qm_PA X 238 11 [(0, .ref 39), (1, .int a), (2, .int l2), (3, .int l3), (4, .int l4)] [] g Q) := by
  have hmmi : mi h := hp.1
  have ⟨⟨_, _⟩, ⟨_, _⟩, ⟨_, _⟩, ⟨_, _⟩, _, _⟩ := hmmi
  have hmsm : sm h := hp.2.1
  have ⟨⟨⟨_, _⟩, _, _⟩, _, _, _⟩ := hmsm
  have hmzs : zs h := hp.2.2.1
  have hmrw : rw_ h := hp.2.2.2
  intro n
  induction n with
  | zero => exact fun _ _ _ _ _ h0 => absurd h0 (Nat.not_lt_zero _)
  | succ n ih =>
    intro l2 l3 l4 g hi hr
    obtain ⟨hi0, hgmi, hgsm, hgzs, hgrw, hgam, hgf⟩ := hi
    have ⟨⟨_, _⟩, ⟨_, _⟩, ⟨_, _⟩, ⟨_, _⟩, _, _⟩ := hgmi
    have ⟨⟨⟨_, _⟩, _, _⟩, _, _, _⟩ := hgsm
    have ⟨⟨_, _⟩, ⟨_, _⟩, _, _, _⟩ := hgam
    refine qm_seg_ok (C := qc_238) (rt := some .int) rfl rfl (cuts := [(11, [0, 1, 2, 3, 4])]) 400 _ _ _ _ ?_
    show (0 ≤ (4 : Int) ∧ (4 : Int) < 49) ∧ (((g 41 4).toInt ≤ l4.toInt → (((a = 0 → (Q (some (.int l2)) g)) ∧ (¬ a = 0 → ((a = 1 → (Q (some (.int l3)) g)) ∧ (¬ a = 1 → ((a = 2 → ((0 ≤ (36 : Int) ∧ (36 : Int) < 147) ∧ (Q (some (.int (g 40 36))) g))) ∧ (¬ a = 2 → ((a = 3 → ((0 ≤ (0 : Int) ∧ (0 : Int) < 2) ∧ (qm_PW X 142 [.int (g 42 0)] g _))) ∧ (¬ a = 3 → ((a = 4 → (Q (some (.int (g 39 9))) g)) ∧ (¬ a = 4 → ((a = 5 → ((0 ≤ (0 : Int) ∧ (0 : Int) < 4) ∧ ((¬ (g 48 0) = (-4 : Int32) → ((0 ≤ (0 : Int) ∧ (0 : Int) < 4) ∧ (Q (some (.int (g 49 0))) g))) ∧ ((g 48 0) = (-4 : Int32) → (Q (some (.int (-4 : Int32))) g))))) ∧ (¬ a = 5 → (Q (some (.int (-1 : Int32))) g))))))))))))))) ∧ (l4.toInt < (g 41 4).toInt → (qm_PW X 213 [.ref 39, .int l4] g _)))
    refine ⟨by decide, ?_⟩
    refine ⟨fun c1 => ?_, fun c2 => ?_⟩
    · refine ⟨fun c3 => ?_, fun c4 => ?_⟩
      · exact hq l2 g ⟨hgmi, hgsm, hgzs, hgrw, (fun k hk => hgf k hk)⟩
      · refine ⟨fun c5 => ?_, fun c6 => ?_⟩
        · exact hq l3 g ⟨hgmi, hgsm, hgzs, hgrw, (fun k hk => hgf k hk)⟩
        · refine ⟨fun c7 => ?_, fun c8 => ?_⟩
          · refine ⟨by decide, ?_⟩
            exact hq (g 40 36) g ⟨hgmi, hgsm, hgzs, hgrw, (fun k hk => hgf k hk)⟩
          · refine ⟨fun c9 => ?_, fun c10 => ?_⟩
            · refine ⟨by decide, ?_⟩
              refine sf_142 X g (g 42 0) trivial _ (fun r11 p12 => ?_)
              show (0 ≤ (1 : Int) ∧ (1 : Int) < 2) ∧ (qm_PW X 142 [.int (g 42 1)] g _)
              refine ⟨by decide, ?_⟩
              refine sf_142 X g (g 42 1) trivial _ (fun r13 p14 => ?_)
              show Q (some (.int (r11 + r13))) g
              exact hq (r11 + r13) g ⟨hgmi, hgsm, hgzs, hgrw, (fun k hk => hgf k hk)⟩
            · refine ⟨fun c15 => ?_, fun c16 => ?_⟩
              · exact hq (g 39 9) g ⟨hgmi, hgsm, hgzs, hgrw, (fun k hk => hgf k hk)⟩
              · refine ⟨fun c17 => ?_, fun c18 => ?_⟩
                · refine ⟨by decide, ?_⟩
                  refine ⟨fun c19 => ?_, fun c20 => ?_⟩
                  · refine ⟨by decide, ?_⟩
                    exact hq (g 49 0) g ⟨hgmi, hgsm, hgzs, hgrw, (fun k hk => hgf k hk)⟩
                  · exact hq (-4 : Int32) g ⟨hgmi, hgsm, hgzs, hgrw, (fun k hk => hgf k hk)⟩
                · exact hq (-1 : Int32) g ⟨hgmi, hgsm, hgzs, hgrw, (fun k hk => hgf k hk)⟩
    · refine sf_213_39 X g l4 ⟨hgam, (by omega)⟩ _ (fun r21 p22 => ?_)
      show qm_PW X 142 [.int r21] g _
      refine sf_142 X g r21 trivial _ (fun r23 p24 => ?_)
      show qm_PW X 179 [.ref 39, .int l4] g _
      refine sf_179_39 X g l4 ⟨hgam, (by omega)⟩ _ (fun r25 p26 => ?_)
      show qm_PW X 142 [.int r25] g _
      refine sf_142 X g r25 trivial _ (fun r27 p28 => ?_)
      show qm_PA X 238 11 [(0, .ref 39), (1, .int a), (2, .int (l2 + r23)), (3, .int (l3 + r27)), (4, .int (l4 + 1))] [] g Q
      exact ih (l2 + r23) (l3 + r27) (l4 + 1) g ⟨(by have := ti_addK l4 (1 : Int32) 1 rfl; show 0 ≤ (l4 + 1).toInt ∧ (l4 + 1).toInt ≤ 10; omega), hgmi, hgsm, hgzs, hgrw, hgam, (fun k hk => hgf k hk)⟩ (by have := ti_addK l4 (1 : Int32) 1 rfl; show (10 - (l4 + 1).toInt).toNat < n; omega)
set_option maxRecDepth 100000 in
set_option maxHeartbeats 4000000 in
theorem sf_238_39 (X : qm_X) (h : qm_H) (a : Int32) (hp : mi h ∧ sm h ∧ zs h ∧ rw_ h) (Q : qm_Q) (hq : ∀ r : Int32, ∀ h' : qm_H, (mi h' ∧ sm h' ∧ zs h' ∧ rw_ h' ∧ (∀ k, (k < 41 ∨ 41 < k) → h' k = h k)) → Q (some (.int r)) h') : qm_PW X 238 [.ref 39, .int a] h Q := by
  have hmmi : mi h := hp.1
  have ⟨⟨_, _⟩, ⟨_, _⟩, ⟨_, _⟩, ⟨_, _⟩, _, _⟩ := hmmi
  have hmsm : sm h := hp.2.1
  have ⟨⟨⟨_, _⟩, _, _⟩, _, _, _⟩ := hmsm
  have hmzs : zs h := hp.2.2.1
  have hmrw : rw_ h := hp.2.2.2
  refine qm_seg_ok (C := qc_238) (rt := some .int) rfl rfl (cuts := [(11, [0, 1, 2, 3, 4])]) 400 _ _ _ _ ?_
  show qm_PW X 169 [.ref 39] h _
  refine sf_169_39 X h  hmsm _ (fun g1 p2 => ?_)
  have f3 : ∀ k, (k < 41 ∨ 41 < k) → g1 k = h k := fun k hk => (p2.2.1 k (by omega)).trans (rfl)
  have k4 : mi g1 := by unfold mi; rw [p2.2.1 39 (by omega)]; exact hmmi
  have k5 : sm g1 := by unfold sm; rw [p2.2.1 40 (by omega)]; exact hmsm
  have k6 : zs g1 := by unfold zs; rw [p2.2.1 49 (by omega)]; exact hmzs
  have k7 : rw_ g1 := by unfold rw_; rw [p2.2.1 46 (by omega)]; exact hmrw
  show qm_PA X 238 11 [(0, .ref 39), (1, .int a), (2, .int 0), (3, .int 0), (4, .int 0)] [] g1 Q
  exact (sf_238_39_c X h a hp Q hq _) (0 : Int32) (0 : Int32) (0 : Int32) g1 ⟨(by have : (0 : Int32).toInt = 0 := rfl; show 0 ≤ (0 : Int32).toInt ∧ (0 : Int32).toInt ≤ 10; omega), k4, k5, k6, k7, p2.1, (fun k hk => f3 k hk)⟩ (Nat.lt_succ_self _)
