-- ThreadBankModel.drift(III)I
set_option maxRecDepth 100000 in
set_option maxHeartbeats 4000000 in
theorem sf_229_39_c (X : qm_X) (h : qm_H) (a : Int32) (b : Int32) (c : Int32) (hp : mi h ∧ sm h ∧ zs h ∧ rw_ h) (Q : qm_Q) (hq : ∀ r : Int32, ∀ h' : qm_H, (mi h' ∧ sm h' ∧ zs h' ∧ rw_ h' ∧ (∀ k, (k < 41 ∨ 41 < k) → h' k = h k)) → Q (some (.int r)) h') : ∀ n : Nat, (∀ (l4 : Int32) (l5 : Int32) (l6 : Int32) (g : qm_H), ((0 ≤ l6.toInt ∧ l6.toInt ≤ 20 ∧ b.toInt ≤ 20) ∧ mi g ∧ sm g ∧ zs g ∧ rw_ g ∧ am g ∧ ∀ k, (k < 41 ∨ 41 < k) → g k = h k) → ((20 - l6.toInt) * 100 + 50).toNat < n → qm_PA X 229 48 [(0, .ref 39), (1, .int a), (2, .int b), (3, .int c), (4, .int l4), (5, .int l5), (6, .int l6)] [] g Q) ∧ (∀ (l4 : Int32) (l5 : Int32) (l6 : Int32) (l7 : Int32) (l8 : Int32) (g : qm_H), ((0 ≤ l6.toInt ∧ l6.toInt ≤ 19 ∧ 0 ≤ l8.toInt ∧ l8.toInt ≤ 10 ∧ b.toInt ≤ 20) ∧ mi g ∧ sm g ∧ zs g ∧ rw_ g ∧ am g ∧ ∀ k, (k < 41 ∨ 41 < k) → g k = h k) → ((20 - l6.toInt) * 100 + 40 - l8.toInt).toNat < n → qm_PA X 229 61 [(0, .ref 39), (1, .int a), (2, .int b), (3, .int c), (4, .int l4), (5, .int l5), (6, .int l6), (7, .int l7), (8, .int l8)] [] g Q) := by
  have hmmi : mi h := hp.1
  have ⟨⟨_, _⟩, ⟨_, _⟩, ⟨_, _⟩, ⟨_, _⟩, _, _⟩ := hmmi
  have hmsm : sm h := hp.2.1
  have ⟨⟨⟨_, _⟩, _, _⟩, _, _, _⟩ := hmsm
  have hmzs : zs h := hp.2.2.1
  have hmrw : rw_ h := hp.2.2.2
  intro n
  induction n with
  | zero => exact ⟨fun _ _ _ _ _ h0 => absurd h0 (Nat.not_lt_zero _), fun _ _ _ _ _ _ _ h0 => absurd h0 (Nat.not_lt_zero _)⟩
  | succ n ih =>
    refine ⟨?_, ?_⟩
    · intro l4 l5 l6 g hi hr
      obtain ⟨hi0, hgmi, hgsm, hgzs, hgrw, hgam, hgf⟩ := hi
      have ⟨⟨_, _⟩, ⟨_, _⟩, ⟨_, _⟩, ⟨_, _⟩, _, _⟩ := hgmi
      have ⟨⟨⟨_, _⟩, _, _⟩, _, _, _⟩ := hgsm
      have ⟨⟨_, _⟩, ⟨_, _⟩, _, _, _⟩ := hgam
      refine qm_seg_ok (C := qc_229) (rt := some .int) rfl rfl (cuts := [(48, [0, 1, 2, 3, 4, 5, 6]), (61, [0, 1, 2, 3, 4, 5, 6, 7, 8])]) 400 _ _ _ _ ?_
      show (b.toInt ≤ l6.toInt → (Q (some (.int l5)) g)) ∧ (l6.toInt < b.toInt → (qm_PA X 229 61 [(0, .ref 39), (1, .int a), (2, .int b), (3, .int c), (4, .int l4), (5, .int l5), (6, .int l6), (7, .int l5), (8, .int 0)] [] g Q))
      refine ⟨fun c1 => ?_, fun c2 => ?_⟩
      · exact hq l5 g ⟨hgmi, hgsm, hgzs, hgrw, (fun k hk => hgf k hk)⟩
      · exact ih.2 l4 l5 l6 l5 (0 : Int32) g ⟨(by have : (0 : Int32).toInt = 0 := rfl; show 0 ≤ l6.toInt ∧ l6.toInt ≤ 19 ∧ 0 ≤ (0 : Int32).toInt ∧ (0 : Int32).toInt ≤ 10 ∧ b.toInt ≤ 20; omega), hgmi, hgsm, hgzs, hgrw, hgam, (fun k hk => hgf k hk)⟩ (by have : (0 : Int32).toInt = 0 := rfl; show ((20 - l6.toInt) * 100 + 40 - (0 : Int32).toInt).toNat < n; omega)
    · intro l4 l5 l6 l7 l8 g hi hr
      obtain ⟨hi0, hgmi, hgsm, hgzs, hgrw, hgam, hgf⟩ := hi
      have ⟨⟨_, _⟩, ⟨_, _⟩, ⟨_, _⟩, ⟨_, _⟩, _, _⟩ := hgmi
      have ⟨⟨⟨_, _⟩, _, _⟩, _, _, _⟩ := hgsm
      have ⟨⟨_, _⟩, ⟨_, _⟩, _, _, _⟩ := hgam
      refine qm_seg_ok (C := qc_229) (rt := some .int) rfl rfl (cuts := [(48, [0, 1, 2, 3, 4, 5, 6]), (61, [0, 1, 2, 3, 4, 5, 6, 7, 8])]) 400 _ _ _ _ ?_
      show (0 ≤ (4 : Int) ∧ (4 : Int) < 49) ∧ (((g 41 4).toInt ≤ l8.toInt → (qm_PA X 229 48 [(0, .ref 39), (1, .int a), (2, .int b), (3, .int c), (4, .int l4), (5, .int l7), (6, .int (l6 + 1))] [] g Q)) ∧ (l8.toInt < (g 41 4).toInt → ((¬ ((l5 >>> (l8 &&& 31)) &&& 1) = 1 → (qm_PA X 229 61 [(0, .ref 39), (1, .int a), (2, .int b), (3, .int c), (4, .int l4), (5, .int l5), (6, .int l6), (7, .int l7), (8, .int (l8 + 1))] [] g Q)) ∧ (((l5 >>> (l8 &&& 31)) &&& 1) = 1 → (¬ (20 : Int32) = 0 ∧ (qm_PW X 221 [.ref 39, .int l8, .int c] g _))))))
      refine ⟨by decide, ?_⟩
      refine ⟨fun c1 => ?_, fun c2 => ?_⟩
      · exact ih.1 l4 l7 (l6 + 1) g ⟨(by have := ti_addK l6 (1 : Int32) 1 rfl; show 0 ≤ (l6 + 1).toInt ∧ (l6 + 1).toInt ≤ 20 ∧ b.toInt ≤ 20; omega), hgmi, hgsm, hgzs, hgrw, hgam, (fun k hk => hgf k hk)⟩ (by have := ti_addK l6 (1 : Int32) 1 rfl; show ((20 - (l6 + 1).toInt) * 100 + 50).toNat < n; omega)
      · refine ⟨fun c3 => ?_, fun c4 => ?_⟩
        · exact ih.2 l4 l5 l6 l7 (l8 + 1) g ⟨(by have := ti_addK l8 (1 : Int32) 1 rfl; show 0 ≤ l6.toInt ∧ l6.toInt ≤ 19 ∧ 0 ≤ (l8 + 1).toInt ∧ (l8 + 1).toInt ≤ 10 ∧ b.toInt ≤ 20; omega), hgmi, hgsm, hgzs, hgrw, hgam, (fun k hk => hgf k hk)⟩ (by have := ti_addK l8 (1 : Int32) 1 rfl; show ((20 - l6.toInt) * 100 + 40 - (l8 + 1).toInt).toNat < n; omega)
        · refine ⟨by decide, ?_⟩
          refine sf_221_39 X g l8 c ⟨hgam, (by omega)⟩ _ (fun r5 p6 => ?_)
          show (r5.toInt ≤ (((((l4 * 1103515245) + 12345) >>> ((16 : Int32) &&& 31)) &&& 32767) - ((((l4 * 1103515245) + 12345) >>> ((16 : Int32) &&& 31)) &&& 32767) / 20 * 20).toInt → (qm_PA X 229 61 [(0, .ref 39), (1, .int a), (2, .int b), (3, .int c), (4, .int ((l4 * 1103515245) + 12345)), (5, .int l5), (6, .int l6), (7, .int (l7 &&& (-1 : Int32))), (8, .int (l8 + 1))] [] g Q)) ∧ ((((((l4 * 1103515245) + 12345) >>> ((16 : Int32) &&& 31)) &&& 32767) - ((((l4 * 1103515245) + 12345) >>> ((16 : Int32) &&& 31)) &&& 32767) / 20 * 20).toInt < r5.toInt → (qm_PA X 229 61 [(0, .ref 39), (1, .int a), (2, .int b), (3, .int c), (4, .int ((l4 * 1103515245) + 12345)), (5, .int l5), (6, .int l6), (7, .int (l7 &&& ((1 <<< (l8 &&& 31)) ^^^ (-1 : Int32)))), (8, .int (l8 + 1))] [] g Q))
          refine ⟨fun c7 => ?_, fun c8 => ?_⟩
          · exact ih.2 ((l4 * 1103515245) + 12345) l5 l6 (l7 &&& (-1 : Int32)) (l8 + 1) g ⟨(by have := ti_addK l8 (1 : Int32) 1 rfl; have := ti_rem (20 : Int32) 20 rfl ((((l4 * 1103515245) + 12345) >>> ((16 : Int32) &&& 31)) &&& 32767) (by decide); have := ti_mulR (1103515245 : Int32) 1103515245 rfl l4; show 0 ≤ l6.toInt ∧ l6.toInt ≤ 19 ∧ 0 ≤ (l8 + 1).toInt ∧ (l8 + 1).toInt ≤ 10 ∧ b.toInt ≤ 20; omega), hgmi, hgsm, hgzs, hgrw, hgam, (fun k hk => hgf k hk)⟩ (by have := ti_addK l8 (1 : Int32) 1 rfl; have := ti_rem (20 : Int32) 20 rfl ((((l4 * 1103515245) + 12345) >>> ((16 : Int32) &&& 31)) &&& 32767) (by decide); have := ti_mulR (1103515245 : Int32) 1103515245 rfl l4; show ((20 - l6.toInt) * 100 + 40 - (l8 + 1).toInt).toNat < n; omega)
          · exact ih.2 ((l4 * 1103515245) + 12345) l5 l6 (l7 &&& ((1 <<< (l8 &&& 31)) ^^^ (-1 : Int32))) (l8 + 1) g ⟨(by have := ti_addK l8 (1 : Int32) 1 rfl; have := ti_rem (20 : Int32) 20 rfl ((((l4 * 1103515245) + 12345) >>> ((16 : Int32) &&& 31)) &&& 32767) (by decide); have := ti_mulR (1103515245 : Int32) 1103515245 rfl l4; show 0 ≤ l6.toInt ∧ l6.toInt ≤ 19 ∧ 0 ≤ (l8 + 1).toInt ∧ (l8 + 1).toInt ≤ 10 ∧ b.toInt ≤ 20; omega), hgmi, hgsm, hgzs, hgrw, hgam, (fun k hk => hgf k hk)⟩ (by have := ti_addK l8 (1 : Int32) 1 rfl; have := ti_rem (20 : Int32) 20 rfl ((((l4 * 1103515245) + 12345) >>> ((16 : Int32) &&& 31)) &&& 32767) (by decide); have := ti_mulR (1103515245 : Int32) 1103515245 rfl l4; show ((20 - l6.toInt) * 100 + 40 - (l8 + 1).toInt).toNat < n; omega)
set_option maxRecDepth 100000 in
set_option maxHeartbeats 4000000 in
theorem sf_229_39 (X : qm_X) (h : qm_H) (a : Int32) (b : Int32) (c : Int32) (hp : mi h ∧ sm h ∧ zs h ∧ rw_ h) (Q : qm_Q) (hq : ∀ r : Int32, ∀ h' : qm_H, (mi h' ∧ sm h' ∧ zs h' ∧ rw_ h' ∧ (∀ k, (k < 41 ∨ 41 < k) → h' k = h k)) → Q (some (.int r)) h') : qm_PW X 229 [.ref 39, .int a, .int b, .int c] h Q := by
  have hmmi : mi h := hp.1
  have ⟨⟨_, _⟩, ⟨_, _⟩, ⟨_, _⟩, ⟨_, _⟩, _, _⟩ := hmmi
  have hmsm : sm h := hp.2.1
  have ⟨⟨⟨_, _⟩, _, _⟩, _, _, _⟩ := hmsm
  have hmzs : zs h := hp.2.2.1
  have hmrw : rw_ h := hp.2.2.2
  refine qm_seg_ok (C := qc_229) (rt := some .int) rfl rfl (cuts := [(48, [0, 1, 2, 3, 4, 5, 6]), (61, [0, 1, 2, 3, 4, 5, 6, 7, 8])]) 400 _ _ _ _ ?_
  show qm_PW X 141 [.long (Int32.toInt64 b), .long 1, .long 20] h _
  refine sf_141 X h ((Int32.toInt64 b) : Int64) (1 : Int64) (20 : Int64) trivial _ (fun r1 p2 => ?_)
  show (r1 = 0 → (Q (some (.int (-1 : Int32))) h)) ∧ (¬ r1 = 0 → (qm_PW X 141 [.long (Int32.toInt64 c), .long 0, .long 10] h _))
  refine ⟨fun c3 => ?_, fun c4 => ?_⟩
  · have := p2.2.2 c3
    exact hq (-1 : Int32) h ⟨hmmi, hmsm, hmzs, hmrw, (fun k hk => rfl)⟩
  · have := p2.2.1 c4
    refine sf_141 X h ((Int32.toInt64 c) : Int64) (0 : Int64) (10 : Int64) trivial _ (fun r5 p6 => ?_)
    show (¬ r5 = 0 → (qm_PW X 169 [.ref 39] h _)) ∧ (r5 = 0 → (Q (some (.int (-1 : Int32))) h))
    refine ⟨fun c7 => ?_, fun c8 => ?_⟩
    · have := p6.2.1 c7
      refine sf_169_39 X h  hmsm _ (fun g9 p10 => ?_)
      have f11 : ∀ k, (k < 41 ∨ 41 < k) → g9 k = h k := fun k hk => (p10.2.1 k (by omega)).trans (rfl)
      have k12 : mi g9 := by unfold mi; rw [p10.2.1 39 (by omega)]; exact hmmi
      have k13 : sm g9 := by unfold sm; rw [p10.2.1 40 (by omega)]; exact hmsm
      have k14 : zs g9 := by unfold zs; rw [p10.2.1 49 (by omega)]; exact hmzs
      have k15 : rw_ g9 := by unfold rw_; rw [p10.2.1 46 (by omega)]; exact hmrw
      show (0 ≤ (4 : Int) ∧ (4 : Int) < 49) ∧ (qm_PA X 229 48 [(0, .ref 39), (1, .int a), (2, .int b), (3, .int c), (4, .int a), (5, .int ((1 <<< ((g9 41 4) &&& 31)) - 1)), (6, .int 0)] [] g9 Q)
      refine ⟨by decide, ?_⟩
      exact (sf_229_39_c X h a b c hp Q hq _).1 a ((1 <<< ((g9 41 4) &&& 31)) - 1) (0 : Int32) g9 ⟨(by have : (0 : Int32).toInt = 0 := rfl; have : (1 : Int64).toInt = 1 := rfl; have : (20 : Int64).toInt = 20 := rfl; have := i64 b; have : (0 : Int64).toInt = 0 := rfl; have : (10 : Int64).toInt = 10 := rfl; have := i64 c; show 0 ≤ (0 : Int32).toInt ∧ (0 : Int32).toInt ≤ 20 ∧ b.toInt ≤ 20; omega), k12, k13, k14, k15, p10.1, (fun k hk => f11 k hk)⟩ (Nat.lt_succ_self _)
    · have := p6.2.2 c8
      exact hq (-1 : Int32) h ⟨hmmi, hmsm, hmzs, hmrw, (fun k hk => rfl)⟩
