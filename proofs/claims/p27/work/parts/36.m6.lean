-- ThreadBankModel.drift(III)I
set_option maxRecDepth 100000 in
set_option maxHeartbeats 4000000 in
theorem sf_229_39_c (X : qm_X) (h : qm_H) (a : Int32) (b : Int32) (c : Int32) (hp : mi h ∧ sm h ∧ zs h ∧ rw_ h) (Q : qm_Q) (hq : ∀ r : Int32, ∀ h' : qm_H, (mi h' ∧ sm h' ∧ zs h' ∧ rw_ h' ∧ (∀ k, (k < 41 ∨ 41 < k) → h' k = h k)) → Q (some (.int r)) h') : ∀ n : Nat, (∀ (l4 : Int32) (l5 : Int32) (l6 : Int32) (g : qm_H), ((0 ≤ l6.toInt ∧ l6.toInt ≤ 20 ∧ b.toInt ≤ 20) ∧ mi g ∧ sm g ∧ zs g ∧ rw_ g ∧ am g ∧ ∀ k, (k < 41 ∨ 41 < k) → g k = h k) → ((20 - l6.toInt) * 100 + 50).toNat < n → qm_PA X 229 48 [(0, .ref 39), (1, .int a), (2, .int b), (3, .int c), (4, .int l4), (5, .int l5), (6, .int l6)] [] g Q) ∧ (∀ (l4 : Int32) (l5 : Int32) (l6 : Int32) (l7 : Int32) (l8 : Int32) (g : qm_H), ((0 ≤ l6.toInt ∧ l6.toInt ≤ 19 ∧ 0 ≤ l8.toInt ∧ l8.toInt ≤ 10 ∧ b.toInt ≤ 20) ∧ mi g ∧ sm g ∧ zs g ∧ rw_ g ∧ am g ∧ ∀ k, (k < 41 ∨ 41 < k) → g k = h k) → ((20 - l6.toInt) * 100 + 40 - l8.toInt).toNat < n → qm_PA X 229 61 [(0, .ref 39), (1, .int a), (2, .int b), (3, .int c), (4, .int l4), (5, .int l5), (6, .int l6), (7, .int l7), (8, .int l8)] [] g Q) := by
  have hmmi : mi h := hp.1
  have ⟨⟨_, _⟩, ⟨_, _⟩, ⟨_, _⟩, ⟨_, _⟩, _, _⟩ := hmmi
  have hmsm : sm h := hp.2.1
  have ⟨⟨⟨_, _⟩, _, _⟩, _, _, _⟩ := hmsm
  have hmzs : zs h := hp.2.2.1
  have hmrw : rw_ h := hp.2.2.2
  intro n
  induction n with
  | zero => exact ⟨fun _ _ _ _ _ h0 => absurd h0 (Nat.not_lt_zero _), fun _ _ _ _ _ _ _ h0 => absurd h0 (Nat.not_lt_zero _)⟩
  | succ n ih =>
    refine ⟨?_, ?_⟩
    · intro l4 l5 l6 g hi hr
      obtain ⟨hi0, hgmi, hgsm, hgzs, hgrw, hgam, hgf⟩ := hi
      have ⟨⟨_, _⟩, ⟨_, _⟩, ⟨_, _⟩, ⟨_, _⟩, _, _⟩ := hgmi
      have ⟨⟨⟨_, _⟩, _, _⟩, _, _, _⟩ := hgsm
      have ⟨⟨_, _⟩, ⟨_, _⟩, _, _, _⟩ := hgam
      refine qm_seg_ok (C := qc_229) (rt := some .int) rfl rfl (cuts := [(48, [0, 1, 2, 3, 4, 5, 6]), (61, [0, 1, 2, 3, 4, 5, 6, 7, 8])]) 400 _ _ _ _ ?_
      show (b.toInt ≤ l6.toInt → (Q (some (.int l5)) g)) ∧ (l6.toInt < b.toInt → (qm_PA X 229 61 [(0, .ref 39), (1, .int a), (2, .int b), (3, .int c), (4, .int l4), (5, .int l5), (6, .int l6), (7, .int l5), (8, .int 0)] [] g Q))
      refine ⟨fun c1 => ?_, fun c2 => ?_⟩
      · exact hq l5 g ⟨hgmi, hgsm, hgzs, hgrw, (fun k hk => hgf k hk)⟩
      · exact ih.2 l4 l5 l6 l5 (0 : Int32) g ⟨(by have : (0 : Int32).toInt = 0 := rfl; show 0 ≤ l6.toInt ∧ l6.toInt ≤ 19 ∧ 0 ≤ (0 : Int32).toInt ∧ (0 : Int32).toInt ≤ 10 ∧ b.toInt ≤ 20; omega), hgmi, hgsm, hgzs, hgrw, hgam, (fun k hk => hgf k hk)⟩ (by have : (0 : Int32).toInt = 0 := rfl; show ((20 - l6.toInt) * 100 + 40 - (0 : Int32).toInt).toNat < n; omega)
    · intro l4 l5 l6 l7 l8 g hi hr
      obtain ⟨hi0, hgmi, hgsm, hgzs, hgrw, hgam, hgf⟩ := hi
      have ⟨⟨_, _⟩, ⟨_, _⟩, ⟨_, _⟩, ⟨_, _⟩, _, _⟩ := hgmi
      have ⟨⟨⟨_, _⟩, _, _⟩, _, _, _⟩ := hgsm
      have ⟨⟨_, _⟩, ⟨_, _⟩, _, _, _⟩ := hgam
      refine qm_seg_ok (C := qc_229) (rt := some .int) rfl rfl (cuts := [(48, [0, 1, 2, 3, 4, 5, 6]), (61, [0, 1, 2, 3, 4, 5, 6, 7, 8])]) 400 _ _ _ _ ?_
      show (0 ≤ (4 : Int) ∧ (4 : Int) < 49) ∧ (((g 41 4).toInt ≤ l8.toInt → (qm_PA X 229 48 [(0, .ref 39), (1, .int a), (2, .int b), (3, .int c), (4, .int l4), (5, .int l7), (6, .int (l6 + 1))] [] g Q)) ∧ (l8.toInt < (g 41 4).toInt → ((¬ ((l5 >>> (l8 &&& 31)) &&& 1) = 1 → (qm_PA X 229 61 [(0, .ref 39), (1, .int a), (2, .int b), (3, .int c), (4, .int l4), (5, .int l5), (6, .int l6), (7, .int l7), (8, .int (l8 + 1))] [] g Q)) ∧ (((l5 >>> (l8 &&& 31)) &&& 1) = 1 → (¬ (20 : Int32) = 0 ∧ (qm_PW X 221 [.ref 39, .int l8, .int c] g _))))))
      refine ⟨by decide, ?_⟩
      refine ⟨fun c1 => ?_, fun c2 => ?_⟩
      · exact ih.1 l4 l7 (l6 + 1) g ⟨(by have := ti_addK l6 (1 : Int32) 1 rfl; show 0 ≤ (l6 + 1).toInt ∧ (l6 + 1).toInt ≤ 20 ∧ b.toInt ≤ 20; omega), hgmi, hgsm, hgzs, hgrw, hgam, (fun k hk => hgf k hk)⟩ (by have := ti_addK l6 (1 : Int32) 1 rfl; show ((20 - (l6 + 1).toInt) * 100 + 50).toNat < n; omega)
      · refine ⟨fun c3 => ?_, fun c4 => ?_⟩
        · exact ih.2 l4 l5 l6 l7 (l8 + 1) g ⟨(by have := ti_addK l8 (1 : Int32) 1 rfl; show 0 ≤ l6.toInt ∧ l6.toInt ≤ 19 ∧ 0 ≤ (l8 + 1).toInt ∧ (l8 + 1).toInt ≤ 10 ∧ b.toInt ≤ 20; omega), hgmi, hgsm, hgzs, hgrw, hgam, (fun k hk => hgf k hk)⟩ (by have := ti_addK l8 (1 : Int32) 1 rfl; show ((20 - l6.toInt) * 100 + 40 - (l8 + 1).toInt).toNat < n; omega)
        · refine ⟨by decide, ?_⟩
          refine sf_221_39 X g l8 c ⟨hgam, (by omega)⟩ _ (fun r5 p6 => ?_)
          show (r5.toInt ≤ (((((l4 * 1103515245) + 12345) >>> ((16 : Int32) &&& 31)) &&& 32767) - ((((l4 * 1103515245) + 12345) >>> ((16 : Int32) &&& 31)) &&& 32767) / 20 * 20).toInt → (qm_PA X 229 61 [(0, .ref 39), (1, .int a), (2, .int b), (3, .int c), (4, .int ((l4 * 1103515245) + 12345)), (5, .int l5), (6, .int l6), (7, .int (l7 &&& (-1 : Int32))), (8, .int (l8 + 1))] [] g Q)) ∧ ((((((l4 * 1103515245) + 12345) >>> ((16 : Int32) &&& 31)) &&& 32767) - ((((l4 * 1103515245) + 12345) >>> ((16 : Int32) &&& 31)) &&& 32767) / 20 * 20).toInt < r5.toInt → (qm_PA X 229 61 [(0, .ref 39), (1, .int a), (2, .int b), (3, .int c), (4, .int ((l4 * 1103515245) + 12345)), (5, .int l5), (6, .int l6), (7, .int (l7 &&& ((1 <<< (l8 &&& 31)) ^^^ (-1 : Int32)))), (8, .int (l8 + 1))] [] g Q))
          refine ⟨fun c7 => ?_, fun c8 => ?_⟩
          · exact ih.2 ((l4 * 1103515245) + 12345) l5 l6 (l7 &&& (-1 : Int32)) (l8 + 1) g ⟨(by have := ti_addK l8 (1 : Int32) 1 rfl; have := ti_rem (20 : Int32) 20 rfl ((((l4 * 1103515245) + 12345) >>> ((16 : Int32) &&& 31)) &&& 32767) (by decide); have := ti_mulR (1103515245 : Int32) 1103515245 rfl l4; show 0 ≤ l6.toInt ∧ l6.toInt ≤ 19 ∧ 0 ≤ (l8 + 1).toInt ∧ (l8 + 1).toInt ≤ 10 ∧ b.toInt ≤ 20; omega), hgmi, hgsm, hgzs, hgrw, hgam, (fun k hk => hgf k hk)⟩ (by have := ti_addK l8 (1 : Int32) 1 rfl; have := ti_rem (20 : Int32) 20 rfl ((((l4 * 1103515245) + 12345) >>> ((16 : Int32) &&& 31)) &&& 32767) (by decide); have := ti_mulR (1103515245 : Int32) 1103515245 rfl l4; show ((20 - l6.toInt) * 100 + 40 - (l8 + 1).toInt).toNat < n; omega)
          · exact ih.2 ((l4 * 1103515245) + 12345) l5 l6 (l7 &&& ((1 <<< (l8 &&& 31)) ^^^ (-1 : Int32))) (l8 + 1) g ⟨(by have := ti_addK l8 (1 : Int32) 1 rfl; have := ti_rem (20 : Int32) 20 rfl ((((l4 * 1103515245) + 12345) >>> ((16 : Int32) &&& 31)) &&& 32767) (by decide); have := ti_mulR (1103515245 : Int32) 1103515245 rfl l4; show 0 ≤ l6.toInt ∧ l6.toInt ≤ 19 ∧ 0 ≤ (l8 + 1).toInt ∧ (l8 + 1).toInt ≤ 10 ∧ b.toInt ≤ 20; omega), hgmi, hgsm, hgzs, hgrw, hgam, (fun k hk => hgf k hk)⟩ (by have := ti_addK l8 (1 : Int32) 1 rfl; have := ti_rem (20 : Int32) 20 rfl ((((l4 * 1103515245) + 12345) >>> ((16 : Int32) &&& 31)) &&& 32767) (by decide); have := ti_mulR (1103515245 : Int32) 1103515245 rfl l4; show ((20 - l6.toInt) * 100 + 40 - (l8 + 1).toInt).toNat < n; omega)
set_option maxRecDepth 100000 in
set_option maxHeartbeats 4000000 in
theorem sf_229_39 (X : qm_X) (h : qm_H) (a : Int32) (b : Int32) (c : Int32) (hp : mi h ∧ sm h ∧ zs h ∧ rw_ h) (Q : qm_Q) (hq : ∀ r : Int32, ∀ h' : qm_H, (mi h' ∧ sm h' ∧ zs h' ∧ rw_ h' ∧ (∀ k, (k < 41 ∨ 41 < k) → h' k = h k)) → Q (some (.int r)) h') : qm_PW X 229 [.ref 39, .int a, .int b, .int c] h Q := by
  have hmmi : mi h := hp.1
  have ⟨⟨_, _⟩, ⟨_, _⟩, ⟨_, _⟩, ⟨_, _⟩, _, _⟩ := hmmi
  have hmsm : sm h := hp.2.1
  have ⟨⟨⟨_, _⟩, _, _⟩, _, _, _⟩ := hmsm
  have hmzs : zs h := hp.2.2.1
  have hmrw : rw_ h := hp.2.2.2
  refine qm_seg_ok (C := qc_229) (rt := some .int) rfl rfl (cuts := [(48, [0, 1, 2, 3, 4, 5, 6]), (61, [0, 1, 2, 3, 4, 5, 6, 7, 8])]) 400 _ _ _ _ ?_
  show qm_PW X 141 [.long (Int32.toInt64 b), .long 1, .long 20] h _
  refine sf_141 X h ((Int32.toInt64 b) : Int64) (1 : Int64) (20 : Int64) trivial _ (fun r1 p2 => ?_)
  show (r1 = 0 → (Q (some (.int (-1 : Int32))) h)) ∧ (¬ r1 = 0 → (qm_PW X 141 [.long (Int32.toInt64 c), .long 0, .long 10] h _))
  refine ⟨fun c3 => ?_, fun c4 => ?_⟩
  · have := p2.2.2 c3
    exact hq (-1 : Int32) h ⟨hmmi, hmsm, hmzs, hmrw, (fun k hk => rfl)⟩
  · have := p2.2.1 c4
    refine sf_141 X h ((Int32.toInt64 c) : Int64) (0 : Int64) (10 : Int64) trivial _ (fun r5 p6 => ?_)
    show (¬ r5 = 0 → (qm_PW X 169 [.ref 39] h _)) ∧ (r5 = 0 → (Q (some (.int (-1 : Int32))) h))
    refine ⟨fun c7 => ?_, fun c8 => ?_⟩
    · have := p6.2.1 c7
      refine sf_169_39 X h  hmsm _ (fun g9 p10 => ?_)
      have f11 : ∀ k, (k < 41 ∨ 41 < k) → g9 k = h k := fun k hk => (p10.2.1 k (by omega)).trans (rfl)
      have k12 : mi g9 := by unfold mi; rw [p10.2.1 39 (by omega)]; exact hmmi
      have k13 : sm g9 := by unfold sm; rw [p10.2.1 40 (by omega)]; exact hmsm
      have k14 : zs g9 := by unfold zs; rw [p10.2.1 49 (by omega)]; exact hmzs
      have k15 : rw_ g9 := by unfold rw_; rw [p10.2.1 46 (by omega)]; exact hmrw
      show (0 ≤ (4 : Int) ∧ (4 : Int) < 49) ∧ (qm_PA X 229 48 [(0, .ref 39), (1, .int a), (2, .int b), (3, .int c), (4, .int a), (5, .int ((1 <<< ((g9 41 4) &&& 31)) - 1)), (6, .int 0)] [] g9 Q)
      refine ⟨by decide, ?_⟩
      exact (sf_229_39_c X h a b c hp Q hq _).1 a ((1 <<< ((g9 41 4) &&& 31)) - 1) (0 : Int32) g9 ⟨(by have : (0 : Int32).toInt = 0 := rfl; have : (1 : Int64).toInt = 1 := rfl; have : (20 : Int64).toInt = 20 := rfl; have := i64 b; have : (0 : Int64).toInt = 0 := rfl; have : (10 : Int64).toInt = 10 := rfl; have := i64 c; show 0 ≤ (0 : Int32).toInt ∧ (0 : Int32).toInt ≤ 20 ∧ b.toInt ≤ 20; omega), k12, k13, k14, k15, p10.1, (fun k hk => f11 k hk)⟩ (Nat.lt_succ_self _)
    · have := p6.2.2 c8
      exact hq (-1 : Int32) h ⟨hmmi, hmsm, hmzs, hmrw, (fun k hk => rfl)⟩
/-! ===== what may be written into the reference's row 40 ===== -/
/-- a place that no bound speaks of, or a value that keeps it -/
noncomputable def pv (o j : Nat) (v : Int32) : Prop := (j = o + 4 → 0 ≤ v.toInt ∧ v.toInt ≤ 10) ∧ (j = o + 36 → 0 ≤ v.toInt ∧ v.toInt ≤ 6) ∧ (∀ t : Nat, t < 10 → j = o + (6 + 3 * t) → 0 ≤ v.toInt ∧ v.toInt ≤ 39) ∧ (∀ t : Nat, t < 10 → j = o + (7 + 3 * t) → pr v) ∧ (∀ k : Nat, k < 6 → j = o + (37 + 2 * k) → pr v) ∧ ∀ t : Nat, t < 10 → j = o + (8 + 3 * t) → 0 ≤ v.toInt ∧ v.toInt ≤ 99
theorem pk_upd {f : Nat → Int32} {o j : Nat} {v : Int32} (hp : pk f o) (hv : pv o j v) : pk (upd f j v) o := by
  obtain ⟨h1, h2, h3, h4, h5⟩ := hp
  obtain ⟨v1, v2, v3, v4, v5⟩ := hv
  refine ⟨?_, ?_, fun t ht => ?_, fun t ht => ?_, fun k hk => ?_, fun t ht => ?_⟩
  · unfold upd; split
    · exact v1 (by omega)
    · exact h1
  · unfold upd; split
    · exact v2 (by omega)
    · exact h2
  · unfold upd; split
    · exact v3 t ht (by omega)
    · exact h3 t ht
  · unfold upd; split
    · exact v4 t ht (by omega)
    · exact h4 t ht
  · unfold upd; split
    · exact v5.1 k hk (by omega)
    · exact h5.1 k hk
  · unfold upd; split
    · exact v5.2 t ht (by omega)
    · exact h5.2 t ht
theorem pv_out {o j : Nat} {v : Int32} (h : j < o ∨ o + 49 ≤ j) : pv o j v := ⟨fun _ => by omega, fun _ => by omega, fun _ _ _ => by omega, fun _ _ _ => by omega, fun _ _ _ => by omega, fun _ _ _ => by omega⟩
theorem sm_pk {h : qm_H} (h0 : pk (h 40) 0) (h1 : pk (h 40) 49) (h2 : pk (h 40) 98) : sm h := ⟨⟨h0.1, h0.2.1⟩, h0, h1, h2⟩
/-- a write below 49 that keeps the state -/
theorem sm_upd {h : qm_H} (hp : sm h) {j : Nat} {v : Int32} (hj : j < 49) (hv : pv 0 j v) : sm (qm_row h 40 (upd (h 40) j v)) :=
  sm_pk (pk_upd hp.2.1 hv) (pk_upd hp.2.2.1 (pv_out (by omega))) (pk_upd hp.2.2.2 (pv_out (by omega)))
theorem pv_kind {j : Nat} {v : Int32} (hj : j < 4 ∨ j = 5) : pv 0 j v := ⟨fun _ => by omega, fun _ => by omega, fun _ _ _ => by omega, fun _ _ _ => by omega, fun _ _ _ => by omega, fun _ _ _ => by omega⟩
theorem pv_many {v : Int32} (h : 0 ≤ v.toInt ∧ v.toInt ≤ 10) : pv 0 4 v := ⟨fun _ => h, fun _ => by omega, fun _ _ _ => by omega, fun _ _ _ => by omega, fun _ _ _ => by omega, fun _ _ _ => by omega⟩
theorem pv_seen {v : Int32} (h : 0 ≤ v.toInt ∧ v.toInt ≤ 6) : pv 0 36 v := ⟨fun _ => by omega, fun _ => h, fun _ _ _ => by omega, fun _ _ _ => by omega, fun _ _ _ => by omega, fun _ _ _ => by omega⟩
theorem pv_place {t : Nat} {v : Int32} (ht : t < 10) (h : 0 ≤ v.toInt ∧ v.toInt ≤ 39) : pv 0 (6 + 3 * t) v := ⟨fun _ => by omega, fun _ => by omega, fun _ _ _ => h, fun _ _ _ => by omega, fun _ _ _ => by omega, fun _ _ _ => by omega⟩
theorem pv_pair {t : Nat} {v : Int32} (ht : t < 10) (h : pr v) : pv 0 (7 + 3 * t) v := ⟨fun _ => by omega, fun _ => by omega, fun _ _ _ => by omega, fun _ _ _ => h, fun _ _ _ => h, fun _ _ _ => by omega⟩
theorem pv_knot {t : Nat} {v : Int32} (ht : t < 10) (h : 0 ≤ v.toInt ∧ v.toInt ≤ 99) : pv 0 (8 + 3 * t) v := ⟨fun _ => by omega, fun _ => by omega, fun _ _ _ => by omega, fun _ _ _ => by omega, fun _ _ _ => by omega, fun _ _ _ => h⟩
theorem pv_saw {k : Nat} {v : Int32} (hk : k < 6) (h : pr v) : pv 0 (37 + 2 * k) v := ⟨fun _ => by omega, fun _ => by omega, fun _ _ _ => by omega, fun _ _ _ => h, fun _ _ _ => h, fun _ _ _ => by omega⟩
theorem pv_much {k : Nat} {v : Int32} (hk : k < 6) : pv 0 (38 + 2 * k) v := ⟨fun _ => by omega, fun _ => by omega, fun _ _ _ => by omega, fun _ _ _ => by omega, fun _ _ _ => by omega, fun _ _ _ => by omega⟩
-- ThreadBankModel.settles()V
set_option maxRecDepth 100000 in
set_option maxHeartbeats 4000000 in
theorem cp_170 (X : qm_X) (h : qm_H) (Q : qm_Q) (hq : ∀ h' : qm_H, ((∀ k, k ≠ 40 → h' k = h k) ∧ (∀ j : Nat, j < 49 → h' 40 j = h 41 j) ∧ ∀ j : Nat, 49 ≤ j → h' 40 j = h 40 j) → Q none h') : ∀ n : Nat, ∀ (l1 : Int32) (g : qm_H), (0 ≤ l1.toInt ∧ l1.toInt ≤ 49) → (∀ k, k ≠ 40 → g k = h k) → (∀ j : Nat, (j : Int) < l1.toInt → g 40 j = h 41 j) → (∀ j : Nat, 49 ≤ j → g 40 j = h 40 j) → (49 - l1.toInt).toNat < n → qm_PA X 170 2 [(0, .ref 39), (1, .int l1)] [] g Q := by
  intro n
  induction n with
  | zero => exact fun _ _ _ _ _ _ h0 => absurd h0 (Nat.not_lt_zero _)
  | succ n ih =>
    intro l1 g hi hf hc ho hr
    refine qm_seg_ok (C := qc_170) (rt := none) rfl rfl (cuts := [(2, [0, 1])]) 400 _ _ _ _ ?_
    show (49 ≤ l1.toInt → Q none g) ∧ (l1.toInt < 49 → (0 ≤ l1.toInt ∧ l1.toInt < 49) ∧ ((0 ≤ l1.toInt ∧ l1.toInt < 147) ∧ qm_PA X 170 2 [(0, .ref 39), (1, .int (l1 + 1))] [] (qm_row g 40 (upd (g 40) l1.toInt.toNat (g 41 l1.toInt.toNat))) Q))
    refine ⟨fun c1 => hq g ⟨hf, fun j hj => hc j (by omega), ho⟩, fun c2 => ⟨by omega, by omega, ?_⟩⟩
    have e1 := ti_addK l1 (1 : Int32) 1 rfl (by omega)
    refine ih (l1 + 1) _ (by omega) (fun k hk => ?_) (fun j hj => ?_) (fun j hj => ?_) (by omega)
    · simp only [qm_row]
      rw [if_neg hk]
      exact hf k hk
    · show upd (g 40) l1.toInt.toNat (g 41 l1.toInt.toNat) j = h 41 j
      unfold upd
      split
      · rename_i e
        rw [hf 41 (by omega), e]
      · exact hc j (by omega)
    · show upd (g 40) l1.toInt.toNat (g 41 l1.toInt.toNat) j = h 40 j
      unfold upd
      rw [if_neg (by omega)]
      exact ho j hj
-- ThreadBankModel.copiesTo(II)V
set_option maxRecDepth 100000 in
set_option maxHeartbeats 4000000 in
theorem cp_230 (X : qm_X) (h : qm_H) (a b : Int32) (hab : (0 ≤ a.toInt ∧ a.toInt ≤ 98) ∧ (0 ≤ b.toInt ∧ b.toInt ≤ 98) ∧ (a.toInt + 49 ≤ b.toInt ∨ b.toInt + 49 ≤ a.toInt)) (Q : qm_Q) (hq : ∀ h' : qm_H, ((∀ k, k ≠ 40 → h' k = h k) ∧ (∀ j : Nat, j < 49 → h' 40 (a.toInt.toNat + j) = h 40 (b.toInt.toNat + j)) ∧ ∀ j : Nat, (j < a.toInt.toNat ∨ a.toInt.toNat + 49 ≤ j) → h' 40 j = h 40 j) → Q none h') : ∀ n : Nat, ∀ (l3 : Int32) (g : qm_H), (0 ≤ l3.toInt ∧ l3.toInt ≤ 49) → (∀ k, k ≠ 40 → g k = h k) → (∀ j : Nat, (j : Int) < l3.toInt → g 40 (a.toInt.toNat + j) = h 40 (b.toInt.toNat + j)) → (∀ j : Nat, (j < a.toInt.toNat ∨ a.toInt.toNat + 49 ≤ j) → g 40 j = h 40 j) → (49 - l3.toInt).toNat < n → qm_PA X 230 2 [(0, .ref 39), (1, .int a), (2, .int b), (3, .int l3)] [] g Q := by
  intro n
  induction n with
  | zero => exact fun _ _ _ _ _ _ h0 => absurd h0 (Nat.not_lt_zero _)
  | succ n ih =>
    intro l3 g hi hf hc ho hr
    refine qm_seg_ok (C := qc_230) (rt := none) rfl rfl (cuts := [(2, [0, 1, 2, 3])]) 400 _ _ _ _ ?_
    show (49 ≤ l3.toInt → Q none g) ∧ (l3.toInt < 49 → (0 ≤ (b + l3).toInt ∧ (b + l3).toInt < 147) ∧ ((0 ≤ (a + l3).toInt ∧ (a + l3).toInt < 147) ∧ qm_PA X 230 2 [(0, .ref 39), (1, .int a), (2, .int b), (3, .int (l3 + 1))] [] (qm_row g 40 (upd (g 40) (a + l3).toInt.toNat (g 40 (b + l3).toInt.toNat))) Q))
    refine ⟨fun c1 => hq g ⟨hf, fun j hj => hc j (by omega), ho⟩, fun c2 => ?_⟩
    have e1 := ti_addK l3 (1 : Int32) 1 rfl (by omega)
    have e2 := ti_add a l3 (by omega)
    have e3 := ti_add b l3 (by omega)
    refine ⟨by omega, by omega, ?_⟩
    refine ih (l3 + 1) _ (by omega) (fun k hk => ?_) (fun j hj => ?_) (fun j hj => ?_) (by omega)
    · simp only [qm_row]
      rw [if_neg hk]
      exact hf k hk
    · show upd (g 40) (a + l3).toInt.toNat (g 40 (b + l3).toInt.toNat) (a.toInt.toNat + j) = h 40 (b.toInt.toNat + j)
      unfold upd
      split
      · rename_i e
        rw [ho _ (by omega)]
        congr 1
        omega
      · exact hc j (by omega)
    · show upd (g 40) (a + l3).toInt.toNat (g 40 (b + l3).toInt.toNat) j = h 40 j
      unfold upd
      rw [if_neg (by omega)]
      exact ho j hj
set_option maxRecDepth 100000 in
set_option maxHeartbeats 4000000 in
theorem sf_230_39 (X : qm_X) (h : qm_H) (a b : Int32) (hp : sm h ∧ ((a.toInt = 0 ∧ (b.toInt = 49 ∨ b.toInt = 98)) ∨ (b.toInt = 0 ∧ (a.toInt = 49 ∨ a.toInt = 98)))) (Q : qm_Q) (hq : ∀ h' : qm_H, (sm h' ∧ (∀ k, (k < 40 ∨ 40 < k) → h' k = h k) ∧ (∀ j : Nat, j < 49 → h' 40 (a.toInt.toNat + j) = h 40 (b.toInt.toNat + j)) ∧ ∀ j : Nat, (j < a.toInt.toNat ∨ a.toInt.toNat + 49 ≤ j) → h' 40 j = h 40 j) → Q none h') : qm_PW X 230 [.ref 39, .int a, .int b] h Q := by
  obtain ⟨hs, hab⟩ := hp
  refine qm_seg_ok (C := qc_230) (rt := none) rfl rfl (cuts := [(2, [0, 1, 2, 3])]) 400 _ _ _ _ ?_
  show qm_PA X 230 2 [(0, .ref 39), (1, .int a), (2, .int b), (3, .int 0)] [] h Q
  refine cp_230 X h a b (by omega) Q (fun h' q => hq h' ⟨?_, fun k hk => q.1 k (by omega), q.2.1, q.2.2⟩) _ 0 h (by decide) (fun _ _ => rfl) (fun j hj => absurd hj (by have : (0 : Int32).toInt = 0 := rfl; omega)) (fun _ _ => rfl) (Nat.lt_succ_self _)
  obtain ⟨-, q1, q2⟩ := q
  have pb : pk (h 40) b.toInt.toNat := by
    rcases hab with ⟨-, e | e⟩ | ⟨e, -⟩
    · rw [show b.toInt.toNat = 49 from by omega]; exact hs.2.2.1
    · rw [show b.toInt.toNat = 98 from by omega]; exact hs.2.2.2
    · rw [show b.toInt.toNat = 0 from by omega]; exact hs.2.1
  have pa : pk (h' 40) a.toInt.toNat := pk_of pb q1
  have po : ∀ o : Nat, pk (h 40) o → (o + 49 ≤ a.toInt.toNat ∨ a.toInt.toNat + 49 ≤ o) → pk (h' 40) o := fun o hk ho => pk_of hk (fun j hj => q2 _ (by omega))
  refine sm_pk ?_ ?_ ?_
  · by_cases e : a.toInt.toNat = 0
    · rw [e] at pa; exact pa
    · exact po 0 hs.2.1 (by omega)
  · by_cases e : a.toInt.toNat = 49
    · rw [e] at pa; exact pa
    · exact po 49 hs.2.2.1 (by omega)
  · by_cases e : a.toInt.toNat = 98
    · rw [e] at pa; exact pa
    · exact po 98 hs.2.2.2 (by omega)
-- ThreadBankModel.spare(I)I
set_option maxRecDepth 100000 in
set_option maxHeartbeats 4000000 in
theorem sf_217_39_c (X : qm_X) (h : qm_H) (a : Int32) (hp : mi h ∧ sm h ∧ zs h ∧ rw_ h) (Q : qm_Q) (hq : ∀ r : Int32, ∀ h' : qm_H, (mi h' ∧ sm h' ∧ zs h' ∧ rw_ h' ∧ (∀ k, (k < 41 ∨ 41 < k) → h' k = h k)) → Q (some (.int r)) h') : ∀ n : Nat, (∀ (l2 : Int32) (l3 : Int32) (l4 : Int32) (g : qm_H), ((0 ≤ l4.toInt ∧ l4.toInt ≤ 16) ∧ mi g ∧ sm g ∧ zs g ∧ rw_ g ∧ am g ∧ ∀ k, (k < 41 ∨ 41 < k) → g k = h k) → ((16 - l4.toInt) * 100 + 50).toNat < n → qm_PA X 217 20 [(0, .ref 39), (1, .int a), (2, .int l2), (3, .int l3), (4, .int l4)] [] g Q) ∧ (∀ (l2 : Int32) (l3 : Int32) (l4 : Int32) (l5 : Int32) (l6 : Int32) (g : qm_H), ((0 ≤ l4.toInt ∧ l4.toInt ≤ 15 ∧ 0 ≤ l6.toInt ∧ l6.toInt ≤ 10) ∧ (l5 = 0 ∨ l5 = 1) ∧ mi g ∧ sm g ∧ zs g ∧ rw_ g ∧ am g ∧ ∀ k, (k < 41 ∨ 41 < k) → g k = h k) → ((16 - l4.toInt) * 100 + 40 - l6.toInt).toNat < n → qm_PA X 217 50 [(0, .ref 39), (1, .int a), (2, .int l2), (3, .int l3), (4, .int l4), (5, .int l5), (6, .int l6)] [] g Q) := by
  have hmmi : mi h := hp.1
  have ⟨⟨_, _⟩, ⟨_, _⟩, ⟨_, _⟩, ⟨_, _⟩, _, _⟩ := hmmi
  have hmsm : sm h := hp.2.1
  have ⟨⟨⟨_, _⟩, _, _⟩, _, _, _⟩ := hmsm
  have hmzs : zs h := hp.2.2.1
  have hmrw : rw_ h := hp.2.2.2
  intro n
  induction n with
  | zero => exact ⟨fun _ _ _ _ _ h0 => absurd h0 (Nat.not_lt_zero _), fun _ _ _ _ _ _ _ h0 => absurd h0 (Nat.not_lt_zero _)⟩
  | succ n ih =>
    refine ⟨?_, ?_⟩
    · intro l2 l3 l4 g hi hr
      obtain ⟨hi0, hgmi, hgsm, hgzs, hgrw, hgam, hgf⟩ := hi
      have ⟨⟨_, _⟩, ⟨_, _⟩, ⟨_, _⟩, ⟨_, _⟩, _, _⟩ := hgmi
      have ⟨⟨⟨_, _⟩, _, _⟩, _, _, _⟩ := hgsm
      have ⟨⟨_, _⟩, ⟨_, _⟩, _, _, _⟩ := hgam
      have := sh_le (g 39 3) (by omega) (by omega)
      refine qm_seg_ok (C := qc_217) (rt := some .int) rfl rfl (cuts := [(20, [0, 1, 2, 3, 4]), (50, [0, 1, 2, 3, 4, 5, 6])]) 400 _ _ _ _ ?_
      show ((1 <<< ((g 39 3) &&& 31)).toInt ≤ l4.toInt → ((¬ a = 0 → (Q (some (.int l3)) g)) ∧ (a = 0 → (Q (some (.int l2)) g)))) ∧ (l4.toInt < (1 <<< ((g 39 3) &&& 31)).toInt → (qm_PW X 207 [.int l4] g _))
      refine ⟨fun c1 => ?_, fun c2 => ?_⟩
      · refine ⟨fun c3 => ?_, fun c4 => ?_⟩
        · exact hq l3 g ⟨hgmi, hgsm, hgzs, hgrw, (fun k hk => hgf k hk)⟩
        · exact hq l2 g ⟨hgmi, hgsm, hgzs, hgrw, (fun k hk => hgf k hk)⟩
      · refine sf_207 X g l4 trivial _ (fun r5 p6 => ?_)
        show (r5.toInt ≤ l2.toInt → (qm_PA X 217 50 [(0, .ref 39), (1, .int a), (2, .int l2), (3, .int l3), (4, .int l4), (5, .int 0), (6, .int 0)] [] g Q)) ∧ (l2.toInt < r5.toInt → (qm_PA X 217 50 [(0, .ref 39), (1, .int a), (2, .int l2), (3, .int l3), (4, .int l4), (5, .int 1), (6, .int 0)] [] g Q))
        refine ⟨fun c7 => ?_, fun c8 => ?_⟩
        · exact ih.2 l2 l3 l4 (0 : Int32) (0 : Int32) g ⟨(by have : (0 : Int32).toInt = 0 := rfl; show 0 ≤ l4.toInt ∧ l4.toInt ≤ 15 ∧ 0 ≤ (0 : Int32).toInt ∧ (0 : Int32).toInt ≤ 10; omega), (Or.inl rfl), hgmi, hgsm, hgzs, hgrw, hgam, (fun k hk => hgf k hk)⟩ (by have : (0 : Int32).toInt = 0 := rfl; show ((16 - l4.toInt) * 100 + 40 - (0 : Int32).toInt).toNat < n; omega)
        · exact ih.2 l2 l3 l4 (1 : Int32) (0 : Int32) g ⟨(by have : (0 : Int32).toInt = 0 := rfl; show 0 ≤ l4.toInt ∧ l4.toInt ≤ 15 ∧ 0 ≤ (0 : Int32).toInt ∧ (0 : Int32).toInt ≤ 10; omega), (Or.inr rfl), hgmi, hgsm, hgzs, hgrw, hgam, (fun k hk => hgf k hk)⟩ (by have : (0 : Int32).toInt = 0 := rfl; show ((16 - l4.toInt) * 100 + 40 - (0 : Int32).toInt).toNat < n; omega)
    · intro l2 l3 l4 l5 l6 g hi hr
      obtain ⟨hi0, hb5, hgmi, hgsm, hgzs, hgrw, hgam, hgf⟩ := hi
      have ⟨⟨_, _⟩, ⟨_, _⟩, ⟨_, _⟩, ⟨_, _⟩, _, _⟩ := hgmi
      have ⟨⟨⟨_, _⟩, _, _⟩, _, _, _⟩ := hgsm
      have ⟨⟨_, _⟩, ⟨_, _⟩, _, _, _⟩ := hgam
      refine qm_seg_ok (C := qc_217) (rt := some .int) rfl rfl (cuts := [(20, [0, 1, 2, 3, 4]), (50, [0, 1, 2, 3, 4, 5, 6])]) 400 _ _ _ _ ?_
      show (0 ≤ (4 : Int) ∧ (4 : Int) < 49) ∧ (((g 41 4).toInt ≤ l6.toInt → ((l5 = 0 → ((l5 = 0 → (qm_PA X 217 20 [(0, .ref 39), (1, .int a), (2, .int l2), (3, .int l3), (4, .int (l4 + 1))] [] g Q)) ∧ (¬ l5 = 0 → (qm_PW X 207 [.int l4] g _)))) ∧ (¬ l5 = 0 → ((l5 = 0 → (qm_PA X 217 20 [(0, .ref 39), (1, .int a), (2, .int l2), (3, .int l4), (4, .int (l4 + 1))] [] g Q)) ∧ (¬ l5 = 0 → (qm_PW X 207 [.int l4] g _)))))) ∧ (l6.toInt < (g 41 4).toInt → ((l5 = 0 → (qm_PA X 217 50 [(0, .ref 39), (1, .int a), (2, .int l2), (3, .int l3), (4, .int l4), (5, .int 0), (6, .int (l6 + 1))] [] g Q)) ∧ (¬ l5 = 0 → (qm_PW X 212 [.ref 39, .int l6] g _)))))
      refine ⟨by decide, ?_⟩
      refine ⟨fun c1 => ?_, fun c2 => ?_⟩
      · refine ⟨fun c3 => ?_, fun c4 => ?_⟩
        · refine ⟨fun c5 => ?_, fun c6 => ?_⟩
          · exact ih.1 l2 l3 (l4 + 1) g ⟨(by have := ti_addK l4 (1 : Int32) 1 rfl; show 0 ≤ (l4 + 1).toInt ∧ (l4 + 1).toInt ≤ 16; omega), hgmi, hgsm, hgzs, hgrw, hgam, (fun k hk => hgf k hk)⟩ (by have := ti_addK l4 (1 : Int32) 1 rfl; show ((16 - (l4 + 1).toInt) * 100 + 50).toNat < n; omega)
          · refine sf_207 X g l4 trivial _ (fun r7 p8 => ?_)
            show qm_PA X 217 20 [(0, .ref 39), (1, .int a), (2, .int r7), (3, .int l3), (4, .int (l4 + 1))] [] g Q
            exact ih.1 r7 l3 (l4 + 1) g ⟨(by have := ti_addK l4 (1 : Int32) 1 rfl; show 0 ≤ (l4 + 1).toInt ∧ (l4 + 1).toInt ≤ 16; omega), hgmi, hgsm, hgzs, hgrw, hgam, (fun k hk => hgf k hk)⟩ (by have := ti_addK l4 (1 : Int32) 1 rfl; show ((16 - (l4 + 1).toInt) * 100 + 50).toNat < n; omega)
        · refine ⟨fun c9 => ?_, fun c10 => ?_⟩
          · exact ih.1 l2 l4 (l4 + 1) g ⟨(by have := ti_addK l4 (1 : Int32) 1 rfl; show 0 ≤ (l4 + 1).toInt ∧ (l4 + 1).toInt ≤ 16; omega), hgmi, hgsm, hgzs, hgrw, hgam, (fun k hk => hgf k hk)⟩ (by have := ti_addK l4 (1 : Int32) 1 rfl; show ((16 - (l4 + 1).toInt) * 100 + 50).toNat < n; omega)
          · refine sf_207 X g l4 trivial _ (fun r11 p12 => ?_)
            show qm_PA X 217 20 [(0, .ref 39), (1, .int a), (2, .int r11), (3, .int l4), (4, .int (l4 + 1))] [] g Q
            exact ih.1 r11 l4 (l4 + 1) g ⟨(by have := ti_addK l4 (1 : Int32) 1 rfl; show 0 ≤ (l4 + 1).toInt ∧ (l4 + 1).toInt ≤ 16; omega), hgmi, hgsm, hgzs, hgrw, hgam, (fun k hk => hgf k hk)⟩ (by have := ti_addK l4 (1 : Int32) 1 rfl; show ((16 - (l4 + 1).toInt) * 100 + 50).toNat < n; omega)
      · refine ⟨fun c13 => ?_, fun c14 => ?_⟩
        · exact ih.2 l2 l3 l4 (0 : Int32) (l6 + 1) g ⟨(by have := ti_addK l6 (1 : Int32) 1 rfl; show 0 ≤ l4.toInt ∧ l4.toInt ≤ 15 ∧ 0 ≤ (l6 + 1).toInt ∧ (l6 + 1).toInt ≤ 10; omega), (Or.inl rfl), hgmi, hgsm, hgzs, hgrw, hgam, (fun k hk => hgf k hk)⟩ (by have := ti_addK l6 (1 : Int32) 1 rfl; show ((16 - l4.toInt) * 100 + 40 - (l6 + 1).toInt).toNat < n; omega)
        · refine sf_212_39 X g l6 ⟨hgam, (by omega)⟩ _ (fun r15 p16 => ?_)
          show ((r15 &&& (l4 ^^^ (-1 : Int32))) = 0 → (qm_PA X 217 50 [(0, .ref 39), (1, .int a), (2, .int l2), (3, .int l3), (4, .int l4), (5, .int 0), (6, .int (l6 + 1))] [] g Q)) ∧ (¬ (r15 &&& (l4 ^^^ (-1 : Int32))) = 0 → (qm_PA X 217 50 [(0, .ref 39), (1, .int a), (2, .int l2), (3, .int l3), (4, .int l4), (5, .int 1), (6, .int (l6 + 1))] [] g Q))
          refine ⟨fun c17 => ?_, fun c18 => ?_⟩
          · exact ih.2 l2 l3 l4 (0 : Int32) (l6 + 1) g ⟨(by have := ti_addK l6 (1 : Int32) 1 rfl; show 0 ≤ l4.toInt ∧ l4.toInt ≤ 15 ∧ 0 ≤ (l6 + 1).toInt ∧ (l6 + 1).toInt ≤ 10; omega), (Or.inl rfl), hgmi, hgsm, hgzs, hgrw, hgam, (fun k hk => hgf k hk)⟩ (by have := ti_addK l6 (1 : Int32) 1 rfl; show ((16 - l4.toInt) * 100 + 40 - (l6 + 1).toInt).toNat < n; omega)
          · exact ih.2 l2 l3 l4 (1 : Int32) (l6 + 1) g ⟨(by have := ti_addK l6 (1 : Int32) 1 rfl; show 0 ≤ l4.toInt ∧ l4.toInt ≤ 15 ∧ 0 ≤ (l6 + 1).toInt ∧ (l6 + 1).toInt ≤ 10; omega), (Or.inr rfl), hgmi, hgsm, hgzs, hgrw, hgam, (fun k hk => hgf k hk)⟩ (by have := ti_addK l6 (1 : Int32) 1 rfl; show ((16 - l4.toInt) * 100 + 40 - (l6 + 1).toInt).toNat < n; omega)
set_option maxRecDepth 100000 in
set_option maxHeartbeats 4000000 in
theorem sf_217_39 (X : qm_X) (h : qm_H) (a : Int32) (hp : mi h ∧ sm h ∧ zs h ∧ rw_ h) (Q : qm_Q) (hq : ∀ r : Int32, ∀ h' : qm_H, (mi h' ∧ sm h' ∧ zs h' ∧ rw_ h' ∧ (∀ k, (k < 41 ∨ 41 < k) → h' k = h k)) → Q (some (.int r)) h') : qm_PW X 217 [.ref 39, .int a] h Q := by
  have hmmi : mi h := hp.1
  have ⟨⟨_, _⟩, ⟨_, _⟩, ⟨_, _⟩, ⟨_, _⟩, _, _⟩ := hmmi
  have hmsm : sm h := hp.2.1
  have ⟨⟨⟨_, _⟩, _, _⟩, _, _, _⟩ := hmsm
  have hmzs : zs h := hp.2.2.1
  have hmrw : rw_ h := hp.2.2.2
  refine qm_seg_ok (C := qc_217) (rt := some .int) rfl rfl (cuts := [(20, [0, 1, 2, 3, 4]), (50, [0, 1, 2, 3, 4, 5, 6])]) 400 _ _ _ _ ?_
  show qm_PW X 168 [.int a] h _
  refine sf_168 X h a trivial _ (fun r1 p2 => ?_)
  show (¬ r1 = 0 → (qm_PW X 169 [.ref 39] h _)) ∧ (r1 = 0 → (Q (some (.int (-1 : Int32))) h))
  refine ⟨fun c3 => ?_, fun c4 => ?_⟩
  · have := p2.2 c3
    refine sf_169_39 X h  hmsm _ (fun g5 p6 => ?_)
    have f7 : ∀ k, (k < 41 ∨ 41 < k) → g5 k = h k := fun k hk => (p6.2.1 k (by omega)).trans (rfl)
    have k8 : mi g5 := by unfold mi; rw [p6.2.1 39 (by omega)]; exact hmmi
    have k9 : sm g5 := by unfold sm; rw [p6.2.1 40 (by omega)]; exact hmsm
    have k10 : zs g5 := by unfold zs; rw [p6.2.1 49 (by omega)]; exact hmzs
    have k11 : rw_ g5 := by unfold rw_; rw [p6.2.1 46 (by omega)]; exact hmrw
    show qm_PA X 217 20 [(0, .ref 39), (1, .int a), (2, .int (-1 : Int32)), (3, .int 0), (4, .int 0)] [] g5 Q
    exact (sf_217_39_c X h a hp Q hq _).1 (-1 : Int32) (0 : Int32) (0 : Int32) g5 ⟨(by have : (0 : Int32).toInt = 0 := rfl; show 0 ≤ (0 : Int32).toInt ∧ (0 : Int32).toInt ≤ 16; omega), k8, k9, k10, k11, p6.1, (fun k hk => f7 k hk)⟩ (Nat.lt_succ_self _)
  · exact hq (-1 : Int32) h ⟨hmmi, hmsm, hmzs, hmrw, (fun k hk => rfl)⟩
theorem sm_saw {h : qm_H} (hp : sm h) (k : Int32) : 0 ≤ k.toInt → k.toInt ≤ 5 → (0 ≤ (h 40 (37 + (2 * k)).toInt.toNat).toInt ∧ (h 40 (37 + (2 * k)).toInt.toNat).toInt / 10 ≤ 3 ∧ (h 40 (37 + (2 * k)).toInt.toNat).toInt % 10 ≤ 3) := by
  intro h0 h1
  have e1 := ti_mulL (2 : Int32) 2 rfl k (by omega)
  have e2 := ti_addL (2 * k) (37 : Int32) 37 rfl (by omega)
  have e3 : (37 + (2 * k)).toInt.toNat = 37 + 2 * k.toInt.toNat := by omega
  rw [e3]
  have h5 := hp.2.1.2.2.2.2.1 k.toInt.toNat (by omega)
  rw [Nat.zero_add] at h5
  exact h5
theorem tie_ix {m : Int32} (hm : 0 ≤ m.toInt ∧ m.toInt ≤ 9) : ((6 + (3 * m)) + 0).toInt.toNat = 6 + 3 * m.toInt.toNat ∧ ((6 + (3 * m)) + 1).toInt.toNat = 7 + 3 * m.toInt.toNat ∧ ((6 + (3 * m)) + 2).toInt.toNat = 8 + 3 * m.toInt.toNat := by
  have e1 := ti_mulL (3 : Int32) 3 rfl m (by omega)
  have e2 := ti_addL (3 * m) (6 : Int32) 6 rfl (by omega)
  have e3 := ti_addK (6 + (3 * m)) (0 : Int32) 0 rfl (by omega)
  have e4 := ti_addK (6 + (3 * m)) (1 : Int32) 1 rfl (by omega)
  have e5 := ti_addK (6 + (3 * m)) (2 : Int32) 2 rfl (by omega)
  omega
theorem sm_tie {h : qm_H} (hp : sm h) {m a b c : Int32} (hm : 0 ≤ m.toInt ∧ m.toInt ≤ 9) (ha : 0 ≤ a.toInt ∧ a.toInt ≤ 39) (hb : pr b) (hc : 0 ≤ c.toInt ∧ c.toInt ≤ 99) : sm (qm_row (qm_row (qm_row h 40 (upd (h 40) ((6 + (3 * m)) + 0).toInt.toNat a)) 40 (upd (upd (h 40) ((6 + (3 * m)) + 0).toInt.toNat a) ((6 + (3 * m)) + 1).toInt.toNat b)) 40 (upd (upd (upd (h 40) ((6 + (3 * m)) + 0).toInt.toNat a) ((6 + (3 * m)) + 1).toInt.toNat b) ((6 + (3 * m)) + 2).toInt.toNat c)) := by
  obtain ⟨e0, e1, e2⟩ := tie_ix hm
  rw [e0, e1, e2]
  have h1 := sm_upd hp (j := 6 + 3 * m.toInt.toNat) (v := a) (by omega) (pv_place (by omega) ha)
  have h2 := sm_upd h1 (j := 7 + 3 * m.toInt.toNat) (v := b) (by omega) (pv_pair (by omega) hb)
  exact sm_upd h2 (j := 8 + 3 * m.toInt.toNat) (v := c) (by omega) (pv_knot (by omega) hc)
theorem tie_many {f : Nat → Int32} {m a b c : Int32} (hm : 0 ≤ m.toInt ∧ m.toInt ≤ 9) (hf : 0 ≤ (f 4).toInt ∧ (f 4).toInt ≤ 9) : 0 ≤ (((upd (upd (upd f ((6 + (3 * m)) + 0).toInt.toNat a) ((6 + (3 * m)) + 1).toInt.toNat b) ((6 + (3 * m)) + 2).toInt.toNat c) 4) + 1).toInt ∧ (((upd (upd (upd f ((6 + (3 * m)) + 0).toInt.toNat a) ((6 + (3 * m)) + 1).toInt.toNat b) ((6 + (3 * m)) + 2).toInt.toNat c) 4) + 1).toInt ≤ 10 := by
  obtain ⟨e0, e1, e2⟩ := tie_ix hm
  rw [e0, e1, e2]
  have e : (upd (upd (upd f (6 + 3 * m.toInt.toNat) a) (7 + 3 * m.toInt.toNat) b) (8 + 3 * m.toInt.toNat) c) 4 = f 4 := by
    unfold upd
    rw [if_neg (by omega), if_neg (by omega), if_neg (by omega)]
  rw [e]
  have := ti_addK (f 4) (1 : Int32) 1 rfl (by omega)
  omega
