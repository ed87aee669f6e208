/-! ===== what may be written into the reference's row 40 ===== -/
/-- a place that no bound speaks of, or a value that keeps it -/
noncomputable def pv (o j : Nat) (v : Int32) : Prop := (j = o + 4 → 0 ≤ v.toInt ∧ v.toInt ≤ 10) ∧ (j = o + 36 → 0 ≤ v.toInt ∧ v.toInt ≤ 6) ∧ (∀ t : Nat, t < 10 → j = o + (6 + 3 * t) → 0 ≤ v.toInt ∧ v.toInt ≤ 39) ∧ (∀ t : Nat, t < 10 → j = o + (7 + 3 * t) → pr v) ∧ (∀ k : Nat, k < 6 → j = o + (37 + 2 * k) → pr v) ∧ ∀ t : Nat, t < 10 → j = o + (8 + 3 * t) → 0 ≤ v.toInt ∧ v.toInt ≤ 99
theorem pk_upd {f : Nat → Int32} {o j : Nat} {v : Int32} (hp : pk f o) (hv : pv o j v) : pk (upd f j v) o := by
  obtain ⟨h1, h2, h3, h4, h5⟩ := hp
  obtain ⟨v1, v2, v3, v4, v5⟩ := hv
  refine ⟨?_, ?_, fun t ht => ?_, fun t ht => ?_, fun k hk => ?_, fun t ht => ?_⟩
  · unfold upd; split
    · exact v1 (by omega)
    · exact h1
  · unfold upd; split
    · exact v2 (by omega)
    · exact h2
  · unfold upd; split
    · exact v3 t ht (by omega)
    · exact h3 t ht
  · unfold upd; split
    · exact v4 t ht (by omega)
    · exact h4 t ht
  · unfold upd; split
    · exact v5.1 k hk (by omega)
    · exact h5.1 k hk
  · unfold upd; split
    · exact v5.2 t ht (by omega)
    · exact h5.2 t ht
theorem pv_out {o j : Nat} {v : Int32} (h : j < o ∨ o + 49 ≤ j) : pv o j v := ⟨fun _ => by omega, fun _ => by omega, fun _ _ _ => by omega, fun _ _ _ => by omega, fun _ _ _ => by omega, fun _ _ _ => by omega⟩
theorem sm_pk {h : qm_H} (h0 : pk (h 40) 0) (h1 : pk (h 40) 49) (h2 : pk (h 40) 98) : sm h := ⟨⟨h0.1, h0.2.1⟩, h0, h1, h2⟩
/-- a write below 49 that keeps the state -/
theorem sm_upd {h : qm_H} (hp : sm h) {j : Nat} {v : Int32} (hj : j < 49) (hv : pv 0 j v) : sm (qm_row h 40 (upd (h 40) j v)) :=
  sm_pk (pk_upd hp.2.1 hv) (pk_upd hp.2.2.1 (pv_out (by omega))) (pk_upd hp.2.2.2 (pv_out (by omega)))
theorem pv_kind {j : Nat} {v : Int32} (hj : j < 4 ∨ j = 5) : pv 0 j v := ⟨fun _ => by omega, fun _ => by omega, fun _ _ _ => by omega, fun _ _ _ => by omega, fun _ _ _ => by omega, fun _ _ _ => by omega⟩
theorem pv_many {v : Int32} (h : 0 ≤ v.toInt ∧ v.toInt ≤ 10) : pv 0 4 v := ⟨fun _ => h, fun _ => by omega, fun _ _ _ => by omega, fun _ _ _ => by omega, fun _ _ _ => by omega, fun _ _ _ => by omega⟩
theorem pv_seen {v : Int32} (h : 0 ≤ v.toInt ∧ v.toInt ≤ 6) : pv 0 36 v := ⟨fun _ => by omega, fun _ => h, fun _ _ _ => by omega, fun _ _ _ => by omega, fun _ _ _ => by omega, fun _ _ _ => by omega⟩
theorem pv_place {t : Nat} {v : Int32} (ht : t < 10) (h : 0 ≤ v.toInt ∧ v.toInt ≤ 39) : pv 0 (6 + 3 * t) v := ⟨fun _ => by omega, fun _ => by omega, fun _ _ _ => h, fun _ _ _ => by omega, fun _ _ _ => by omega, fun _ _ _ => by omega⟩
theorem pv_pair {t : Nat} {v : Int32} (ht : t < 10) (h : pr v) : pv 0 (7 + 3 * t) v := ⟨fun _ => by omega, fun _ => by omega, fun _ _ _ => by omega, fun _ _ _ => h, fun _ _ _ => h, fun _ _ _ => by omega⟩
theorem pv_knot {t : Nat} {v : Int32} (ht : t < 10) (h : 0 ≤ v.toInt ∧ v.toInt ≤ 99) : pv 0 (8 + 3 * t) v := ⟨fun _ => by omega, fun _ => by omega, fun _ _ _ => by omega, fun _ _ _ => by omega, fun _ _ _ => by omega, fun _ _ _ => h⟩
theorem pv_saw {k : Nat} {v : Int32} (hk : k < 6) (h : pr v) : pv 0 (37 + 2 * k) v := ⟨fun _ => by omega, fun _ => by omega, fun _ _ _ => by omega, fun _ _ _ => h, fun _ _ _ => h, fun _ _ _ => by omega⟩
theorem pv_much {k : Nat} {v : Int32} (hk : k < 6) : pv 0 (38 + 2 * k) v := ⟨fun _ => by omega, fun _ => by omega, fun _ _ _ => by omega, fun _ _ _ => by omega, fun _ _ _ => by omega, fun _ _ _ => by omega⟩
-- ThreadBankModel.settles()V
set_option maxRecDepth 100000 in
set_option maxHeartbeats 4000000 in
theorem cp_170 (X : qm_X) (h : qm_H) (Q : qm_Q) (hq : ∀ h' : qm_H, ((∀ k, k ≠ 40 → h' k = h k) ∧ (∀ j : Nat, j < 49 → h' 40 j = h 41 j) ∧ ∀ j : Nat, 49 ≤ j → h' 40 j = h 40 j) → Q none h') : ∀ n : Nat, ∀ (l1 : Int32) (g : qm_H), (0 ≤ l1.toInt ∧ l1.toInt ≤ 49) → (∀ k, k ≠ 40 → g k = h k) → (∀ j : Nat, (j : Int) < l1.toInt → g 40 j = h 41 j) → (∀ j : Nat, 49 ≤ j → g 40 j = h 40 j) → (49 - l1.toInt).toNat < n → qm_PA X 170 2 [(0, .ref 39), (1, .int l1)] [] g Q := by
  intro n
  induction n with
  | zero => exact fun _ _ _ _ _ _ h0 => absurd h0 (Nat.not_lt_zero _)
  | succ n ih =>
    intro l1 g hi hf hc ho hr
    refine qm_seg_ok (C := qc_170) (rt := none) rfl rfl (cuts := [(2, [0, 1])]) 400 _ _ _ _ ?_
    show (49 ≤ l1.toInt → Q none g) ∧ (l1.toInt < 49 → (0 ≤ l1.toInt ∧ l1.toInt < 49) ∧ ((0 ≤ l1.toInt ∧ l1.toInt < 147) ∧ qm_PA X 170 2 [(0, .ref 39), (1, .int (l1 + 1))] [] (qm_row g 40 (upd (g 40) l1.toInt.toNat (g 41 l1.toInt.toNat))) Q))
    refine ⟨fun c1 => hq g ⟨hf, fun j hj => hc j (by omega), ho⟩, fun c2 => ⟨by omega, by omega, ?_⟩⟩
    have e1 := ti_addK l1 (1 : Int32) 1 rfl (by omega)
    refine ih (l1 + 1) _ (by omega) (fun k hk => ?_) (fun j hj => ?_) (fun j hj => ?_) (by omega)
    · simp only [qm_row]
      rw [if_neg hk]
      exact hf k hk
    · show upd (g 40) l1.toInt.toNat (g 41 l1.toInt.toNat) j = h 41 j
      unfold upd
      split
      · rename_i e
        rw [hf 41 (by omega), e]
      · exact hc j (by omega)
    · show upd (g 40) l1.toInt.toNat (g 41 l1.toInt.toNat) j = h 40 j
      unfold upd
      rw [if_neg (by omega)]
      exact ho j hj
-- ThreadBankModel.copiesTo(II)V
set_option maxRecDepth 100000 in
set_option maxHeartbeats 4000000 in
theorem cp_230 (X : qm_X) (h : qm_H) (a b : Int32) (hab : (0 ≤ a.toInt ∧ a.toInt ≤ 98) ∧ (0 ≤ b.toInt ∧ b.toInt ≤ 98) ∧ (a.toInt + 49 ≤ b.toInt ∨ b.toInt + 49 ≤ a.toInt)) (Q : qm_Q) (hq : ∀ h' : qm_H, ((∀ k, k ≠ 40 → h' k = h k) ∧ (∀ j : Nat, j < 49 → h' 40 (a.toInt.toNat + j) = h 40 (b.toInt.toNat + j)) ∧ ∀ j : Nat, (j < a.toInt.toNat ∨ a.toInt.toNat + 49 ≤ j) → h' 40 j = h 40 j) → Q none h') : ∀ n : Nat, ∀ (l3 : Int32) (g : qm_H), (0 ≤ l3.toInt ∧ l3.toInt ≤ 49) → (∀ k, k ≠ 40 → g k = h k) → (∀ j : Nat, (j : Int) < l3.toInt → g 40 (a.toInt.toNat + j) = h 40 (b.toInt.toNat + j)) → (∀ j : Nat, (j < a.toInt.toNat ∨ a.toInt.toNat + 49 ≤ j) → g 40 j = h 40 j) → (49 - l3.toInt).toNat < n → qm_PA X 230 2 [(0, .ref 39), (1, .int a), (2, .int b), (3, .int l3)] [] g Q := by
  intro n
  induction n with
  | zero => exact fun _ _ _ _ _ _ h0 => absurd h0 (Nat.not_lt_zero _)
  | succ n ih =>
    intro l3 g hi hf hc ho hr
    refine qm_seg_ok (C := qc_230) (rt := none) rfl rfl (cuts := [(2, [0, 1, 2, 3])]) 400 _ _ _ _ ?_
    show (49 ≤ l3.toInt → Q none g) ∧ (l3.toInt < 49 → (0 ≤ (b + l3).toInt ∧ (b + l3).toInt < 147) ∧ ((0 ≤ (a + l3).toInt ∧ (a + l3).toInt < 147) ∧ qm_PA X 230 2 [(0, .ref 39), (1, .int a), (2, .int b), (3, .int (l3 + 1))] [] (qm_row g 40 (upd (g 40) (a + l3).toInt.toNat (g 40 (b + l3).toInt.toNat))) Q))
    refine ⟨fun c1 => hq g ⟨hf, fun j hj => hc j (by omega), ho⟩, fun c2 => ?_⟩
    have e1 := ti_addK l3 (1 : Int32) 1 rfl (by omega)
    have e2 := ti_add a l3 (by omega)
    have e3 := ti_add b l3 (by omega)
    refine ⟨by omega, by omega, ?_⟩
    refine ih (l3 + 1) _ (by omega) (fun k hk => ?_) (fun j hj => ?_) (fun j hj => ?_) (by omega)
    · simp only [qm_row]
      rw [if_neg hk]
      exact hf k hk
    · show upd (g 40) (a + l3).toInt.toNat (g 40 (b + l3).toInt.toNat) (a.toInt.toNat + j) = h 40 (b.toInt.toNat + j)
      unfold upd
      split
      · rename_i e
        rw [ho _ (by omega)]
        congr 1
        omega
      · exact hc j (by omega)
    · show upd (g 40) (a + l3).toInt.toNat (g 40 (b + l3).toInt.toNat) j = h 40 j
      unfold upd
      rw [if_neg (by omega)]
      exact ho j hj
set_option maxRecDepth 100000 in
set_option maxHeartbeats 4000000 in
theorem sf_230_39 (X : qm_X) (h : qm_H) (a b : Int32) (hp : sm h ∧ ((a.toInt = 0 ∧ (b.toInt = 49 ∨ b.toInt = 98)) ∨ (b.toInt = 0 ∧ (a.toInt = 49 ∨ a.toInt = 98)))) (Q : qm_Q) (hq : ∀ h' : qm_H, (sm h' ∧ (∀ k, (k < 40 ∨ 40 < k) → h' k = h k) ∧ (∀ j : Nat, j < 49 → h' 40 (a.toInt.toNat + j) = h 40 (b.toInt.toNat + j)) ∧ ∀ j : Nat, (j < a.toInt.toNat ∨ a.toInt.toNat + 49 ≤ j) → h' 40 j = h 40 j) → Q none h') : qm_PW X 230 [.ref 39, .int a, .int b] h Q := by
  obtain ⟨hs, hab⟩ := hp
  refine qm_seg_ok (C := qc_230) (rt := none) rfl rfl (cuts := [(2, [0, 1, 2, 3])]) 400 _ _ _ _ ?_
  show qm_PA X 230 2 [(0, .ref 39), (1, .int a), (2, .int b), (3, .int 0)] [] h Q
  refine cp_230 X h a b (by omega) Q (fun h' q => hq h' ⟨?_, fun k hk => q.1 k (by omega), q.2.1, q.2.2⟩) _ 0 h (by decide) (fun _ _ => rfl) (fun j hj => absurd hj (by have : (0 : Int32).toInt = 0 := rfl; omega)) (fun _ _ => rfl) (Nat.lt_succ_self _)
  obtain ⟨-, q1, q2⟩ := q
  have pb : pk (h 40) b.toInt.toNat := by
    rcases hab with ⟨-, e | e⟩ | ⟨e, -⟩
    · rw [show b.toInt.toNat = 49 from by omega]; exact hs.2.2.1
    · rw [show b.toInt.toNat = 98 from by omega]; exact hs.2.2.2
    · rw [show b.toInt.toNat = 0 from by omega]; exact hs.2.1
  have pa : pk (h' 40) a.toInt.toNat := pk_of pb q1
  have po : ∀ o : Nat, pk (h 40) o → (o + 49 ≤ a.toInt.toNat ∨ a.toInt.toNat + 49 ≤ o) → pk (h' 40) o := fun o hk ho => pk_of hk (fun j hj => q2 _ (by omega))
  refine sm_pk ?_ ?_ ?_
  · by_cases e : a.toInt.toNat = 0
    · rw [e] at pa; exact pa
    · exact po 0 hs.2.1 (by omega)
  · by_cases e : a.toInt.toNat = 49
    · rw [e] at pa; exact pa
    · exact po 49 hs.2.2.1 (by omega)
  · by_cases e : a.toInt.toNat = 98
    · rw [e] at pa; exact pa
    · exact po 98 hs.2.2.2 (by omega)
