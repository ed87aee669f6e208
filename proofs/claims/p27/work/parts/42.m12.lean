-- ThreadBankModel.isRow(II)Z
set_option maxRecDepth 100000 in
set_option maxHeartbeats 4000000 in
theorem sf_198_39_c (X : qm_X) (h : qm_H) (a : Int32) (b : Int32) (hp : mi h ∧ sm h ∧ zs h ∧ rw_ h ∧ (0 ≤ a.toInt ∧ 0 ≤ b.toInt ∧ b.toInt ≤ 4)) (Q : qm_Q) (hq : ∀ r : Int32, ∀ h' : qm_H, (mi h' ∧ sm h' ∧ zs h' ∧ rw_ h' ∧ (∀ k, (k < 46 ∨ 46 < k) → h' k = h k) ∧ (r = 0 ∨ r = 1)) → Q (some (.int r)) h') : ∀ n : Nat, (∀ (l3 : Int32) (l4 : Int32) (l5 : Int32) (g : qm_H), ((-1 ≤ l5.toInt ∧ l5.toInt ≤ 3 ∧ 0 ≤ l3.toInt) ∧ (l4 = 0 ∨ l4 = 1) ∧ mi g ∧ sm g ∧ zs g ∧ rw_ g ∧ ∀ k, (k < 46 ∨ 46 < k) → g k = h k) → (l5.toInt + 10001).toNat < n → qm_PA X 198 10 [(0, .ref 39), (1, .int a), (2, .int b), (3, .int l3), (4, .int l4), (5, .int l5)] [] g Q) ∧ (∀ (l3 : Int32) (l4 : Int32) (l5 : Int32) (g : qm_H), ((0 ≤ l5.toInt ∧ l5.toInt ≤ 4) ∧ (l4 = 0 ∨ l4 = 1) ∧ mi g ∧ sm g ∧ zs g ∧ rw_ g ∧ ∀ k, (k < 46 ∨ 46 < k) → g k = h k) → ((4 - l5.toInt) * 100 + 50).toNat < n → qm_PA X 198 38 [(0, .ref 39), (1, .int a), (2, .int b), (3, .int l3), (4, .int l4), (5, .int l5)] [] g Q) ∧ (∀ (l3 : Int32) (l4 : Int32) (l5 : Int32) (l6 : Int32) (g : qm_H), ((0 ≤ l5.toInt ∧ l5.toInt ≤ 3 ∧ 1 ≤ l6.toInt ∧ l6.toInt ≤ 4) ∧ (l4 = 0 ∨ l4 = 1) ∧ mi g ∧ sm g ∧ zs g ∧ rw_ g ∧ ∀ k, (k < 46 ∨ 46 < k) → g k = h k) → ((4 - l5.toInt) * 100 + 40 - l6.toInt).toNat < n → qm_PA X 198 94 [(0, .ref 39), (1, .int a), (2, .int b), (3, .int l3), (4, .int l4), (5, .int l5), (6, .int l6)] [] g Q) := by
  have hmmi : mi h := hp.1
  have ⟨⟨_, _⟩, ⟨_, _⟩, ⟨_, _⟩, ⟨_, _⟩, _, _⟩ := hmmi
  have hmsm : sm h := hp.2.1
  have ⟨⟨⟨_, _⟩, _, _⟩, _, _, _⟩ := hmsm
  have hmzs : zs h := hp.2.2.1
  have hmrw : rw_ h := hp.2.2.2.1
  have hp0 : 0 ≤ a.toInt ∧ 0 ≤ b.toInt ∧ b.toInt ≤ 4 := hp.2.2.2.2
  intro n
  induction n with
  | zero => exact ⟨fun _ _ _ _ _ h0 => absurd h0 (Nat.not_lt_zero _), fun _ _ _ _ _ h0 => absurd h0 (Nat.not_lt_zero _), fun _ _ _ _ _ _ h0 => absurd h0 (Nat.not_lt_zero _)⟩
  | succ n ih =>
    refine ⟨?_, ?_, ?_⟩
    · intro l3 l4 l5 g hi hr
      obtain ⟨hi0, hb4, hgmi, hgsm, hgzs, hgrw, hgf⟩ := hi
      have ⟨⟨_, _⟩, ⟨_, _⟩, ⟨_, _⟩, ⟨_, _⟩, _, _⟩ := hgmi
      have ⟨⟨⟨_, _⟩, _, _⟩, _, _, _⟩ := hgsm
      have := ti_rem (4 : Int32) 4 rfl l3 (by decide)
      refine qm_seg_ok (C := qc_198) (rt := some .boolean) rfl rfl (cuts := [(10, [0, 1, 2, 3, 4, 5]), (38, [0, 1, 2, 3, 4, 5]), (94, [0, 1, 2, 3, 4, 5, 6])]) 400 _ _ _ _ ?_
      show (l5.toInt < 0 → (qm_PA X 198 38 [(0, .ref 39), (1, .int a), (2, .int b), (3, .int l3), (4, .int l4), (5, .int 0)] [] g Q)) ∧ (0 ≤ l5.toInt → (¬ (4 : Int32) = 0 ∧ ((0 ≤ l5.toInt ∧ l5.toInt < 4) ∧ (¬ (4 : Int32) = 0 ∧ (qm_PA X 198 10 [(0, .ref 39), (1, .int a), (2, .int b), (3, .int (l3 / 4)), (4, .int l4), (5, .int (l5 + (-1 : Int32)))] [] (qm_row g 46 (upd (g 46) l5.toInt.toNat (l3 - l3 / 4 * 4))) Q)))))
      refine ⟨fun c1 => ?_, fun c2 => ?_⟩
      · exact ih.2.1 l3 l4 (0 : Int32) g ⟨(by have : (0 : Int32).toInt = 0 := rfl; show 0 ≤ (0 : Int32).toInt ∧ (0 : Int32).toInt ≤ 4; omega), (hb4), hgmi, hgsm, hgzs, hgrw, (fun k hk => hgf k hk)⟩ (by have : (0 : Int32).toInt = 0 := rfl; show ((4 - (0 : Int32).toInt) * 100 + 50).toNat < n; omega)
      · refine ⟨by decide, ?_⟩
        refine ⟨(by omega), ?_⟩
        refine ⟨by decide, ?_⟩
        have hz3 := ti_addK l5 (-1 : Int32) (-1) ti_n1 (by have := ti_rng l5; omega)
        revert hz3
        generalize l5 + (-1 : Int32) = z3
        intro hz3
        exact ih.1 (l3 / 4) l4 z3 (qm_row g 46 (upd (g 46) l5.toInt.toNat (l3 - l3 / 4 * 4))) ⟨(by have := ti_div (4 : Int32) 4 rfl l3 (by decide); show -1 ≤ z3.toInt ∧ z3.toInt ≤ 3 ∧ 0 ≤ (l3 / 4).toInt; omega), (hb4), (by exact hgmi), (by exact hgsm), (by exact hgzs), (by intro j; show 0 ≤ (upd _ _ _ j).toInt ∧ (upd _ _ _ j).toInt ≤ 3; unfold upd; (split <;> first | omega | exact hgrw j)), (fun k hk => by simp only [qm_row]; rw [if_neg (by omega)]; exact hgf k hk)⟩ (by show (z3.toInt + 10001).toNat < n; omega)
    · intro l3 l4 l5 g hi hr
      obtain ⟨hi0, hb4, hgmi, hgsm, hgzs, hgrw, hgf⟩ := hi
      have ⟨⟨_, _⟩, ⟨_, _⟩, ⟨_, _⟩, ⟨_, _⟩, _, _⟩ := hgmi
      have ⟨⟨⟨_, _⟩, _, _⟩, _, _, _⟩ := hgsm
      refine qm_seg_ok (C := qc_198) (rt := some .boolean) rfl rfl (cuts := [(10, [0, 1, 2, 3, 4, 5]), (38, [0, 1, 2, 3, 4, 5]), (94, [0, 1, 2, 3, 4, 5, 6])]) 400 _ _ _ _ ?_
      show (b.toInt ≤ l5.toInt → ((l4 = 0 ∨ l4 = 1) ∧ Q (some (.int l4)) g)) ∧ (l5.toInt < b.toInt → ((l4 = 0 → (qm_PA X 198 94 [(0, .ref 39), (1, .int a), (2, .int b), (3, .int l3), (4, .int 0), (5, .int l5), (6, .int 1)] [] g Q)) ∧ (¬ l4 = 0 → ((0 ≤ l5.toInt ∧ l5.toInt < 4) ∧ (((g 39 3).toInt ≤ (g 46 l5.toInt.toNat).toInt → (qm_PA X 198 94 [(0, .ref 39), (1, .int a), (2, .int b), (3, .int l3), (4, .int 0), (5, .int l5), (6, .int 1)] [] g Q)) ∧ ((g 46 l5.toInt.toNat).toInt < (g 39 3).toInt → ((l5 = 0 → (qm_PA X 198 94 [(0, .ref 39), (1, .int a), (2, .int b), (3, .int l3), (4, .int 1), (5, .int l5), (6, .int 1)] [] g Q)) ∧ (¬ l5 = 0 → ((0 ≤ l5.toInt ∧ l5.toInt < 4) ∧ ((0 ≤ (0 : Int) ∧ (0 : Int) < 4) ∧ (((g 46 l5.toInt.toNat).toInt ≤ (g 46 0).toInt → (qm_PA X 198 94 [(0, .ref 39), (1, .int a), (2, .int b), (3, .int l3), (4, .int 0), (5, .int l5), (6, .int 1)] [] g Q)) ∧ ((g 46 0).toInt < (g 46 l5.toInt.toNat).toInt → (qm_PA X 198 94 [(0, .ref 39), (1, .int a), (2, .int b), (3, .int l3), (4, .int 1), (5, .int l5), (6, .int 1)] [] g Q)))))))))))))
      refine ⟨fun c1 => ?_, fun c2 => ?_⟩
      · exact ⟨hb4, hq l4 g ⟨hgmi, hgsm, hgzs, hgrw, (fun k hk => hgf k hk), hb4⟩⟩
      · refine ⟨fun c3 => ?_, fun c4 => ?_⟩
        · exact ih.2.2 l3 (0 : Int32) l5 (1 : Int32) g ⟨(by have : (1 : Int32).toInt = 1 := rfl; show 0 ≤ l5.toInt ∧ l5.toInt ≤ 3 ∧ 1 ≤ (1 : Int32).toInt ∧ (1 : Int32).toInt ≤ 4; omega), (Or.inl rfl), hgmi, hgsm, hgzs, hgrw, (fun k hk => hgf k hk)⟩ (by have : (1 : Int32).toInt = 1 := rfl; show ((4 - l5.toInt) * 100 + 40 - (1 : Int32).toInt).toNat < n; omega)
        · refine ⟨(by omega), ?_⟩
          refine ⟨fun c5 => ?_, fun c6 => ?_⟩
          · exact ih.2.2 l3 (0 : Int32) l5 (1 : Int32) g ⟨(by have := hgrw (l5.toInt.toNat); have : (1 : Int32).toInt = 1 := rfl; show 0 ≤ l5.toInt ∧ l5.toInt ≤ 3 ∧ 1 ≤ (1 : Int32).toInt ∧ (1 : Int32).toInt ≤ 4; omega), (Or.inl rfl), hgmi, hgsm, hgzs, hgrw, (fun k hk => hgf k hk)⟩ (by have := hgrw (l5.toInt.toNat); have : (1 : Int32).toInt = 1 := rfl; show ((4 - l5.toInt) * 100 + 40 - (1 : Int32).toInt).toNat < n; omega)
          · refine ⟨fun c7 => ?_, fun c8 => ?_⟩
            · exact ih.2.2 l3 (1 : Int32) l5 (1 : Int32) g ⟨(by have := hgrw (l5.toInt.toNat); have : (1 : Int32).toInt = 1 := rfl; show 0 ≤ l5.toInt ∧ l5.toInt ≤ 3 ∧ 1 ≤ (1 : Int32).toInt ∧ (1 : Int32).toInt ≤ 4; omega), (Or.inr rfl), hgmi, hgsm, hgzs, hgrw, (fun k hk => hgf k hk)⟩ (by have := hgrw (l5.toInt.toNat); have : (1 : Int32).toInt = 1 := rfl; show ((4 - l5.toInt) * 100 + 40 - (1 : Int32).toInt).toNat < n; omega)
            · refine ⟨(by have := hgrw (l5.toInt.toNat); omega), ?_⟩
              refine ⟨by decide, ?_⟩
              refine ⟨fun c9 => ?_, fun c10 => ?_⟩
              · exact ih.2.2 l3 (0 : Int32) l5 (1 : Int32) g ⟨(by have := hgrw (l5.toInt.toNat); have := hgrw (0); have : (1 : Int32).toInt = 1 := rfl; show 0 ≤ l5.toInt ∧ l5.toInt ≤ 3 ∧ 1 ≤ (1 : Int32).toInt ∧ (1 : Int32).toInt ≤ 4; omega), (Or.inl rfl), hgmi, hgsm, hgzs, hgrw, (fun k hk => hgf k hk)⟩ (by have := hgrw (l5.toInt.toNat); have := hgrw (0); have : (1 : Int32).toInt = 1 := rfl; show ((4 - l5.toInt) * 100 + 40 - (1 : Int32).toInt).toNat < n; omega)
              · exact ih.2.2 l3 (1 : Int32) l5 (1 : Int32) g ⟨(by have := hgrw (l5.toInt.toNat); have := hgrw (0); have : (1 : Int32).toInt = 1 := rfl; show 0 ≤ l5.toInt ∧ l5.toInt ≤ 3 ∧ 1 ≤ (1 : Int32).toInt ∧ (1 : Int32).toInt ≤ 4; omega), (Or.inr rfl), hgmi, hgsm, hgzs, hgrw, (fun k hk => hgf k hk)⟩ (by have := hgrw (l5.toInt.toNat); have := hgrw (0); have : (1 : Int32).toInt = 1 := rfl; show ((4 - l5.toInt) * 100 + 40 - (1 : Int32).toInt).toNat < n; omega)
    · intro l3 l4 l5 l6 g hi hr
      obtain ⟨hi0, hb4, hgmi, hgsm, hgzs, hgrw, hgf⟩ := hi
      have ⟨⟨_, _⟩, ⟨_, _⟩, ⟨_, _⟩, ⟨_, _⟩, _, _⟩ := hgmi
      have ⟨⟨⟨_, _⟩, _, _⟩, _, _, _⟩ := hgsm
      refine qm_seg_ok (C := qc_198) (rt := some .boolean) rfl rfl (cuts := [(10, [0, 1, 2, 3, 4, 5]), (38, [0, 1, 2, 3, 4, 5]), (94, [0, 1, 2, 3, 4, 5, 6])]) 400 _ _ _ _ ?_
      show (l5.toInt ≤ l6.toInt → (qm_PA X 198 38 [(0, .ref 39), (1, .int a), (2, .int b), (3, .int l3), (4, .int l4), (5, .int (l5 + 1))] [] g Q)) ∧ (l6.toInt < l5.toInt → ((l4 = 0 → (qm_PA X 198 94 [(0, .ref 39), (1, .int a), (2, .int b), (3, .int l3), (4, .int 0), (5, .int l5), (6, .int (l6 + 1))] [] g Q)) ∧ (¬ l4 = 0 → ((0 ≤ l5.toInt ∧ l5.toInt < 4) ∧ ((0 ≤ l6.toInt ∧ l6.toInt < 4) ∧ (((g 46 l5.toInt.toNat) = (g 46 l6.toInt.toNat) → (qm_PA X 198 94 [(0, .ref 39), (1, .int a), (2, .int b), (3, .int l3), (4, .int 0), (5, .int l5), (6, .int (l6 + 1))] [] g Q)) ∧ (¬ (g 46 l5.toInt.toNat) = (g 46 l6.toInt.toNat) → (qm_PA X 198 94 [(0, .ref 39), (1, .int a), (2, .int b), (3, .int l3), (4, .int 1), (5, .int l5), (6, .int (l6 + 1))] [] g Q))))))))
      refine ⟨fun c1 => ?_, fun c2 => ?_⟩
      · exact ih.2.1 l3 l4 (l5 + 1) g ⟨(by have := ti_addK l5 (1 : Int32) 1 rfl; show 0 ≤ (l5 + 1).toInt ∧ (l5 + 1).toInt ≤ 4; omega), (hb4), hgmi, hgsm, hgzs, hgrw, (fun k hk => hgf k hk)⟩ (by have := ti_addK l5 (1 : Int32) 1 rfl; show ((4 - (l5 + 1).toInt) * 100 + 50).toNat < n; omega)
      · refine ⟨fun c3 => ?_, fun c4 => ?_⟩
        · exact ih.2.2 l3 (0 : Int32) l5 (l6 + 1) g ⟨(by have := ti_addK l6 (1 : Int32) 1 rfl; show 0 ≤ l5.toInt ∧ l5.toInt ≤ 3 ∧ 1 ≤ (l6 + 1).toInt ∧ (l6 + 1).toInt ≤ 4; omega), (Or.inl rfl), hgmi, hgsm, hgzs, hgrw, (fun k hk => hgf k hk)⟩ (by have := ti_addK l6 (1 : Int32) 1 rfl; show ((4 - l5.toInt) * 100 + 40 - (l6 + 1).toInt).toNat < n; omega)
        · refine ⟨(by omega), ?_⟩
          refine ⟨(by omega), ?_⟩
          refine ⟨fun c5 => ?_, fun c6 => ?_⟩
          · exact ih.2.2 l3 (0 : Int32) l5 (l6 + 1) g ⟨(by have := hgrw (l5.toInt.toNat); have := hgrw (l6.toInt.toNat); have := ti_addK l6 (1 : Int32) 1 rfl; show 0 ≤ l5.toInt ∧ l5.toInt ≤ 3 ∧ 1 ≤ (l6 + 1).toInt ∧ (l6 + 1).toInt ≤ 4; omega), (Or.inl rfl), hgmi, hgsm, hgzs, hgrw, (fun k hk => hgf k hk)⟩ (by have := hgrw (l5.toInt.toNat); have := hgrw (l6.toInt.toNat); have := ti_addK l6 (1 : Int32) 1 rfl; show ((4 - l5.toInt) * 100 + 40 - (l6 + 1).toInt).toNat < n; omega)
          · exact ih.2.2 l3 (1 : Int32) l5 (l6 + 1) g ⟨(by have := hgrw (l5.toInt.toNat); have := hgrw (l6.toInt.toNat); have := ti_addK l6 (1 : Int32) 1 rfl; show 0 ≤ l5.toInt ∧ l5.toInt ≤ 3 ∧ 1 ≤ (l6 + 1).toInt ∧ (l6 + 1).toInt ≤ 4; omega), (Or.inr rfl), hgmi, hgsm, hgzs, hgrw, (fun k hk => hgf k hk)⟩ (by have := hgrw (l5.toInt.toNat); have := hgrw (l6.toInt.toNat); have := ti_addK l6 (1 : Int32) 1 rfl; show ((4 - l5.toInt) * 100 + 40 - (l6 + 1).toInt).toNat < n; omega)
set_option maxRecDepth 100000 in
set_option maxHeartbeats 4000000 in
theorem sf_198_39 (X : qm_X) (h : qm_H) (a : Int32) (b : Int32) (hp : mi h ∧ sm h ∧ zs h ∧ rw_ h ∧ (0 ≤ a.toInt ∧ 0 ≤ b.toInt ∧ b.toInt ≤ 4)) (Q : qm_Q) (hq : ∀ r : Int32, ∀ h' : qm_H, (mi h' ∧ sm h' ∧ zs h' ∧ rw_ h' ∧ (∀ k, (k < 46 ∨ 46 < k) → h' k = h k) ∧ (r = 0 ∨ r = 1)) → Q (some (.int r)) h') : qm_PW X 198 [.ref 39, .int a, .int b] h Q := by
  have hmmi : mi h := hp.1
  have ⟨⟨_, _⟩, ⟨_, _⟩, ⟨_, _⟩, ⟨_, _⟩, _, _⟩ := hmmi
  have hmsm : sm h := hp.2.1
  have ⟨⟨⟨_, _⟩, _, _⟩, _, _, _⟩ := hmsm
  have hmzs : zs h := hp.2.2.1
  have hmrw : rw_ h := hp.2.2.2.1
  have hp0 : 0 ≤ a.toInt ∧ 0 ≤ b.toInt ∧ b.toInt ≤ 4 := hp.2.2.2.2
  refine qm_seg_ok (C := qc_198) (rt := some .boolean) rfl rfl (cuts := [(10, [0, 1, 2, 3, 4, 5]), (38, [0, 1, 2, 3, 4, 5]), (94, [0, 1, 2, 3, 4, 5, 6])]) 400 _ _ _ _ ?_
  show qm_PA X 198 10 [(0, .ref 39), (1, .int a), (2, .int b), (3, .int a), (4, .int 1), (5, .int (b - 1))] [] h Q
  exact (sf_198_39_c X h a b hp Q hq _).1 a (1 : Int32) (b - 1) h ⟨(by have := ti_subK b (1 : Int32) 1 rfl; show -1 ≤ (b - 1).toInt ∧ (b - 1).toInt ≤ 3 ∧ 0 ≤ a.toInt; omega), (Or.inr rfl), hmmi, hmsm, hmzs, hmrw, (fun k hk => rfl)⟩ (Nat.lt_succ_self _)
-- ThreadBankModel.leastIn(I)I
set_option maxRecDepth 100000 in
set_option maxHeartbeats 4000000 in
theorem sf_199_39_c (X : qm_X) (h : qm_H) (a : Int32) (hp : rw_ h ∧ (2 ≤ a.toInt ∧ a.toInt ≤ 4)) (Q : qm_Q) (hq : ∀ r : Int32, (True) → Q (some (.int r)) h) : ∀ n : Nat, (∀ (l2 : Int32) (l3 : Int32), (0 ≤ l3.toInt ∧ l3.toInt ≤ 4) → (4 - l3.toInt).toNat < n → qm_PA X 199 5 [(0, .ref 39), (1, .int a), (2, .int l2), (3, .int l3)] [] h Q) := by
  have hmrw : rw_ h := hp.1
  have hp0 : 2 ≤ a.toInt ∧ a.toInt ≤ 4 := hp.2
  intro n
  induction n with
  | zero => exact fun _ _ _ h0 => absurd h0 (Nat.not_lt_zero _)
  | succ n ih =>
    intro l2 l3 hi hr
    have hz : ¬ a = 0 := fun e => by rw [e] at hp0; exact absurd hp0.1 (by decide)
    have := ti_addK l3 (1 : Int32) 1 rfl (by omega)
    have := ti_remV (l3 + 1) a (by omega) (by omega)
    refine qm_seg_ok (C := qc_199) (rt := some .int) rfl rfl (cuts := [(5, [0, 1, 2, 3])]) 400 _ _ _ _ ?_
    show (a.toInt ≤ l3.toInt → (Q (some (.int l2)) h)) ∧ (l3.toInt < a.toInt → ((0 ≤ l3.toInt ∧ l3.toInt < 4) ∧ (¬ a = 0 ∧ ((0 ≤ ((l3 + 1) - (l3 + 1) / a * a).toInt ∧ ((l3 + 1) - (l3 + 1) / a * a).toInt < 4) ∧ ((0 ≤ ((4 * (h 46 l3.toInt.toNat)) + (h 46 ((l3 + 1) - (l3 + 1) / a * a).toInt.toNat)).toInt ∧ ((4 * (h 46 l3.toInt.toNat)) + (h 46 ((l3 + 1) - (l3 + 1) / a * a).toInt.toNat)).toInt < 16) ∧ ((l2.toInt ≤ (h 45 ((4 * (h 46 l3.toInt.toNat)) + (h 46 ((l3 + 1) - (l3 + 1) / a * a).toInt.toNat)).toInt.toNat).toInt → (qm_PA X 199 5 [(0, .ref 39), (1, .int a), (2, .int l2), (3, .int (l3 + 1))] [] h Q)) ∧ ((h 45 ((4 * (h 46 l3.toInt.toNat)) + (h 46 ((l3 + 1) - (l3 + 1) / a * a).toInt.toNat)).toInt.toNat).toInt < l2.toInt → (qm_PA X 199 5 [(0, .ref 39), (1, .int a), (2, .int (h 45 ((4 * (h 46 l3.toInt.toNat)) + (h 46 ((l3 + 1) - (l3 + 1) / a * a).toInt.toNat)).toInt.toNat)), (3, .int (l3 + 1))] [] h Q))))))))
    refine ⟨fun c1 => ?_, fun c2 => ?_⟩
    · exact hq l2 trivial
    · refine ⟨(by omega), ?_⟩
      refine ⟨(by assumption), ?_⟩
      refine ⟨(by have := ti_addK l3 (1 : Int32) 1 rfl; omega), ?_⟩
      refine ⟨(by have := hmrw (l3.toInt.toNat); have := hmrw (((l3 + 1) - (l3 + 1) / a * a).toInt.toNat); have := ti_mulL (4 : Int32) 4 rfl (h 46 l3.toInt.toNat); have := ti_add (4 * (h 46 l3.toInt.toNat)) (h 46 ((l3 + 1) - (l3 + 1) / a * a).toInt.toNat); have := ti_addK l3 (1 : Int32) 1 rfl; omega), ?_⟩
      refine ⟨fun c3 => ?_, fun c4 => ?_⟩
      · exact ih l2 (l3 + 1) (by have := hmrw (l3.toInt.toNat); have := hmrw (((l3 + 1) - (l3 + 1) / a * a).toInt.toNat); have := ti_addK l3 (1 : Int32) 1 rfl; have := ti_mulL (4 : Int32) 4 rfl (h 46 l3.toInt.toNat); have := ti_add (4 * (h 46 l3.toInt.toNat)) (h 46 ((l3 + 1) - (l3 + 1) / a * a).toInt.toNat); omega) (by have := hmrw (l3.toInt.toNat); have := hmrw (((l3 + 1) - (l3 + 1) / a * a).toInt.toNat); have := ti_addK l3 (1 : Int32) 1 rfl; have := ti_mulL (4 : Int32) 4 rfl (h 46 l3.toInt.toNat); have := ti_add (4 * (h 46 l3.toInt.toNat)) (h 46 ((l3 + 1) - (l3 + 1) / a * a).toInt.toNat); omega)
      · exact ih (h 45 ((4 * (h 46 l3.toInt.toNat)) + (h 46 ((l3 + 1) - (l3 + 1) / a * a).toInt.toNat)).toInt.toNat) (l3 + 1) (by have := hmrw (l3.toInt.toNat); have := hmrw (((l3 + 1) - (l3 + 1) / a * a).toInt.toNat); have := ti_addK l3 (1 : Int32) 1 rfl; have := ti_mulL (4 : Int32) 4 rfl (h 46 l3.toInt.toNat); have := ti_add (4 * (h 46 l3.toInt.toNat)) (h 46 ((l3 + 1) - (l3 + 1) / a * a).toInt.toNat); omega) (by have := hmrw (l3.toInt.toNat); have := hmrw (((l3 + 1) - (l3 + 1) / a * a).toInt.toNat); have := ti_addK l3 (1 : Int32) 1 rfl; have := ti_mulL (4 : Int32) 4 rfl (h 46 l3.toInt.toNat); have := ti_add (4 * (h 46 l3.toInt.toNat)) (h 46 ((l3 + 1) - (l3 + 1) / a * a).toInt.toNat); omega)
set_option maxRecDepth 100000 in
set_option maxHeartbeats 4000000 in
theorem sf_199_39 (X : qm_X) (h : qm_H) (a : Int32) (hp : rw_ h ∧ (2 ≤ a.toInt ∧ a.toInt ≤ 4)) (Q : qm_Q) (hq : ∀ r : Int32, (True) → Q (some (.int r)) h) : qm_PW X 199 [.ref 39, .int a] h Q := by
  have hmrw : rw_ h := hp.1
  have hp0 : 2 ≤ a.toInt ∧ a.toInt ≤ 4 := hp.2
  refine qm_seg_ok (C := qc_199) (rt := some .int) rfl rfl (cuts := [(5, [0, 1, 2, 3])]) 400 _ _ _ _ ?_
  show qm_PA X 199 5 [(0, .ref 39), (1, .int a), (2, .int 1000000), (3, .int 0)] [] h Q
  exact (sf_199_39_c X h a hp Q hq _) (1000000 : Int32) (0 : Int32) (by have : (0 : Int32).toInt = 0 := rfl; omega) (Nat.lt_succ_self _)
