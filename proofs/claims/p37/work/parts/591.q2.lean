-- ThreadBankModel.read(IIII)I
set_option maxRecDepth 100000 in
set_option maxHeartbeats 4000000 in
theorem sf_236_39_c (X : qm_X) (h : qm_H) (a : Int32) (b : Int32) (c : Int32) (d : Int32) (hp : mi h ∧ sm h ∧ zs h ∧ rw_ h) (Q : qm_Q) (hq : ∀ r : Int32, ∀ h' : qm_H, (mi h' ∧ sm h' ∧ zs h' ∧ rw_ h' ∧ (∀ k, (k < 39 ∨ 50 < k) → h' k = h k)) → Q (some (.int r)) h') : ∀ n : Nat, (∀ (l5 : Int32) (l6 : Int32) (l7 : Int32) (l8 : Int32) (g : qm_H), (((0 ≤ l8.toInt ∧ l8.toInt ≤ 10) ∧ (0 ≤ l5.toInt ∧ l5.toInt ≤ 10) ∧ (0 ≤ a.toInt ∧ a.toInt ≤ 3) ∧ d.toInt ≤ 10) ∧ mi g ∧ sm g ∧ zs g ∧ rw_ g ∧ ∀ k, (k < 39 ∨ 50 < k) → g k = h k) → ((10 - l8.toInt) * 100 + 50).toNat < n → qm_PA X 236 40 [(0, .ref 39), (1, .int a), (2, .int b), (3, .int c), (4, .int d), (5, .int l5), (6, .int l6), (7, .int l7), (8, .int l8)] [] g Q) ∧ (∀ (l5 : Int32) (l6 : Int32) (l7 : Int32) (l8 : Int32) (l9 : Int32) (g : qm_H), (((0 ≤ l8.toInt ∧ l8.toInt ≤ 9) ∧ (0 ≤ l5.toInt ∧ l5.toInt ≤ 10) ∧ (0 ≤ a.toInt ∧ a.toInt ≤ 3) ∧ d.toInt ≤ 10 ∧ (0 ≤ l9.toInt ∧ l9.toInt ≤ 3) ∧ (l6.toInt = 0 → l9.toInt = 0 ∨ (0 ≤ c.toInt + 3 * l8.toInt ∧ c.toInt + 3 * l8.toInt + l9.toInt ≤ 40))) ∧ mi g ∧ sm g ∧ zs g ∧ rw_ g ∧ ∀ k, (k < 39 ∨ 50 < k) → g k = h k) → ((10 - l8.toInt) * 100 + 40 - l9.toInt).toNat < n → qm_PA X 236 55 [(0, .ref 39), (1, .int a), (2, .int b), (3, .int c), (4, .int d), (5, .int l5), (6, .int l6), (7, .int l7), (8, .int l8), (9, .int l9)] [] g Q) := by
  have hmmi : mi h := hp.1
  have ⟨⟨_, _⟩, ⟨_, _⟩, ⟨_, _⟩, ⟨_, _⟩, _, _⟩ := hmmi
  have hmsm : sm h := hp.2.1
  have ⟨⟨⟨_, _⟩, _, _⟩, _, _, _⟩ := hmsm
  have hmzs : zs h := hp.2.2.1
  have hmrw : rw_ h := hp.2.2.2
  intro n
  induction n with
  | zero => exact ⟨fun _ _ _ _ _ _ h0 => absurd h0 (Nat.not_lt_zero _), fun _ _ _ _ _ _ _ h0 => absurd h0 (Nat.not_lt_zero _)⟩
  | succ n ih =>
    refine ⟨?_, ?_⟩
    · intro l5 l6 l7 l8 g hi hr
      obtain ⟨hi0, hgmi, hgsm, hgzs, hgrw, hgf⟩ := hi
      have ⟨⟨_, _⟩, ⟨_, _⟩, ⟨_, _⟩, ⟨_, _⟩, _, _⟩ := hgmi
      have ⟨⟨⟨_, _⟩, _, _⟩, _, _, _⟩ := hgsm
      refine qm_seg_ok (C := qc_236) (rt := some .int) rfl rfl (cuts := [(40, [0, 1, 2, 3, 4, 5, 6, 7, 8]), (55, [0, 1, 2, 3, 4, 5, 6, 7, 8, 9])]) 400 _ _ _ _ ?_
      show (d.toInt ≤ l8.toInt → (Q (some (.int l7)) (qm_row g 39 (upd (g 39) 25 l6)))) ∧ (l8.toInt < d.toInt → ((¬ l6 = 0 → (Q (some (.int l7)) (qm_row g 39 (upd (g 39) 25 l6)))) ∧ (l6 = 0 → (qm_PA X 236 55 [(0, .ref 39), (1, .int a), (2, .int b), (3, .int c), (4, .int d), (5, .int l5), (6, .int l6), (7, .int l7), (8, .int l8), (9, .int 0)] [] g Q))))
      refine ⟨fun c1 => ?_, fun c2 => ?_⟩
      · exact hq l7 (qm_row g 39 (upd (g 39) 25 l6)) ⟨(by have ⟨⟨_, _⟩, ⟨_, _⟩, ⟨_, _⟩, ⟨_, _⟩, _, _⟩ := hmmi; have ⟨⟨⟨_, _⟩, _, _⟩, _, _, _⟩ := hmsm; have ⟨⟨_, _⟩, ⟨_, _⟩, ⟨_, _⟩, ⟨_, _⟩, _, _⟩ := hgmi; have ⟨⟨⟨_, _⟩, _, _⟩, _, _, _⟩ := hgsm; show (0 ≤ (g 39 3).toInt ∧ (g 39 3).toInt ≤ 4) ∧ (0 ≤ (g 39 9).toInt ∧ (g 39 9).toInt ≤ 160) ∧ (0 ≤ (g 39 19).toInt ∧ (g 39 19).toInt ≤ 4) ∧ (0 ≤ (g 39 20).toInt ∧ (g 39 20).toInt ≤ 255) ∧ (0 ≤ (g 39 11).toInt ∧ (g 39 11).toInt ≤ 160); omega), (by exact hgsm), (by exact hgzs), (by exact hgrw), (fun k hk => by simp only [qm_row]; rw [if_neg (by omega)]; exact hgf k hk)⟩
      · refine ⟨fun c3 => ?_, fun c4 => ?_⟩
        · have := ti_neK 0 rfl c3
          exact hq l7 (qm_row g 39 (upd (g 39) 25 l6)) ⟨(by have ⟨⟨_, _⟩, ⟨_, _⟩, ⟨_, _⟩, ⟨_, _⟩, _, _⟩ := hmmi; have ⟨⟨⟨_, _⟩, _, _⟩, _, _, _⟩ := hmsm; have ⟨⟨_, _⟩, ⟨_, _⟩, ⟨_, _⟩, ⟨_, _⟩, _, _⟩ := hgmi; have ⟨⟨⟨_, _⟩, _, _⟩, _, _, _⟩ := hgsm; show (0 ≤ (g 39 3).toInt ∧ (g 39 3).toInt ≤ 4) ∧ (0 ≤ (g 39 9).toInt ∧ (g 39 9).toInt ≤ 160) ∧ (0 ≤ (g 39 19).toInt ∧ (g 39 19).toInt ≤ 4) ∧ (0 ≤ (g 39 20).toInt ∧ (g 39 20).toInt ≤ 255) ∧ (0 ≤ (g 39 11).toInt ∧ (g 39 11).toInt ≤ 160); omega), (by exact hgsm), (by exact hgzs), (by exact hgrw), (fun k hk => by simp only [qm_row]; rw [if_neg (by omega)]; exact hgf k hk)⟩
        · have := ti_eqK 0 rfl c4
          exact ih.2 l5 l6 l7 l8 (0 : Int32) g ⟨(by have : (0 : Int32).toInt = 0 := rfl; show (0 ≤ l8.toInt ∧ l8.toInt ≤ 9) ∧ (0 ≤ l5.toInt ∧ l5.toInt ≤ 10) ∧ (0 ≤ a.toInt ∧ a.toInt ≤ 3) ∧ d.toInt ≤ 10 ∧ (0 ≤ (0 : Int32).toInt ∧ (0 : Int32).toInt ≤ 3) ∧ (l6.toInt = 0 → (0 : Int32).toInt = 0 ∨ (0 ≤ c.toInt + 3 * l8.toInt ∧ c.toInt + 3 * l8.toInt + (0 : Int32).toInt ≤ 40)); omega), hgmi, hgsm, hgzs, hgrw, (fun k hk => hgf k hk)⟩ (by have : (0 : Int32).toInt = 0 := rfl; show ((10 - l8.toInt) * 100 + 40 - (0 : Int32).toInt).toNat < n; omega)
    · intro l5 l6 l7 l8 l9 g hi hr
      obtain ⟨hi0, hgmi, hgsm, hgzs, hgrw, hgf⟩ := hi
      have ⟨⟨_, _⟩, ⟨_, _⟩, ⟨_, _⟩, ⟨_, _⟩, _, _⟩ := hgmi
      have ⟨⟨⟨_, _⟩, _, _⟩, _, _, _⟩ := hgsm
      have : (0 : Int64).toInt = 0 := rfl
      have := i64 c
      have := i64 (3 * l8)
      have := i64 l9
      have := ti_rng c
      have := ti_mulL (3 : Int32) 3 rfl l8 (by omega)
      have := l_add (Int32.toInt64 c) (Int32.toInt64 (3 * l8)) (by omega)
      have := l_add ((Int32.toInt64 c) + (Int32.toInt64 (3 * l8))) (Int32.toInt64 l9) (by omega)
      refine qm_seg_ok (C := qc_236) (rt := some .int) rfl rfl (cuts := [(40, [0, 1, 2, 3, 4, 5, 6, 7, 8]), (55, [0, 1, 2, 3, 4, 5, 6, 7, 8, 9])]) 400 _ _ _ _ ?_
      show (3 ≤ l9.toInt → ((¬ l6 = 0 → (qm_PA X 236 40 [(0, .ref 39), (1, .int a), (2, .int b), (3, .int c), (4, .int d), (5, .int l5), (6, .int l6), (7, .int l7), (8, .int (l8 + 1))] [] g Q)) ∧ (l6 = 0 → ((0 ≤ (((40 * a) + c) + (3 * l8)).toInt ∧ (((40 * a) + c) + (3 * l8)).toInt < 160) ∧ ((0 ≤ ((((40 * a) + c) + (3 * l8)) + 1).toInt ∧ ((((40 * a) + c) + (3 * l8)) + 1).toInt < 160) ∧ ((0 ≤ ((((40 * a) + c) + (3 * l8)) + 2).toInt ∧ ((((40 * a) + c) + (3 * l8)) + 2).toInt < 160) ∧ (qm_PW X 189 [.ref 39, .int (g 50 (((40 * a) + c) + (3 * l8)).toInt.toNat), .int (g 50 ((((40 * a) + c) + (3 * l8)) + 1).toInt.toNat), .int (g 50 ((((40 * a) + c) + (3 * l8)) + 2).toInt.toNat)] g _))))))) ∧ (l9.toInt < 3 → ((¬ l6 = 0 → ((¬ l6 = 0 → (qm_PA X 236 40 [(0, .ref 39), (1, .int a), (2, .int b), (3, .int c), (4, .int d), (5, .int l5), (6, .int l6), (7, .int l7), (8, .int (l8 + 1))] [] g Q)) ∧ (l6 = 0 → ((0 ≤ (((40 * a) + c) + (3 * l8)).toInt ∧ (((40 * a) + c) + (3 * l8)).toInt < 160) ∧ ((0 ≤ ((((40 * a) + c) + (3 * l8)) + 1).toInt ∧ ((((40 * a) + c) + (3 * l8)) + 1).toInt < 160) ∧ ((0 ≤ ((((40 * a) + c) + (3 * l8)) + 2).toInt ∧ ((((40 * a) + c) + (3 * l8)) + 2).toInt < 160) ∧ (qm_PW X 189 [.ref 39, .int (g 50 (((40 * a) + c) + (3 * l8)).toInt.toNat), .int (g 50 ((((40 * a) + c) + (3 * l8)) + 1).toInt.toNat), .int (g 50 ((((40 * a) + c) + (3 * l8)) + 2).toInt.toNat)] g _))))))) ∧ (l6 = 0 → ((0 ≤ a.toInt ∧ a.toInt < 4) ∧ ((¬ (g 48 a.toInt.toNat) = (-4 : Int32) → ((0 ≤ a.toInt ∧ a.toInt < 4) ∧ (((g 48 a.toInt.toNat) = b → (((lg_cmp (((Int32.toInt64 c) + (Int32.toInt64 (3 * l8))) + (Int32.toInt64 l9)) 0).toInt < 0 → (qm_PA X 236 55 [(0, .ref 39), (1, .int a), (2, .int b), (3, .int c), (4, .int d), (5, .int l5), (6, .int 2), (7, .int l7), (8, .int l8), (9, .int (l9 + 1))] [] g Q)) ∧ (0 ≤ (lg_cmp (((Int32.toInt64 c) + (Int32.toInt64 (3 * l8))) + (Int32.toInt64 l9)) 0).toInt → ((0 ≤ a.toInt ∧ a.toInt < 4) ∧ (((lg_cmp (((Int32.toInt64 c) + (Int32.toInt64 (3 * l8))) + (Int32.toInt64 l9)) (Int32.toInt64 (g 49 a.toInt.toNat))).toInt < 0 → (qm_PA X 236 55 [(0, .ref 39), (1, .int a), (2, .int b), (3, .int c), (4, .int d), (5, .int l5), (6, .int 0), (7, .int l7), (8, .int l8), (9, .int (l9 + 1))] [] g Q)) ∧ (0 ≤ (lg_cmp (((Int32.toInt64 c) + (Int32.toInt64 (3 * l8))) + (Int32.toInt64 l9)) (Int32.toInt64 (g 49 a.toInt.toNat))).toInt → (qm_PA X 236 55 [(0, .ref 39), (1, .int a), (2, .int b), (3, .int c), (4, .int d), (5, .int l5), (6, .int 2), (7, .int l7), (8, .int l8), (9, .int (l9 + 1))] [] g Q))))))) ∧ (¬ (g 48 a.toInt.toNat) = b → (qm_PA X 236 55 [(0, .ref 39), (1, .int a), (2, .int b), (3, .int c), (4, .int d), (5, .int l5), (6, .int 3), (7, .int l7), (8, .int l8), (9, .int (l9 + 1))] [] g Q))))) ∧ ((g 48 a.toInt.toNat) = (-4 : Int32) → (qm_PA X 236 55 [(0, .ref 39), (1, .int a), (2, .int b), (3, .int c), (4, .int d), (5, .int l5), (6, .int 1), (7, .int l7), (8, .int l8), (9, .int (l9 + 1))] [] g Q)))))))
      refine ⟨fun c1 => ?_, fun c2 => ?_⟩
      · refine ⟨fun c3 => ?_, fun c4 => ?_⟩
        · have := ti_neK 0 rfl c3
          exact ih.1 l5 l6 l7 (l8 + 1) g ⟨(by have := ti_addK l8 (1 : Int32) 1 rfl; show (0 ≤ (l8 + 1).toInt ∧ (l8 + 1).toInt ≤ 10) ∧ (0 ≤ l5.toInt ∧ l5.toInt ≤ 10) ∧ (0 ≤ a.toInt ∧ a.toInt ≤ 3) ∧ d.toInt ≤ 10; omega), hgmi, hgsm, hgzs, hgrw, (fun k hk => hgf k hk)⟩ (by have := ti_addK l8 (1 : Int32) 1 rfl; show ((10 - (l8 + 1).toInt) * 100 + 50).toNat < n; omega)
        · have := ti_eqK 0 rfl c4
          refine ⟨(by have := ti_mulL (40 : Int32) 40 rfl a; have := ti_add (40 * a) c; have := ti_mulL (3 : Int32) 3 rfl l8; have := ti_add ((40 * a) + c) (3 * l8); omega), ?_⟩
          refine ⟨(by have := ti_mulL (40 : Int32) 40 rfl a; have := ti_add (40 * a) c; have := ti_mulL (3 : Int32) 3 rfl l8; have := ti_add ((40 * a) + c) (3 * l8); have := ti_addK (((40 * a) + c) + (3 * l8)) (1 : Int32) 1 rfl; omega), ?_⟩
          refine ⟨(by have := ti_mulL (40 : Int32) 40 rfl a; have := ti_add (40 * a) c; have := ti_mulL (3 : Int32) 3 rfl l8; have := ti_add ((40 * a) + c) (3 * l8); have := ti_addK (((40 * a) + c) + (3 * l8)) (2 : Int32) 2 rfl; omega), ?_⟩
          refine sf_189_39 X g (g 50 (((40 * a) + c) + (3 * l8)).toInt.toNat) (g 50 ((((40 * a) + c) + (3 * l8)) + 1).toInt.toNat) (g 50 ((((40 * a) + c) + (3 * l8)) + 2).toInt.toNat) ⟨hgmi, hgsm, hgzs, hgrw⟩ _ (fun r5 g6 p7 => ?_)
          have f8 : ∀ k, (k < 39 ∨ 50 < k) → g6 k = h k := fun k hk => (p7.2.2.2.2 k (by omega)).trans (hgf k hk)
          show (0 ≤ r5.toInt → (qm_PA X 236 40 [(0, .ref 39), (1, .int a), (2, .int b), (3, .int c), (4, .int d), (5, .int l5), (6, .int l6), (7, .int (l7 + 1)), (8, .int (l8 + 1))] [] g6 Q)) ∧ (r5.toInt < 0 → ((0 ≤ (4 : Int) ∧ (4 : Int) < 147) ∧ (Q (some (.int ((-20 : Int32) - l8))) (qm_row g6 40 (upd (g6 40) 4 l5)))))
          refine ⟨fun c9 => ?_, fun c10 => ?_⟩
          · exact ih.1 l5 l6 (l7 + 1) (l8 + 1) g6 ⟨(by have := ti_addK l8 (1 : Int32) 1 rfl; show (0 ≤ (l8 + 1).toInt ∧ (l8 + 1).toInt ≤ 10) ∧ (0 ≤ l5.toInt ∧ l5.toInt ≤ 10) ∧ (0 ≤ a.toInt ∧ a.toInt ≤ 3) ∧ d.toInt ≤ 10; omega), p7.1, p7.2.1, p7.2.2.1, p7.2.2.2.1, (fun k hk => f8 k hk)⟩ (by have := ti_addK l8 (1 : Int32) 1 rfl; show ((10 - (l8 + 1).toInt) * 100 + 50).toNat < n; omega)
          · refine ⟨by decide, ?_⟩
            exact hq ((-20 : Int32) - l8) (qm_row g6 40 (upd (g6 40) 4 l5)) ⟨(by exact p7.1), (by exact sm_upd p7.2.1 (by decide) (pv_many (by omega))), (by exact p7.2.2.1), (by exact p7.2.2.2.1), (fun k hk => by simp only [qm_row]; rw [if_neg (by omega)]; exact f8 k hk)⟩
      · refine ⟨fun c11 => ?_, fun c12 => ?_⟩
        · have := ti_neK 0 rfl c11
          refine ⟨fun c13 => ?_, fun c14 => ?_⟩
          · have := ti_neK 0 rfl c13
            exact ih.1 l5 l6 l7 (l8 + 1) g ⟨(by have := ti_addK l8 (1 : Int32) 1 rfl; show (0 ≤ (l8 + 1).toInt ∧ (l8 + 1).toInt ≤ 10) ∧ (0 ≤ l5.toInt ∧ l5.toInt ≤ 10) ∧ (0 ≤ a.toInt ∧ a.toInt ≤ 3) ∧ d.toInt ≤ 10; omega), hgmi, hgsm, hgzs, hgrw, (fun k hk => hgf k hk)⟩ (by have := ti_addK l8 (1 : Int32) 1 rfl; show ((10 - (l8 + 1).toInt) * 100 + 50).toNat < n; omega)
          · have := ti_eqK 0 rfl c14
            refine ⟨(by have := ti_mulL (40 : Int32) 40 rfl a; have := ti_add (40 * a) c; have := ti_mulL (3 : Int32) 3 rfl l8; have := ti_add ((40 * a) + c) (3 * l8); omega), ?_⟩
            refine ⟨(by have := ti_mulL (40 : Int32) 40 rfl a; have := ti_add (40 * a) c; have := ti_mulL (3 : Int32) 3 rfl l8; have := ti_add ((40 * a) + c) (3 * l8); have := ti_addK (((40 * a) + c) + (3 * l8)) (1 : Int32) 1 rfl; omega), ?_⟩
            refine ⟨(by have := ti_mulL (40 : Int32) 40 rfl a; have := ti_add (40 * a) c; have := ti_mulL (3 : Int32) 3 rfl l8; have := ti_add ((40 * a) + c) (3 * l8); have := ti_addK (((40 * a) + c) + (3 * l8)) (2 : Int32) 2 rfl; omega), ?_⟩
            refine sf_189_39 X g (g 50 (((40 * a) + c) + (3 * l8)).toInt.toNat) (g 50 ((((40 * a) + c) + (3 * l8)) + 1).toInt.toNat) (g 50 ((((40 * a) + c) + (3 * l8)) + 2).toInt.toNat) ⟨hgmi, hgsm, hgzs, hgrw⟩ _ (fun r15 g16 p17 => ?_)
            have f18 : ∀ k, (k < 39 ∨ 50 < k) → g16 k = h k := fun k hk => (p17.2.2.2.2 k (by omega)).trans (hgf k hk)
            show (0 ≤ r15.toInt → (qm_PA X 236 40 [(0, .ref 39), (1, .int a), (2, .int b), (3, .int c), (4, .int d), (5, .int l5), (6, .int l6), (7, .int (l7 + 1)), (8, .int (l8 + 1))] [] g16 Q)) ∧ (r15.toInt < 0 → ((0 ≤ (4 : Int) ∧ (4 : Int) < 147) ∧ (Q (some (.int ((-20 : Int32) - l8))) (qm_row g16 40 (upd (g16 40) 4 l5)))))
            refine ⟨fun c19 => ?_, fun c20 => ?_⟩
            · exact ih.1 l5 l6 (l7 + 1) (l8 + 1) g16 ⟨(by have := ti_addK l8 (1 : Int32) 1 rfl; show (0 ≤ (l8 + 1).toInt ∧ (l8 + 1).toInt ≤ 10) ∧ (0 ≤ l5.toInt ∧ l5.toInt ≤ 10) ∧ (0 ≤ a.toInt ∧ a.toInt ≤ 3) ∧ d.toInt ≤ 10; omega), p17.1, p17.2.1, p17.2.2.1, p17.2.2.2.1, (fun k hk => f18 k hk)⟩ (by have := ti_addK l8 (1 : Int32) 1 rfl; show ((10 - (l8 + 1).toInt) * 100 + 50).toNat < n; omega)
            · refine ⟨by decide, ?_⟩
              exact hq ((-20 : Int32) - l8) (qm_row g16 40 (upd (g16 40) 4 l5)) ⟨(by exact p17.1), (by exact sm_upd p17.2.1 (by decide) (pv_many (by omega))), (by exact p17.2.2.1), (by exact p17.2.2.2.1), (fun k hk => by simp only [qm_row]; rw [if_neg (by omega)]; exact f18 k hk)⟩
        · have := ti_eqK 0 rfl c12
          refine ⟨(by omega), ?_⟩
          refine ⟨fun c21 => ?_, fun c22 => ?_⟩
          · have := ti_neK (-4) ti_n4 c21
            refine ⟨(by omega), ?_⟩
            refine ⟨fun c23 => ?_, fun c24 => ?_⟩
            · refine ⟨fun c25 => ?_, fun c26 => ?_⟩
              · exact ih.2 l5 (2 : Int32) l7 l8 (l9 + 1) g ⟨(by have : (2 : Int32).toInt = 2 := rfl; have := ti_addK l9 (1 : Int32) 1 rfl; have := ti_mulL (3 : Int32) 3 rfl l8; have := i64 c; have := i64 (3 * l8); have := i64 l9; have := lg_cmp_i (((Int32.toInt64 c) + (Int32.toInt64 (3 * l8))) + (Int32.toInt64 l9)) 0; show (0 ≤ l8.toInt ∧ l8.toInt ≤ 9) ∧ (0 ≤ l5.toInt ∧ l5.toInt ≤ 10) ∧ (0 ≤ a.toInt ∧ a.toInt ≤ 3) ∧ d.toInt ≤ 10 ∧ (0 ≤ (l9 + 1).toInt ∧ (l9 + 1).toInt ≤ 3) ∧ ((2 : Int32).toInt = 0 → (l9 + 1).toInt = 0 ∨ (0 ≤ c.toInt + 3 * l8.toInt ∧ c.toInt + 3 * l8.toInt + (l9 + 1).toInt ≤ 40)); omega), hgmi, hgsm, hgzs, hgrw, (fun k hk => hgf k hk)⟩ (by have := ti_addK l9 (1 : Int32) 1 rfl; have := ti_mulL (3 : Int32) 3 rfl l8; have := i64 c; have := i64 (3 * l8); have := i64 l9; have := lg_cmp_i (((Int32.toInt64 c) + (Int32.toInt64 (3 * l8))) + (Int32.toInt64 l9)) 0; show ((10 - l8.toInt) * 100 + 40 - (l9 + 1).toInt).toNat < n; omega)
              · refine ⟨(by have := ti_mulL (3 : Int32) 3 rfl l8; have := i64 c; have := i64 (3 * l8); have := i64 l9; have := lg_cmp_i (((Int32.toInt64 c) + (Int32.toInt64 (3 * l8))) + (Int32.toInt64 l9)) 0; omega), ?_⟩
                refine ⟨fun c27 => ?_, fun c28 => ?_⟩
                · exact ih.2 l5 (0 : Int32) l7 l8 (l9 + 1) g ⟨(by have := hgzs (a.toInt.toNat); have : (0 : Int32).toInt = 0 := rfl; have := ti_addK l9 (1 : Int32) 1 rfl; have := ti_mulL (3 : Int32) 3 rfl l8; have := i64 c; have := i64 (3 * l8); have := i64 l9; have := lg_cmp_i (((Int32.toInt64 c) + (Int32.toInt64 (3 * l8))) + (Int32.toInt64 l9)) 0; have := i64 (g 49 a.toInt.toNat); have := lg_cmp_i (((Int32.toInt64 c) + (Int32.toInt64 (3 * l8))) + (Int32.toInt64 l9)) (Int32.toInt64 (g 49 a.toInt.toNat)); show (0 ≤ l8.toInt ∧ l8.toInt ≤ 9) ∧ (0 ≤ l5.toInt ∧ l5.toInt ≤ 10) ∧ (0 ≤ a.toInt ∧ a.toInt ≤ 3) ∧ d.toInt ≤ 10 ∧ (0 ≤ (l9 + 1).toInt ∧ (l9 + 1).toInt ≤ 3) ∧ ((0 : Int32).toInt = 0 → (l9 + 1).toInt = 0 ∨ (0 ≤ c.toInt + 3 * l8.toInt ∧ c.toInt + 3 * l8.toInt + (l9 + 1).toInt ≤ 40)); omega), hgmi, hgsm, hgzs, hgrw, (fun k hk => hgf k hk)⟩ (by have := hgzs (a.toInt.toNat); have := ti_addK l9 (1 : Int32) 1 rfl; have := ti_mulL (3 : Int32) 3 rfl l8; have := i64 c; have := i64 (3 * l8); have := i64 l9; have := lg_cmp_i (((Int32.toInt64 c) + (Int32.toInt64 (3 * l8))) + (Int32.toInt64 l9)) 0; have := i64 (g 49 a.toInt.toNat); have := lg_cmp_i (((Int32.toInt64 c) + (Int32.toInt64 (3 * l8))) + (Int32.toInt64 l9)) (Int32.toInt64 (g 49 a.toInt.toNat)); show ((10 - l8.toInt) * 100 + 40 - (l9 + 1).toInt).toNat < n; omega)
                · exact ih.2 l5 (2 : Int32) l7 l8 (l9 + 1) g ⟨(by have := hgzs (a.toInt.toNat); have : (2 : Int32).toInt = 2 := rfl; have := ti_addK l9 (1 : Int32) 1 rfl; have := ti_mulL (3 : Int32) 3 rfl l8; have := i64 c; have := i64 (3 * l8); have := i64 l9; have := lg_cmp_i (((Int32.toInt64 c) + (Int32.toInt64 (3 * l8))) + (Int32.toInt64 l9)) 0; have := i64 (g 49 a.toInt.toNat); have := lg_cmp_i (((Int32.toInt64 c) + (Int32.toInt64 (3 * l8))) + (Int32.toInt64 l9)) (Int32.toInt64 (g 49 a.toInt.toNat)); show (0 ≤ l8.toInt ∧ l8.toInt ≤ 9) ∧ (0 ≤ l5.toInt ∧ l5.toInt ≤ 10) ∧ (0 ≤ a.toInt ∧ a.toInt ≤ 3) ∧ d.toInt ≤ 10 ∧ (0 ≤ (l9 + 1).toInt ∧ (l9 + 1).toInt ≤ 3) ∧ ((2 : Int32).toInt = 0 → (l9 + 1).toInt = 0 ∨ (0 ≤ c.toInt + 3 * l8.toInt ∧ c.toInt + 3 * l8.toInt + (l9 + 1).toInt ≤ 40)); omega), hgmi, hgsm, hgzs, hgrw, (fun k hk => hgf k hk)⟩ (by have := hgzs (a.toInt.toNat); have := ti_addK l9 (1 : Int32) 1 rfl; have := ti_mulL (3 : Int32) 3 rfl l8; have := i64 c; have := i64 (3 * l8); have := i64 l9; have := lg_cmp_i (((Int32.toInt64 c) + (Int32.toInt64 (3 * l8))) + (Int32.toInt64 l9)) 0; have := i64 (g 49 a.toInt.toNat); have := lg_cmp_i (((Int32.toInt64 c) + (Int32.toInt64 (3 * l8))) + (Int32.toInt64 l9)) (Int32.toInt64 (g 49 a.toInt.toNat)); show ((10 - l8.toInt) * 100 + 40 - (l9 + 1).toInt).toNat < n; omega)
            · exact ih.2 l5 (3 : Int32) l7 l8 (l9 + 1) g ⟨(by have : (3 : Int32).toInt = 3 := rfl; have := ti_addK l9 (1 : Int32) 1 rfl; show (0 ≤ l8.toInt ∧ l8.toInt ≤ 9) ∧ (0 ≤ l5.toInt ∧ l5.toInt ≤ 10) ∧ (0 ≤ a.toInt ∧ a.toInt ≤ 3) ∧ d.toInt ≤ 10 ∧ (0 ≤ (l9 + 1).toInt ∧ (l9 + 1).toInt ≤ 3) ∧ ((3 : Int32).toInt = 0 → (l9 + 1).toInt = 0 ∨ (0 ≤ c.toInt + 3 * l8.toInt ∧ c.toInt + 3 * l8.toInt + (l9 + 1).toInt ≤ 40)); omega), hgmi, hgsm, hgzs, hgrw, (fun k hk => hgf k hk)⟩ (by have := ti_addK l9 (1 : Int32) 1 rfl; show ((10 - l8.toInt) * 100 + 40 - (l9 + 1).toInt).toNat < n; omega)
          · have := ti_eqK (-4) ti_n4 c22
            exact ih.2 l5 (1 : Int32) l7 l8 (l9 + 1) g ⟨(by have : (1 : Int32).toInt = 1 := rfl; have := ti_addK l9 (1 : Int32) 1 rfl; show (0 ≤ l8.toInt ∧ l8.toInt ≤ 9) ∧ (0 ≤ l5.toInt ∧ l5.toInt ≤ 10) ∧ (0 ≤ a.toInt ∧ a.toInt ≤ 3) ∧ d.toInt ≤ 10 ∧ (0 ≤ (l9 + 1).toInt ∧ (l9 + 1).toInt ≤ 3) ∧ ((1 : Int32).toInt = 0 → (l9 + 1).toInt = 0 ∨ (0 ≤ c.toInt + 3 * l8.toInt ∧ c.toInt + 3 * l8.toInt + (l9 + 1).toInt ≤ 40)); omega), hgmi, hgsm, hgzs, hgrw, (fun k hk => hgf k hk)⟩ (by have := ti_addK l9 (1 : Int32) 1 rfl; show ((10 - l8.toInt) * 100 + 40 - (l9 + 1).toInt).toNat < n; omega)
set_option maxRecDepth 100000 in
set_option maxHeartbeats 4000000 in
theorem sf_236_39 (X : qm_X) (h : qm_H) (a : Int32) (b : Int32) (c : Int32) (d : Int32) (hp : mi h ∧ sm h ∧ zs h ∧ rw_ h) (Q : qm_Q) (hq : ∀ r : Int32, ∀ h' : qm_H, (mi h' ∧ sm h' ∧ zs h' ∧ rw_ h' ∧ (∀ k, (k < 39 ∨ 50 < k) → h' k = h k)) → Q (some (.int r)) h') : qm_PW X 236 [.ref 39, .int a, .int b, .int c, .int d] h Q := by
  have hmmi : mi h := hp.1
  have ⟨⟨_, _⟩, ⟨_, _⟩, ⟨_, _⟩, ⟨_, _⟩, _, _⟩ := hmmi
  have hmsm : sm h := hp.2.1
  have ⟨⟨⟨_, _⟩, _, _⟩, _, _, _⟩ := hmsm
  have hmzs : zs h := hp.2.2.1
  have hmrw : rw_ h := hp.2.2.2
  refine qm_seg_ok (C := qc_236) (rt := some .int) rfl rfl (cuts := [(40, [0, 1, 2, 3, 4, 5, 6, 7, 8]), (55, [0, 1, 2, 3, 4, 5, 6, 7, 8, 9])]) 400 _ _ _ _ ?_
  show qm_PW X 233 [.int a, .int b] h _
  refine sf_233 X h a b trivial _ (fun r1 p2 => ?_)
  show (r1 = 0 → (Q (some (.int (-1 : Int32))) h)) ∧ (¬ r1 = 0 → (qm_PW X 141 [.long (Int32.toInt64 d), .long 0, .long 10] h _))
  refine ⟨fun c3 => ?_, fun c4 => ?_⟩
  · have := ti_eqK 0 rfl c3
    exact hq (-1 : Int32) h ⟨hmmi, hmsm, hmzs, hmrw, (fun k hk => rfl)⟩
  · have := p2.2 c4
    have := ti_neK 0 rfl c4
    refine sf_141 X h ((Int32.toInt64 d) : Int64) (0 : Int64) (10 : Int64) trivial _ (fun r5 p6 => ?_)
    show (¬ r5 = 0 → ((0 ≤ (4 : Int) ∧ (4 : Int) < 147) ∧ (qm_PA X 236 40 [(0, .ref 39), (1, .int a), (2, .int b), (3, .int c), (4, .int d), (5, .int (h 40 4)), (6, .int 0), (7, .int 0), (8, .int 0)] [] h Q))) ∧ (r5 = 0 → (Q (some (.int (-1 : Int32))) h))
    refine ⟨fun c7 => ?_, fun c8 => ?_⟩
    · have := p6.2.1 c7
      have := ti_neK 0 rfl c7
      refine ⟨by decide, ?_⟩
      exact (sf_236_39_c X h a b c d hp Q hq _).1 (h 40 4) (0 : Int32) (0 : Int32) (0 : Int32) h ⟨(by have : (0 : Int32).toInt = 0 := rfl; have : (0 : Int64).toInt = 0 := rfl; have : (10 : Int64).toInt = 10 := rfl; have := i64 d; have := hmsm.1; show (0 ≤ (0 : Int32).toInt ∧ (0 : Int32).toInt ≤ 10) ∧ (0 ≤ (h 40 4).toInt ∧ (h 40 4).toInt ≤ 10) ∧ (0 ≤ a.toInt ∧ a.toInt ≤ 3) ∧ d.toInt ≤ 10; omega), hmmi, hmsm, hmzs, hmrw, (fun k hk => rfl)⟩ (Nat.lt_succ_self _)
    · have := p6.2.2 c8
      have := ti_eqK 0 rfl c8
      exact hq (-1 : Int32) h ⟨hmmi, hmsm, hmzs, hmrw, (fun k hk => rfl)⟩
