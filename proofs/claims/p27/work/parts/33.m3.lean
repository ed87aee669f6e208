-- ThreadBankModel.cuts(I)V
set_option maxRecDepth 100000 in
set_option maxHeartbeats 4000000 in
theorem sf_177_39_c (X : qm_X) (h : qm_H) (a : Int32) (hp : am h) (Q : qm_Q) (hq : ∀ h' : qm_H, (am h' ∧ (∀ k, (k < 41 ∨ 41 < k) → h' k = h k)) → Q none h') : ∀ n : Nat, (∀ (l2 : Int32) (l3 : Int32) (g : qm_H), ((0 ≤ l3.toInt ∧ l3.toInt ≤ 10 ∧ 0 ≤ l2.toInt ∧ l2.toInt ≤ l3.toInt) ∧ am g ∧ ∀ k, (k < 41 ∨ 41 < k) → g k = h k) → ((10 - l3.toInt) * 100 + 50).toNat < n → qm_PA X 177 4 [(0, .ref 39), (1, .int a), (2, .int l2), (3, .int l3)] [] g Q) ∧ (∀ (l2 : Int32) (l3 : Int32) (l4 : Int32) (g : qm_H), ((0 ≤ l3.toInt ∧ l3.toInt ≤ 9 ∧ 0 ≤ l2.toInt ∧ l2.toInt ≤ l3.toInt ∧ 0 ≤ l4.toInt ∧ l4.toInt ≤ 3) ∧ am g ∧ ∀ k, (k < 41 ∨ 41 < k) → g k = h k) → ((10 - l3.toInt) * 100 + 40 - l4.toInt).toNat < n → qm_PA X 177 25 [(0, .ref 39), (1, .int a), (2, .int l2), (3, .int l3), (4, .int l4)] [] g Q) := by
  have hmam : am h := hp
  have ⟨⟨_, _⟩, ⟨_, _⟩, _, _, _⟩ := hmam
  intro n
  induction n with
  | zero => exact ⟨fun _ _ _ _ h0 => absurd h0 (Nat.not_lt_zero _), fun _ _ _ _ _ h0 => absurd h0 (Nat.not_lt_zero _)⟩
  | succ n ih =>
    refine ⟨?_, ?_⟩
    · intro l2 l3 g hi hr
      obtain ⟨hi0, hgam, hgf⟩ := hi
      have ⟨⟨_, _⟩, ⟨_, _⟩, _, _, _⟩ := hgam
      refine qm_seg_ok (C := qc_177) (rt := none) rfl rfl (cuts := [(4, [0, 1, 2, 3]), (25, [0, 1, 2, 3, 4])]) 400 _ _ _ _ ?_
      show (0 ≤ (4 : Int) ∧ (4 : Int) < 49) ∧ (((g 41 4).toInt ≤ l3.toInt → ((0 ≤ (4 : Int) ∧ (4 : Int) < 49) ∧ (Q none (qm_row g 41 (upd (g 41) 4 l2))))) ∧ (l3.toInt < (g 41 4).toInt → ((¬ ((a >>> (l3 &&& 31)) &&& 1) = 0 → (qm_PA X 177 4 [(0, .ref 39), (1, .int a), (2, .int l2), (3, .int (l3 + 1))] [] g Q)) ∧ (((a >>> (l3 &&& 31)) &&& 1) = 0 → (qm_PA X 177 25 [(0, .ref 39), (1, .int a), (2, .int l2), (3, .int l3), (4, .int 0)] [] g Q)))))
      refine ⟨by decide, ?_⟩
      refine ⟨fun c1 => ?_, fun c2 => ?_⟩
      · refine ⟨by decide, ?_⟩
        exact hq (qm_row g 41 (upd (g 41) 4 l2)) ⟨(by exact am_many hgam (by omega)), (fun k hk => by simp only [qm_row]; rw [if_neg (by omega)]; exact hgf k hk)⟩
      · refine ⟨fun c3 => ?_, fun c4 => ?_⟩
        · exact ih.1 l2 (l3 + 1) g ⟨(by have := ti_addK l3 (1 : Int32) 1 rfl; show 0 ≤ (l3 + 1).toInt ∧ (l3 + 1).toInt ≤ 10 ∧ 0 ≤ l2.toInt ∧ l2.toInt ≤ (l3 + 1).toInt; omega), hgam, (fun k hk => hgf k hk)⟩ (by have := ti_addK l3 (1 : Int32) 1 rfl; show ((10 - (l3 + 1).toInt) * 100 + 50).toNat < n; omega)
        · exact ih.2 l2 l3 (0 : Int32) g ⟨(by have : (0 : Int32).toInt = 0 := rfl; show 0 ≤ l3.toInt ∧ l3.toInt ≤ 9 ∧ 0 ≤ l2.toInt ∧ l2.toInt ≤ l3.toInt ∧ 0 ≤ (0 : Int32).toInt ∧ (0 : Int32).toInt ≤ 3; omega), hgam, (fun k hk => hgf k hk)⟩ (by have : (0 : Int32).toInt = 0 := rfl; show ((10 - l3.toInt) * 100 + 40 - (0 : Int32).toInt).toNat < n; omega)
    · intro l2 l3 l4 g hi hr
      obtain ⟨hi0, hgam, hgf⟩ := hi
      have ⟨⟨_, _⟩, ⟨_, _⟩, _, _, _⟩ := hgam
      refine qm_seg_ok (C := qc_177) (rt := none) rfl rfl (cuts := [(4, [0, 1, 2, 3]), (25, [0, 1, 2, 3, 4])]) 400 _ _ _ _ ?_
      show (3 ≤ l4.toInt → (qm_PA X 177 4 [(0, .ref 39), (1, .int a), (2, .int (l2 + 1)), (3, .int (l3 + 1))] [] g Q)) ∧ (l4.toInt < 3 → (qm_PW X 171 [.ref 39, .int l3, .int l4] g _))
      refine ⟨fun c1 => ?_, fun c2 => ?_⟩
      · exact ih.1 (l2 + 1) (l3 + 1) g ⟨(by have := ti_addK l3 (1 : Int32) 1 rfl; have := ti_addK l2 (1 : Int32) 1 rfl; show 0 ≤ (l3 + 1).toInt ∧ (l3 + 1).toInt ≤ 10 ∧ 0 ≤ (l2 + 1).toInt ∧ (l2 + 1).toInt ≤ (l3 + 1).toInt; omega), hgam, (fun k hk => hgf k hk)⟩ (by have := ti_addK l3 (1 : Int32) 1 rfl; show ((10 - (l3 + 1).toInt) * 100 + 50).toNat < n; omega)
      · refine sf_171_39 X g l3 l4 ⟨hgam, (by omega)⟩ _ (fun r3 p4 => ?_)
        show (0 ≤ ((6 + (3 * l2)) + l4).toInt ∧ ((6 + (3 * l2)) + l4).toInt < 49) ∧ (qm_PA X 177 25 [(0, .ref 39), (1, .int a), (2, .int l2), (3, .int l3), (4, .int (l4 + 1))] [] (qm_row g 41 (upd (g 41) ((6 + (3 * l2)) + l4).toInt.toNat r3)) Q)
        refine ⟨(by have := ti_mulL (3 : Int32) 3 rfl l2; have := ti_addL (3 * l2) (6 : Int32) 6 rfl; have := ti_add (6 + (3 * l2)) l4; omega), ?_⟩
        exact ih.2 l2 l3 (l4 + 1) (qm_row g 41 (upd (g 41) ((6 + (3 * l2)) + l4).toInt.toNat r3)) ⟨(by have := ti_addK l4 (1 : Int32) 1 rfl; show 0 ≤ l3.toInt ∧ l3.toInt ≤ 9 ∧ 0 ≤ l2.toInt ∧ l2.toInt ≤ l3.toInt ∧ 0 ≤ (l4 + 1).toInt ∧ (l4 + 1).toInt ≤ 3; omega), (by exact am_upd hgam (by omega) (by omega) (by assumption)), (fun k hk => by simp only [qm_row]; rw [if_neg (by omega)]; exact hgf k hk)⟩ (by have := ti_addK l4 (1 : Int32) 1 rfl; show ((10 - l3.toInt) * 100 + 40 - (l4 + 1).toInt).toNat < n; omega)
set_option maxRecDepth 100000 in
set_option maxHeartbeats 4000000 in
theorem sf_177_39 (X : qm_X) (h : qm_H) (a : Int32) (hp : am h) (Q : qm_Q) (hq : ∀ h' : qm_H, (am h' ∧ (∀ k, (k < 41 ∨ 41 < k) → h' k = h k)) → Q none h') : qm_PW X 177 [.ref 39, .int a] h Q := by
  have hmam : am h := hp
  have ⟨⟨_, _⟩, ⟨_, _⟩, _, _, _⟩ := hmam
  refine qm_seg_ok (C := qc_177) (rt := none) rfl rfl (cuts := [(4, [0, 1, 2, 3]), (25, [0, 1, 2, 3, 4])]) 400 _ _ _ _ ?_
  show qm_PA X 177 4 [(0, .ref 39), (1, .int a), (2, .int 0), (3, .int 0)] [] h Q
  exact (sf_177_39_c X h a hp Q hq _).1 (0 : Int32) (0 : Int32) h ⟨(by have : (0 : Int32).toInt = 0 := rfl; show 0 ≤ (0 : Int32).toInt ∧ (0 : Int32).toInt ≤ 10 ∧ 0 ≤ (0 : Int32).toInt ∧ (0 : Int32).toInt ≤ (0 : Int32).toInt; omega), hmam, (fun k hk => rfl)⟩ (Nat.lt_succ_self _)
-- ThreadBankModel.findOwed(I)V
set_option maxRecDepth 100000 in
set_option maxHeartbeats 4000000 in
theorem sf_180_39_c (X : qm_X) (h : qm_H) (a : Int32) (hp : am h) (Q : qm_Q) (hq : ∀ h' : qm_H, ((∀ k, (k < 45 ∨ 45 < k) → h' k = h k)) → Q none h') : ∀ n : Nat, (∀ (l2 : Int32) (g : qm_H), ((0 ≤ l2.toInt ∧ l2.toInt ≤ 16) ∧ am g ∧ ∀ k, (k < 45 ∨ 45 < k) → g k = h k) → (116 - l2.toInt).toNat < n → qm_PA X 180 2 [(0, .ref 39), (1, .int a), (2, .int l2)] [] g Q) ∧ (∀ (l2 : Int32) (g : qm_H), ((0 ≤ l2.toInt ∧ l2.toInt ≤ 10) ∧ am g ∧ ∀ k, (k < 45 ∨ 45 < k) → g k = h k) → (10 - l2.toInt).toNat < n → qm_PA X 180 23 [(0, .ref 39), (1, .int a), (2, .int l2)] [] g Q) := by
  have hmam : am h := hp
  have ⟨⟨_, _⟩, ⟨_, _⟩, _, _, _⟩ := hmam
  intro n
  induction n with
  | zero => exact ⟨fun _ _ _ h0 => absurd h0 (Nat.not_lt_zero _), fun _ _ _ h0 => absurd h0 (Nat.not_lt_zero _)⟩
  | succ n ih =>
    refine ⟨?_, ?_⟩
    · intro l2 g hi hr
      obtain ⟨hi0, hgam, hgf⟩ := hi
      have ⟨⟨_, _⟩, ⟨_, _⟩, _, _, _⟩ := hgam
      refine qm_seg_ok (C := qc_180) (rt := none) rfl rfl (cuts := [(2, [0, 1, 2]), (23, [0, 1, 2])]) 400 _ _ _ _ ?_
      show (16 ≤ l2.toInt → (qm_PA X 180 23 [(0, .ref 39), (1, .int a), (2, .int 0)] [] g Q)) ∧ (l2.toInt < 16 → ((0 ≤ l2.toInt ∧ l2.toInt < 16) ∧ (qm_PA X 180 2 [(0, .ref 39), (1, .int a), (2, .int (l2 + 1))] [] (qm_row g 45 (upd (g 45) l2.toInt.toNat 0)) Q)))
      refine ⟨fun c1 => ?_, fun c2 => ?_⟩
      · exact ih.2 (0 : Int32) g ⟨(by have : (0 : Int32).toInt = 0 := rfl; show 0 ≤ (0 : Int32).toInt ∧ (0 : Int32).toInt ≤ 10; omega), hgam, (fun k hk => hgf k hk)⟩ (by have : (0 : Int32).toInt = 0 := rfl; show (10 - (0 : Int32).toInt).toNat < n; omega)
      · refine ⟨(by omega), ?_⟩
        exact ih.1 (l2 + 1) (qm_row g 45 (upd (g 45) l2.toInt.toNat 0)) ⟨(by have := ti_addK l2 (1 : Int32) 1 rfl; show 0 ≤ (l2 + 1).toInt ∧ (l2 + 1).toInt ≤ 16; omega), (by exact hgam), (fun k hk => by simp only [qm_row]; rw [if_neg (by omega)]; exact hgf k hk)⟩ (by have := ti_addK l2 (1 : Int32) 1 rfl; show (116 - (l2 + 1).toInt).toNat < n; omega)
    · intro l2 g hi hr
      obtain ⟨hi0, hgam, hgf⟩ := hi
      have ⟨⟨_, _⟩, ⟨_, _⟩, _, _, _⟩ := hgam
      refine qm_seg_ok (C := qc_180) (rt := none) rfl rfl (cuts := [(2, [0, 1, 2]), (23, [0, 1, 2])]) 400 _ _ _ _ ?_
      show (0 ≤ (4 : Int) ∧ (4 : Int) < 49) ∧ (((g 41 4).toInt ≤ l2.toInt → (Q none g)) ∧ (l2.toInt < (g 41 4).toInt → (qm_PW X 179 [.ref 39, .int l2] g _)))
      refine ⟨by decide, ?_⟩
      refine ⟨fun c1 => ?_, fun c2 => ?_⟩
      · exact hq g (fun k hk => hgf k hk)
      · refine sf_179_39 X g l2 ⟨hgam, (by omega)⟩ _ (fun r3 p4 => ?_)
        show (¬ r3 = 0 → (qm_PW X 171 [.ref 39, .int l2, .int 1] g _)) ∧ (r3 = 0 → (qm_PW X 171 [.ref 39, .int l2, .int 2] g _))
        refine ⟨fun c5 => ?_, fun c6 => ?_⟩
        · refine sf_171_39 X g l2 (1 : Int32) ⟨hgam, (by have : (1 : Int32).toInt = 1 := rfl; omega)⟩ _ (fun r7 p8 => ?_)
          replace p8 := p8.2.1 rfl
          show ¬ (10 : Int32) = 0 ∧ (qm_PW X 171 [.ref 39, .int l2, .int 1] g _)
          refine ⟨by decide, ?_⟩
          refine sf_171_39 X g l2 (1 : Int32) ⟨hgam, (by have : (1 : Int32).toInt = 1 := rfl; omega)⟩ _ (fun r9 p10 => ?_)
          replace p10 := p10.2.1 rfl
          show ¬ (10 : Int32) = 0 ∧ ((0 ≤ ((4 * (r7 / 10)) + (r9 - r9 / 10 * 10)).toInt ∧ ((4 * (r7 / 10)) + (r9 - r9 / 10 * 10)).toInt < 16) ∧ (((0 : Int32) = 0 → ((0 ≤ ((4 * (r7 / 10)) + (r9 - r9 / 10 * 10)).toInt ∧ ((4 * (r7 / 10)) + (r9 - r9 / 10 * 10)).toInt < 16) ∧ (qm_PA X 180 23 [(0, .ref 39), (1, .int a), (2, .int (l2 + 1))] [] (qm_row g 45 (upd (g 45) ((4 * (r7 / 10)) + (r9 - r9 / 10 * 10)).toInt.toNat ((g 45 ((4 * (r7 / 10)) + (r9 - r9 / 10 * 10)).toInt.toNat) + 0))) Q))) ∧ (¬ (0 : Int32) = 0 → (qm_PW X 171 [.ref 39, .int l2, .int 2] g _))))
          refine ⟨by decide, ?_⟩
          refine ⟨(by have := ti_div (10 : Int32) 10 rfl r7 (by decide); have := ti_mulL (4 : Int32) 4 rfl (r7 / 10); have := ti_rem (10 : Int32) 10 rfl r9 (by decide); have := ti_add (4 * (r7 / 10)) (r9 - r9 / 10 * 10); omega), ?_⟩
          refine ⟨fun c11 => ?_, fun c12 => ?_⟩
          · refine ⟨(by have := ti_div (10 : Int32) 10 rfl r7 (by decide); have := ti_mulL (4 : Int32) 4 rfl (r7 / 10); have := ti_rem (10 : Int32) 10 rfl r9 (by decide); have := ti_add (4 * (r7 / 10)) (r9 - r9 / 10 * 10); omega), ?_⟩
            exact ih.2 (l2 + 1) (qm_row g 45 (upd (g 45) ((4 * (r7 / 10)) + (r9 - r9 / 10 * 10)).toInt.toNat ((g 45 ((4 * (r7 / 10)) + (r9 - r9 / 10 * 10)).toInt.toNat) + 0))) ⟨(by have := ti_addK l2 (1 : Int32) 1 rfl; show 0 ≤ (l2 + 1).toInt ∧ (l2 + 1).toInt ≤ 10; omega), (by exact hgam), (fun k hk => by simp only [qm_row]; rw [if_neg (by omega)]; exact hgf k hk)⟩ (by have := ti_addK l2 (1 : Int32) 1 rfl; show (10 - (l2 + 1).toInt).toNat < n; omega)
          · exact absurd c12 (by decide)
        · refine sf_171_39 X g l2 (2 : Int32) ⟨hgam, (by have : (2 : Int32).toInt = 2 := rfl; omega)⟩ _ (fun r15 p16 => ?_)
          replace p16 := p16.2.2 rfl
          show ¬ (10 : Int32) = 0 ∧ ((a.toInt < (r15 - r15 / 10 * 10).toInt → (qm_PW X 171 [.ref 39, .int l2, .int 1] g _)) ∧ ((r15 - r15 / 10 * 10).toInt ≤ a.toInt → (qm_PW X 171 [.ref 39, .int l2, .int 1] g _)))
          refine ⟨by decide, ?_⟩
          refine ⟨fun c17 => ?_, fun c18 => ?_⟩
          · refine sf_171_39 X g l2 (1 : Int32) ⟨hgam, (by have : (1 : Int32).toInt = 1 := rfl; have := ti_rem (10 : Int32) 10 rfl r15 (by decide); omega)⟩ _ (fun r19 p20 => ?_)
            replace p20 := p20.2.1 rfl
            show ¬ (10 : Int32) = 0 ∧ (qm_PW X 171 [.ref 39, .int l2, .int 1] g _)
            refine ⟨by decide, ?_⟩
            refine sf_171_39 X g l2 (1 : Int32) ⟨hgam, (by have : (1 : Int32).toInt = 1 := rfl; have := ti_rem (10 : Int32) 10 rfl r15 (by decide); omega)⟩ _ (fun r21 p22 => ?_)
            replace p22 := p22.2.1 rfl
            show ¬ (10 : Int32) = 0 ∧ ((0 ≤ ((4 * (r19 / 10)) + (r21 - r21 / 10 * 10)).toInt ∧ ((4 * (r19 / 10)) + (r21 - r21 / 10 * 10)).toInt < 16) ∧ (((0 : Int32) = 0 → ((0 ≤ ((4 * (r19 / 10)) + (r21 - r21 / 10 * 10)).toInt ∧ ((4 * (r19 / 10)) + (r21 - r21 / 10 * 10)).toInt < 16) ∧ (qm_PA X 180 23 [(0, .ref 39), (1, .int a), (2, .int (l2 + 1))] [] (qm_row g 45 (upd (g 45) ((4 * (r19 / 10)) + (r21 - r21 / 10 * 10)).toInt.toNat ((g 45 ((4 * (r19 / 10)) + (r21 - r21 / 10 * 10)).toInt.toNat) + 0))) Q))) ∧ (¬ (0 : Int32) = 0 → (qm_PW X 171 [.ref 39, .int l2, .int 2] g _))))
            refine ⟨by decide, ?_⟩
            refine ⟨(by have := ti_div (10 : Int32) 10 rfl r19 (by decide); have := ti_mulL (4 : Int32) 4 rfl (r19 / 10); have := ti_rem (10 : Int32) 10 rfl r21 (by decide); have := ti_add (4 * (r19 / 10)) (r21 - r21 / 10 * 10); have := ti_rem (10 : Int32) 10 rfl r15 (by decide); omega), ?_⟩
            refine ⟨fun c23 => ?_, fun c24 => ?_⟩
            · refine ⟨(by have := ti_div (10 : Int32) 10 rfl r19 (by decide); have := ti_mulL (4 : Int32) 4 rfl (r19 / 10); have := ti_rem (10 : Int32) 10 rfl r21 (by decide); have := ti_add (4 * (r19 / 10)) (r21 - r21 / 10 * 10); have := ti_rem (10 : Int32) 10 rfl r15 (by decide); omega), ?_⟩
              exact ih.2 (l2 + 1) (qm_row g 45 (upd (g 45) ((4 * (r19 / 10)) + (r21 - r21 / 10 * 10)).toInt.toNat ((g 45 ((4 * (r19 / 10)) + (r21 - r21 / 10 * 10)).toInt.toNat) + 0))) ⟨(by have := ti_addK l2 (1 : Int32) 1 rfl; have := ti_rem (10 : Int32) 10 rfl r15 (by decide); show 0 ≤ (l2 + 1).toInt ∧ (l2 + 1).toInt ≤ 10; omega), (by exact hgam), (fun k hk => by simp only [qm_row]; rw [if_neg (by omega)]; exact hgf k hk)⟩ (by have := ti_addK l2 (1 : Int32) 1 rfl; have := ti_rem (10 : Int32) 10 rfl r15 (by decide); show (10 - (l2 + 1).toInt).toNat < n; omega)
            · exact absurd c24 (by decide)
          · refine sf_171_39 X g l2 (1 : Int32) ⟨hgam, (by have : (1 : Int32).toInt = 1 := rfl; have := ti_rem (10 : Int32) 10 rfl r15 (by decide); omega)⟩ _ (fun r27 p28 => ?_)
            replace p28 := p28.2.1 rfl
            show ¬ (10 : Int32) = 0 ∧ (qm_PW X 171 [.ref 39, .int l2, .int 1] g _)
            refine ⟨by decide, ?_⟩
            refine sf_171_39 X g l2 (1 : Int32) ⟨hgam, (by have : (1 : Int32).toInt = 1 := rfl; have := ti_rem (10 : Int32) 10 rfl r15 (by decide); omega)⟩ _ (fun r29 p30 => ?_)
            replace p30 := p30.2.1 rfl
            show ¬ (10 : Int32) = 0 ∧ ((0 ≤ ((4 * (r27 / 10)) + (r29 - r29 / 10 * 10)).toInt ∧ ((4 * (r27 / 10)) + (r29 - r29 / 10 * 10)).toInt < 16) ∧ (((1 : Int32) = 0 → ((0 ≤ ((4 * (r27 / 10)) + (r29 - r29 / 10 * 10)).toInt ∧ ((4 * (r27 / 10)) + (r29 - r29 / 10 * 10)).toInt < 16) ∧ (qm_PA X 180 23 [(0, .ref 39), (1, .int a), (2, .int (l2 + 1))] [] (qm_row g 45 (upd (g 45) ((4 * (r27 / 10)) + (r29 - r29 / 10 * 10)).toInt.toNat ((g 45 ((4 * (r27 / 10)) + (r29 - r29 / 10 * 10)).toInt.toNat) + 0))) Q))) ∧ (¬ (1 : Int32) = 0 → (qm_PW X 171 [.ref 39, .int l2, .int 2] g _))))
            refine ⟨by decide, ?_⟩
            refine ⟨(by have := ti_div (10 : Int32) 10 rfl r27 (by decide); have := ti_mulL (4 : Int32) 4 rfl (r27 / 10); have := ti_rem (10 : Int32) 10 rfl r29 (by decide); have := ti_add (4 * (r27 / 10)) (r29 - r29 / 10 * 10); have := ti_rem (10 : Int32) 10 rfl r15 (by decide); omega), ?_⟩
            refine ⟨fun c31 => ?_, fun c32 => ?_⟩
            · exact absurd c31 (by decide)
            · refine sf_171_39 X g l2 (2 : Int32) ⟨hgam, (by have : (2 : Int32).toInt = 2 := rfl; have := ti_rem (10 : Int32) 10 rfl r15 (by decide); omega)⟩ _ (fun r33 p34 => ?_)
              replace p34 := p34.2.2 rfl
              show ¬ (10 : Int32) = 0 ∧ ((0 ≤ ((4 * (r27 / 10)) + (r29 - r29 / 10 * 10)).toInt ∧ ((4 * (r27 / 10)) + (r29 - r29 / 10 * 10)).toInt < 16) ∧ (qm_PA X 180 23 [(0, .ref 39), (1, .int a), (2, .int (l2 + 1))] [] (qm_row g 45 (upd (g 45) ((4 * (r27 / 10)) + (r29 - r29 / 10 * 10)).toInt.toNat ((g 45 ((4 * (r27 / 10)) + (r29 - r29 / 10 * 10)).toInt.toNat) + (r33 / 10)))) Q))
              refine ⟨by decide, ?_⟩
              refine ⟨(by have := ti_div (10 : Int32) 10 rfl r27 (by decide); have := ti_mulL (4 : Int32) 4 rfl (r27 / 10); have := ti_rem (10 : Int32) 10 rfl r29 (by decide); have := ti_add (4 * (r27 / 10)) (r29 - r29 / 10 * 10); have := ti_rem (10 : Int32) 10 rfl r15 (by decide); omega), ?_⟩
              exact ih.2 (l2 + 1) (qm_row g 45 (upd (g 45) ((4 * (r27 / 10)) + (r29 - r29 / 10 * 10)).toInt.toNat ((g 45 ((4 * (r27 / 10)) + (r29 - r29 / 10 * 10)).toInt.toNat) + (r33 / 10)))) ⟨(by have := ti_addK l2 (1 : Int32) 1 rfl; have := ti_rem (10 : Int32) 10 rfl r15 (by decide); show 0 ≤ (l2 + 1).toInt ∧ (l2 + 1).toInt ≤ 10; omega), (by exact hgam), (fun k hk => by simp only [qm_row]; rw [if_neg (by omega)]; exact hgf k hk)⟩ (by have := ti_addK l2 (1 : Int32) 1 rfl; have := ti_rem (10 : Int32) 10 rfl r15 (by decide); show (10 - (l2 + 1).toInt).toNat < n; omega)
set_option maxRecDepth 100000 in
set_option maxHeartbeats 4000000 in
theorem sf_180_39 (X : qm_X) (h : qm_H) (a : Int32) (hp : am h) (Q : qm_Q) (hq : ∀ h' : qm_H, ((∀ k, (k < 45 ∨ 45 < k) → h' k = h k)) → Q none h') : qm_PW X 180 [.ref 39, .int a] h Q := by
  have hmam : am h := hp
  have ⟨⟨_, _⟩, ⟨_, _⟩, _, _, _⟩ := hmam
  refine qm_seg_ok (C := qc_180) (rt := none) rfl rfl (cuts := [(2, [0, 1, 2]), (23, [0, 1, 2])]) 400 _ _ _ _ ?_
  show qm_PA X 180 2 [(0, .ref 39), (1, .int a), (2, .int 0)] [] h Q
  exact (sf_180_39_c X h a hp Q hq _).1 (0 : Int32) h ⟨(by have : (0 : Int32).toInt = 0 := rfl; show 0 ≤ (0 : Int32).toInt ∧ (0 : Int32).toInt ≤ 16; omega), hmam, (fun k hk => rfl)⟩ (Nat.lt_succ_self _)
-- ThreadBankModel.owedBy(I)I
set_option maxRecDepth 100000 in
set_option maxHeartbeats 4000000 in
theorem sf_181_39 (X : qm_X) (h : qm_H) (a : Int32) (hp : 0 ≤ a.toInt ∧ a.toInt / 10 ≤ 3 ∧ a.toInt % 10 ≤ 3) (Q : qm_Q) (hq : ∀ r : Int32, (True) → Q (some (.int r)) h) : qm_PW X 181 [.ref 39, .int a] h Q := by
  have hp0 : 0 ≤ a.toInt ∧ a.toInt / 10 ≤ 3 ∧ a.toInt % 10 ≤ 3 := hp
  refine qm_seg_ok (C := qc_181) (rt := some .int) rfl rfl (cuts := []) 400 _ _ _ _ ?_
  show ¬ (10 : Int32) = 0 ∧ (¬ (10 : Int32) = 0 ∧ ((0 ≤ ((4 * (a / 10)) + (a - a / 10 * 10)).toInt ∧ ((4 * (a / 10)) + (a - a / 10 * 10)).toInt < 16) ∧ (Q (some (.int (h 45 ((4 * (a / 10)) + (a - a / 10 * 10)).toInt.toNat))) h)))
  refine ⟨by decide, ?_⟩
  refine ⟨by decide, ?_⟩
  refine ⟨(by have := ti_div (10 : Int32) 10 rfl a (by decide); have := ti_mulL (4 : Int32) 4 rfl (a / 10); have := ti_rem (10 : Int32) 10 rfl a (by decide); have := ti_add (4 * (a / 10)) (a - a / 10 * 10); omega), ?_⟩
  exact hq (h 45 ((4 * (a / 10)) + (a - a / 10 * 10)).toInt.toNat) trivial
-- ThreadBankModel.netOf(I)I
set_option maxRecDepth 100000 in
set_option maxHeartbeats 4000000 in
theorem sf_182_39_c (X : qm_X) (h : qm_H) (a : Int32) (hp : 0 ≤ a.toInt ∧ a.toInt ≤ 3) (Q : qm_Q) (hq : ∀ r : Int32, (True) → Q (some (.int r)) h) : ∀ n : Nat, (∀ (l2 : Int32) (l3 : Int32), (0 ≤ l3.toInt ∧ l3.toInt ≤ 4) → (4 - l3.toInt).toNat < n → qm_PA X 182 4 [(0, .ref 39), (1, .int a), (2, .int l2), (3, .int l3)] [] h Q) := by
  have hp0 : 0 ≤ a.toInt ∧ a.toInt ≤ 3 := hp
  intro n
  induction n with
  | zero => exact fun _ _ _ h0 => absurd h0 (Nat.not_lt_zero _)
  | succ n ih =>
    intro l2 l3 hi hr
    have ti_l3 := ti_rng l3
    refine qm_seg_ok (C := qc_182) (rt := some .int) rfl rfl (cuts := [(4, [0, 1, 2, 3])]) 400 _ _ _ _ ?_
    show (4 ≤ l3.toInt → (Q (some (.int l2)) h)) ∧ (l3.toInt < 4 → ((0 ≤ ((4 * l3) + a).toInt ∧ ((4 * l3) + a).toInt < 16) ∧ ((0 ≤ ((4 * a) + l3).toInt ∧ ((4 * a) + l3).toInt < 16) ∧ (qm_PA X 182 4 [(0, .ref 39), (1, .int a), (2, .int (l2 + ((h 45 ((4 * l3) + a).toInt.toNat) - (h 45 ((4 * a) + l3).toInt.toNat)))), (3, .int (l3 + 1))] [] h Q))))
    refine ⟨fun c1 => ?_, fun c2 => ?_⟩
    · exact hq l2 trivial
    · refine ⟨(by have := ti_mulL (4 : Int32) 4 rfl l3; have := ti_add (4 * l3) a; omega), ?_⟩
      refine ⟨(by have := ti_mulL (4 : Int32) 4 rfl a; have := ti_add (4 * a) l3; omega), ?_⟩
      exact ih (l2 + ((h 45 ((4 * l3) + a).toInt.toNat) - (h 45 ((4 * a) + l3).toInt.toNat))) (l3 + 1) (by have := ti_addK l3 (1 : Int32) 1 rfl; omega) (by have := ti_addK l3 (1 : Int32) 1 rfl; omega)
set_option maxRecDepth 100000 in
set_option maxHeartbeats 4000000 in
theorem sf_182_39 (X : qm_X) (h : qm_H) (a : Int32) (hp : 0 ≤ a.toInt ∧ a.toInt ≤ 3) (Q : qm_Q) (hq : ∀ r : Int32, (True) → Q (some (.int r)) h) : qm_PW X 182 [.ref 39, .int a] h Q := by
  have hp0 : 0 ≤ a.toInt ∧ a.toInt ≤ 3 := hp
  refine qm_seg_ok (C := qc_182) (rt := some .int) rfl rfl (cuts := [(4, [0, 1, 2, 3])]) 400 _ _ _ _ ?_
  show qm_PA X 182 4 [(0, .ref 39), (1, .int a), (2, .int 0), (3, .int 0)] [] h Q
  exact (sf_182_39_c X h a hp Q hq _) (0 : Int32) (0 : Int32) (by have : (0 : Int32).toInt = 0 := rfl; omega) (Nat.lt_succ_self _)
-- ThreadBankModel.allOwed()I
set_option maxRecDepth 100000 in
set_option maxHeartbeats 4000000 in
theorem sf_183_39_c (X : qm_X) (h : qm_H) (hp : True) (Q : qm_Q) (hq : ∀ r : Int32, (True) → Q (some (.int r)) h) : ∀ n : Nat, (∀ (l1 : Int32) (l2 : Int32), (0 ≤ l2.toInt ∧ l2.toInt ≤ 16) → (16 - l2.toInt).toNat < n → qm_PA X 183 4 [(0, .ref 39), (1, .int l1), (2, .int l2)] [] h Q) := by
  intro n
  induction n with
  | zero => exact fun _ _ _ h0 => absurd h0 (Nat.not_lt_zero _)
  | succ n ih =>
    intro l1 l2 hi hr
    have ti_l2 := ti_rng l2
    refine qm_seg_ok (C := qc_183) (rt := some .int) rfl rfl (cuts := [(4, [0, 1, 2])]) 400 _ _ _ _ ?_
    show (16 ≤ l2.toInt → (Q (some (.int l1)) h)) ∧ (l2.toInt < 16 → ((0 ≤ l2.toInt ∧ l2.toInt < 16) ∧ (qm_PA X 183 4 [(0, .ref 39), (1, .int (l1 + (h 45 l2.toInt.toNat))), (2, .int (l2 + 1))] [] h Q)))
    refine ⟨fun c1 => ?_, fun c2 => ?_⟩
    · exact hq l1 trivial
    · refine ⟨(by omega), ?_⟩
      exact ih (l1 + (h 45 l2.toInt.toNat)) (l2 + 1) (by have := ti_addK l2 (1 : Int32) 1 rfl; omega) (by have := ti_addK l2 (1 : Int32) 1 rfl; omega)
set_option maxRecDepth 100000 in
set_option maxHeartbeats 4000000 in
theorem sf_183_39 (X : qm_X) (h : qm_H) (hp : True) (Q : qm_Q) (hq : ∀ r : Int32, (True) → Q (some (.int r)) h) : qm_PW X 183 [.ref 39] h Q := by
  refine qm_seg_ok (C := qc_183) (rt := some .int) rfl rfl (cuts := [(4, [0, 1, 2])]) 400 _ _ _ _ ?_
  show qm_PA X 183 4 [(0, .ref 39), (1, .int 0), (2, .int 0)] [] h Q
  exact (sf_183_39_c X h hp Q hq _) (0 : Int32) (0 : Int32) (by have : (0 : Int32).toInt = 0 := rfl; omega) (Nat.lt_succ_self _)
-- ThreadBankModel.netOfAll(I)I
set_option maxRecDepth 100000 in
set_option maxHeartbeats 4000000 in
theorem sf_208_39_c (X : qm_X) (h : qm_H) (a : Int32) (hp : mi h) (Q : qm_Q) (hq : ∀ r : Int32, (True) → Q (some (.int r)) h) : ∀ n : Nat, (∀ (l2 : Int32) (l3 : Int32), (0 ≤ l3.toInt ∧ l3.toInt ≤ 4) → (4 - l3.toInt).toNat < n → qm_PA X 208 4 [(0, .ref 39), (1, .int a), (2, .int l2), (3, .int l3)] [] h Q) := by
  have hmmi : mi h := hp
  have ⟨⟨_, _⟩, ⟨_, _⟩, ⟨_, _⟩, ⟨_, _⟩, _, _⟩ := hmmi
  intro n
  induction n with
  | zero => exact fun _ _ _ h0 => absurd h0 (Nat.not_lt_zero _)
  | succ n ih =>
    intro l2 l3 hi hr
    have ti_l3 := ti_rng l3
    refine qm_seg_ok (C := qc_208) (rt := some .int) rfl rfl (cuts := [(4, [0, 1, 2, 3])]) 400 _ _ _ _ ?_
    show ((h 39 3).toInt ≤ l3.toInt → (Q (some (.int l2)) h)) ∧ (l3.toInt < (h 39 3).toInt → ((¬ ((a >>> (l3 &&& 31)) &&& 1) = 1 → (qm_PA X 208 4 [(0, .ref 39), (1, .int a), (2, .int (l2 + 0)), (3, .int (l3 + 1))] [] h Q)) ∧ (((a >>> (l3 &&& 31)) &&& 1) = 1 → (qm_PW X 182 [.ref 39, .int l3] h _))))
    refine ⟨fun c1 => ?_, fun c2 => ?_⟩
    · exact hq l2 trivial
    · refine ⟨fun c3 => ?_, fun c4 => ?_⟩
      · exact ih (l2 + 0) (l3 + 1) (by have := ti_addK l3 (1 : Int32) 1 rfl; omega) (by have := ti_addK l3 (1 : Int32) 1 rfl; omega)
      · refine sf_182_39 X h l3 (by omega) _ (fun r5 p6 => ?_)
        show qm_PA X 208 4 [(0, .ref 39), (1, .int a), (2, .int (l2 + r5)), (3, .int (l3 + 1))] [] h Q
        exact ih (l2 + r5) (l3 + 1) (by have := ti_addK l3 (1 : Int32) 1 rfl; omega) (by have := ti_addK l3 (1 : Int32) 1 rfl; omega)
set_option maxRecDepth 100000 in
set_option maxHeartbeats 4000000 in
theorem sf_208_39 (X : qm_X) (h : qm_H) (a : Int32) (hp : mi h) (Q : qm_Q) (hq : ∀ r : Int32, (True) → Q (some (.int r)) h) : qm_PW X 208 [.ref 39, .int a] h Q := by
  have hmmi : mi h := hp
  have ⟨⟨_, _⟩, ⟨_, _⟩, ⟨_, _⟩, ⟨_, _⟩, _, _⟩ := hmmi
  refine qm_seg_ok (C := qc_208) (rt := some .int) rfl rfl (cuts := [(4, [0, 1, 2, 3])]) 400 _ _ _ _ ?_
  show qm_PA X 208 4 [(0, .ref 39), (1, .int a), (2, .int 0), (3, .int 0)] [] h Q
  exact (sf_208_39_c X h a hp Q hq _) (0 : Int32) (0 : Int32) (by have : (0 : Int32).toInt = 0 := rfl; omega) (Nat.lt_succ_self _)
