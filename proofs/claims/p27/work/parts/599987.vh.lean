-- ThreadBankModel.isSheet(II)Z
set_option maxRecDepth 100000 in
set_option maxHeartbeats 4000000 in
theorem ty_233 (X : qm_X) (h : qm_H) (a : Int32) (b : Int32) (hp : True) (Q : qm_Q) (hq : ∀ r : Int32, ((r = 0 ∨ r = 1) ∧ ((r.toInt = 1 ∧ (0 ≤ a.toInt ∧ a.toInt ≤ 3) ∧ 0 ≤ b.toInt ∧ b.toInt ≤ 2) ∨ (r.toInt = 0 ∧ ¬ ((0 ≤ a.toInt ∧ a.toInt ≤ 3) ∧ 0 ≤ b.toInt ∧ b.toInt ≤ 2)))) → Q (some (.int r)) h) : qm_PW X 233 [.int a, .int b] h Q := by
  refine qm_seg_ok (C := qc_233) (rt := some .boolean) rfl rfl (cuts := []) 400 _ _ _ _ ?_
  show qm_PW X 141 [.long (Int32.toInt64 a), .long 0, .long 3] h _
  refine sf_141 X h ((Int32.toInt64 a) : Int64) (0 : Int64) (3 : Int64) trivial _ (fun r1 p2 => ?_)
  have o3 : ¬ r1.toInt = 0 → (0 : Int64).toInt ≤ (Int32.toInt64 a).toInt ∧ (Int32.toInt64 a).toInt ≤ (3 : Int64).toInt := fun hc => p2.2.1 (fun e => hc (ti_eqK 0 rfl e))
  have o4 : r1.toInt = 0 → (Int32.toInt64 a).toInt < (0 : Int64).toInt ∨ (3 : Int64).toInt < (Int32.toInt64 a).toInt := fun hc => p2.2.2 (Int32.toInt_inj.mp hc)
  show (r1 = 0 → (((0 : Int32) = 0 ∨ (0 : Int32) = 1) ∧ Q (some (.int 0)) h)) ∧ (¬ r1 = 0 → (qm_PW X 141 [.long (Int32.toInt64 b), .long 0, .long 2] h _))
  refine ⟨fun c5 => ?_, fun c6 => ?_⟩
  · have := p2.2.2 c5
    have := ti_eqK 0 rfl c5
    exact ⟨Or.inl rfl, hq 0 (by have : (0 : Int32).toInt = 0 := rfl; have : (0 : Int64).toInt = 0 := rfl; have : (3 : Int64).toInt = 3 := rfl; have := i64 a; show ((0 : Int32) = 0 ∨ (0 : Int32) = 1) ∧ (((0 : Int32).toInt = 1 ∧ (0 ≤ a.toInt ∧ a.toInt ≤ 3) ∧ 0 ≤ b.toInt ∧ b.toInt ≤ 2) ∨ ((0 : Int32).toInt = 0 ∧ ¬ ((0 ≤ a.toInt ∧ a.toInt ≤ 3) ∧ 0 ≤ b.toInt ∧ b.toInt ≤ 2))); first | exact ⟨Or.inr rfl, by omega⟩ | exact ⟨Or.inl rfl, by omega⟩)⟩
  · have := p2.2.1 c6
    have := ti_neK 0 rfl c6
    refine sf_141 X h ((Int32.toInt64 b) : Int64) (0 : Int64) (2 : Int64) trivial _ (fun r7 p8 => ?_)
    have o9 : ¬ r7.toInt = 0 → (0 : Int64).toInt ≤ (Int32.toInt64 b).toInt ∧ (Int32.toInt64 b).toInt ≤ (2 : Int64).toInt := fun hc => p8.2.1 (fun e => hc (ti_eqK 0 rfl e))
    have o10 : r7.toInt = 0 → (Int32.toInt64 b).toInt < (0 : Int64).toInt ∨ (2 : Int64).toInt < (Int32.toInt64 b).toInt := fun hc => p8.2.2 (Int32.toInt_inj.mp hc)
    show (r7 = 0 → (((0 : Int32) = 0 ∨ (0 : Int32) = 1) ∧ Q (some (.int 0)) h)) ∧ (¬ r7 = 0 → (((1 : Int32) = 0 ∨ (1 : Int32) = 1) ∧ Q (some (.int 1)) h))
    refine ⟨fun c11 => ?_, fun c12 => ?_⟩
    · have := p8.2.2 c11
      have := ti_eqK 0 rfl c11
      exact ⟨Or.inl rfl, hq 0 (by have : (0 : Int32).toInt = 0 := rfl; have : (0 : Int64).toInt = 0 := rfl; have : (3 : Int64).toInt = 3 := rfl; have := i64 a; have : (2 : Int64).toInt = 2 := rfl; have := i64 b; show ((0 : Int32) = 0 ∨ (0 : Int32) = 1) ∧ (((0 : Int32).toInt = 1 ∧ (0 ≤ a.toInt ∧ a.toInt ≤ 3) ∧ 0 ≤ b.toInt ∧ b.toInt ≤ 2) ∨ ((0 : Int32).toInt = 0 ∧ ¬ ((0 ≤ a.toInt ∧ a.toInt ≤ 3) ∧ 0 ≤ b.toInt ∧ b.toInt ≤ 2))); first | exact ⟨Or.inr rfl, by omega⟩ | exact ⟨Or.inl rfl, by omega⟩)⟩
    · have := p8.2.1 c12
      have := ti_neK 0 rfl c12
      exact ⟨Or.inr rfl, hq 1 (by have : (1 : Int32).toInt = 1 := rfl; have : (0 : Int64).toInt = 0 := rfl; have : (3 : Int64).toInt = 3 := rfl; have := i64 a; have : (2 : Int64).toInt = 2 := rfl; have := i64 b; show ((1 : Int32) = 0 ∨ (1 : Int32) = 1) ∧ (((1 : Int32).toInt = 1 ∧ (0 ≤ a.toInt ∧ a.toInt ≤ 3) ∧ 0 ≤ b.toInt ∧ b.toInt ≤ 2) ∨ ((1 : Int32).toInt = 0 ∧ ¬ ((0 ≤ a.toInt ∧ a.toInt ≤ 3) ∧ 0 ≤ b.toInt ∧ b.toInt ≤ 2))); first | exact ⟨Or.inr rfl, by omega⟩ | exact ⟨Or.inl rfl, by omega⟩)⟩
-- ThreadBankModel.sheet(III)I
set_option maxRecDepth 100000 in
set_option maxHeartbeats 4000000 in
theorem ty_234_c (X : qm_X) (h : qm_H) (a : Int32) (b : Int32) (c : Int32) (hp : mi h ∧ sm h ∧ zs h ∧ rw_ h) (Q : qm_Q) (hq : ∀ r : Int32, ∀ h' : qm_H, (mi h' ∧ sm h' ∧ zs h' ∧ rw_ h' ∧ (∀ k, (k < 48 ∨ 50 < k) → h' k = h k) ∧ (svR h' = opSheet a b c (svR h))) → Q (some (.int r)) h') : ∀ n : Nat, (∀ (l4 : Int32) (g : qm_H), (((0 ≤ l4.toInt ∧ l4.toInt ≤ 40) ∧ ((0 ≤ a.toInt ∧ a.toInt ≤ 3) ∧ (0 ≤ b.toInt ∧ b.toInt ≤ 2) ∧ 0 ≤ c.toInt ∧ c.toInt ≤ 40) ∧ zrQ a.toInt.toNat l4.toInt (h 50) (g 50) ∧ g 48 = upd (h 48) a.toInt.toNat b ∧ g 49 = upd (h 49) a.toInt.toNat c) ∧ mi g ∧ sm g ∧ zs g ∧ rw_ g ∧ ∀ k, (k < 48 ∨ 50 < k) → g k = h k) → (40 - l4.toInt).toNat < n → qm_PA X 234 40 [(0, .ref 39), (1, .int a), (2, .int b), (3, .int c), (4, .int l4)] [] g Q) := by
  have hmmi : mi h := hp.1
  have ⟨⟨_, _⟩, ⟨_, _⟩, ⟨_, _⟩, ⟨_, _⟩, _, _⟩ := hmmi
  have hmsm : sm h := hp.2.1
  have ⟨⟨⟨_, _⟩, _, _⟩, _, _, _⟩ := hmsm
  have hmzs : zs h := hp.2.2.1
  have hmrw : rw_ h := hp.2.2.2
  intro n
  induction n with
  | zero => exact fun _ _ _ h0 => absurd h0 (Nat.not_lt_zero _)
  | succ n ih =>
    intro l4 g hi hr
    obtain ⟨hi0, hgmi, hgsm, hgzs, hgrw, hgf⟩ := hi
    have ⟨⟨_, _⟩, ⟨_, _⟩, ⟨_, _⟩, ⟨_, _⟩, _, _⟩ := hgmi
    have ⟨⟨⟨_, _⟩, _, _⟩, _, _, _⟩ := hgsm
    refine qm_seg_ok (C := qc_234) (rt := some .int) rfl rfl (cuts := [(40, [0, 1, 2, 3, 4])]) 400 _ _ _ _ ?_
    show (40 ≤ l4.toInt → (Q (some (.int 1)) g)) ∧ (l4.toInt < 40 → ((0 ≤ ((40 * a) + l4).toInt ∧ ((40 * a) + l4).toInt < 160) ∧ (qm_PA X 234 40 [(0, .ref 39), (1, .int a), (2, .int b), (3, .int c), (4, .int (l4 + 1))] [] (qm_row g 50 (upd (g 50) ((40 * a) + l4).toInt.toNat 0)) Q)))
    refine ⟨fun c1 => ?_, fun c2 => ?_⟩
    · exact hq 1 g ⟨hgmi, hgsm, hgzs, hgrw, (fun k hk => hgf k hk), (by show svR g = opSheet a b c (svR h); exact svR_sheet (fun j => (hmzs j).2) hi0.2.1 hi0.2.2.2.2 hi0.2.2.2.1 (by rw [show (40 : Int) = l4.toInt by omega]; exact hi0.2.2.1))⟩
    · refine ⟨(by have := ti_mulL (40 : Int32) 40 rfl a; have := ti_add (40 * a) l4; omega), ?_⟩
      exact ih (l4 + 1) (qm_row g 50 (upd (g 50) ((40 * a) + l4).toInt.toNat 0)) ⟨(by have := ti_addK l4 (1 : Int32) 1 rfl; have := ti_mulL (40 : Int32) 40 rfl a; have := ti_add (40 * a) l4; show (0 ≤ (l4 + 1).toInt ∧ (l4 + 1).toInt ≤ 40) ∧ ((0 ≤ a.toInt ∧ a.toInt ≤ 3) ∧ (0 ≤ b.toInt ∧ b.toInt ≤ 2) ∧ 0 ≤ c.toInt ∧ c.toInt ≤ 40) ∧ zrQ a.toInt.toNat (l4 + 1).toInt (h 50) ((qm_row g 50 (upd (g 50) ((40 * a) + l4).toInt.toNat 0)) 50) ∧ (qm_row g 50 (upd (g 50) ((40 * a) + l4).toInt.toNat 0)) 48 = upd (h 48) a.toInt.toNat b ∧ (qm_row g 50 (upd (g 50) ((40 * a) + l4).toInt.toNat 0)) 49 = upd (h 49) a.toInt.toNat c; have q4 := ti_mulL (40 : Int32) 40 rfl a; have q5 := ti_add (40 * a) l4; have hix : (((40 * a) + l4).toInt.toNat : Int) = 40 * ((a.toInt.toNat : Nat) : Int) + l4.toInt := (by omega); exact ⟨by omega, hi0.2.1, zr_s hi0.2.2.1 (by omega) (by omega) (by omega) hix rfl, hi0.2.2.2.1, hi0.2.2.2.2⟩), (by exact hgmi), (by exact hgsm), (by exact hgzs), (by exact hgrw), (fun k hk => by simp only [qm_row]; rw [if_neg (by omega)]; exact hgf k hk)⟩ (by have := ti_addK l4 (1 : Int32) 1 rfl; show (40 - (l4 + 1).toInt).toNat < n; omega)
set_option maxRecDepth 100000 in
set_option maxHeartbeats 4000000 in
theorem ty_234 (X : qm_X) (h : qm_H) (a : Int32) (b : Int32) (c : Int32) (hp : mi h ∧ sm h ∧ zs h ∧ rw_ h) (Q : qm_Q) (hq : ∀ r : Int32, ∀ h' : qm_H, (mi h' ∧ sm h' ∧ zs h' ∧ rw_ h' ∧ (∀ k, (k < 48 ∨ 50 < k) → h' k = h k) ∧ (svR h' = opSheet a b c (svR h))) → Q (some (.int r)) h') : qm_PW X 234 [.ref 39, .int a, .int b, .int c] h Q := by
  have hmmi : mi h := hp.1
  have ⟨⟨_, _⟩, ⟨_, _⟩, ⟨_, _⟩, ⟨_, _⟩, _, _⟩ := hmmi
  have hmsm : sm h := hp.2.1
  have ⟨⟨⟨_, _⟩, _, _⟩, _, _, _⟩ := hmsm
  have hmzs : zs h := hp.2.2.1
  have hmrw : rw_ h := hp.2.2.2
  refine qm_seg_ok (C := qc_234) (rt := some .int) rfl rfl (cuts := [(40, [0, 1, 2, 3, 4])]) 400 _ _ _ _ ?_
  show qm_PW X 233 [.int a, .int b] h _
  refine ty_233 X h a b trivial _ (fun r1 p2 => ?_)
  have o3 : (r1 = 0 ∨ r1 = 1) ∧ ((r1.toInt = 1 ∧ (0 ≤ a.toInt ∧ a.toInt ≤ 3) ∧ 0 ≤ b.toInt ∧ b.toInt ≤ 2) ∨ (r1.toInt = 0 ∧ ¬ ((0 ≤ a.toInt ∧ a.toInt ≤ 3) ∧ 0 ≤ b.toInt ∧ b.toInt ≤ 2))) := p2
  clear p2
  show (r1 = 0 → (Q (some (.int (-1 : Int32))) h)) ∧ (¬ r1 = 0 → ((c.toInt ≤ 40 → ((0 ≤ c.toInt → ((0 ≤ a.toInt ∧ a.toInt < 4) ∧ ((0 ≤ a.toInt ∧ a.toInt < 4) ∧ (qm_PA X 234 40 [(0, .ref 39), (1, .int a), (2, .int b), (3, .int c), (4, .int 0)] [] (qm_row (qm_row h 48 (upd (h 48) a.toInt.toNat b)) 49 (upd (h 49) a.toInt.toNat c)) Q)))) ∧ (c.toInt < 0 → (Q (some (.int (-14 : Int32))) h)))) ∧ (40 < c.toInt → (Q (some (.int (-1 : Int32))) h))))
  refine ⟨fun c4 => ?_, fun c5 => ?_⟩
  · have := ti_eqK 0 rfl c4
    exact hq (-1 : Int32) h ⟨hmmi, hmsm, hmzs, hmrw, (fun k hk => rfl), (by show svR h = opSheet a b c (svR h); exact (sheet_no (by omega)).symm)⟩
  · have := ti_neK 0 rfl c5
    refine ⟨fun c6 => ?_, fun c7 => ?_⟩
    · refine ⟨fun c8 => ?_, fun c9 => ?_⟩
      · refine ⟨(by omega), ?_⟩
        refine ⟨(by omega), ?_⟩
        exact (ty_234_c X h a b c hp Q hq _) (0 : Int32) (qm_row (qm_row h 48 (upd (h 48) a.toInt.toNat b)) 49 (upd (h 49) a.toInt.toNat c)) ⟨(by have : (0 : Int32).toInt = 0 := rfl; show (0 ≤ (0 : Int32).toInt ∧ (0 : Int32).toInt ≤ 40) ∧ ((0 ≤ a.toInt ∧ a.toInt ≤ 3) ∧ (0 ≤ b.toInt ∧ b.toInt ≤ 2) ∧ 0 ≤ c.toInt ∧ c.toInt ≤ 40) ∧ zrQ a.toInt.toNat (0 : Int32).toInt (h 50) ((qm_row (qm_row h 48 (upd (h 48) a.toInt.toNat b)) 49 (upd (h 49) a.toInt.toNat c)) 50) ∧ (qm_row (qm_row h 48 (upd (h 48) a.toInt.toNat b)) 49 (upd (h 49) a.toInt.toNat c)) 48 = upd (h 48) a.toInt.toNat b ∧ (qm_row (qm_row h 48 (upd (h 48) a.toInt.toNat b)) 49 (upd (h 49) a.toInt.toNat c)) 49 = upd (h 49) a.toInt.toNat c; exact ⟨by have : (0 : Int32).toInt = 0 := rfl; omega, by omega, zr_0 rfl, rfl, rfl⟩), (by exact hmmi), (by exact hmsm), (by intro j; show 0 ≤ (upd _ _ _ j).toInt ∧ (upd _ _ _ j).toInt ≤ 40; unfold upd; (split <;> first | omega | exact hmzs j)), (by exact hmrw), (fun k hk => by simp only [qm_row]; rw [if_neg (by omega)]; rw [if_neg (by omega)])⟩ (Nat.lt_succ_self _)
      · exact hq (-14 : Int32) h ⟨hmmi, hmsm, hmzs, hmrw, (fun k hk => rfl), (by show svR h = opSheet a b c (svR h); exact (sheet_no (by omega)).symm)⟩
    · exact hq (-1 : Int32) h ⟨hmmi, hmsm, hmzs, hmrw, (fun k hk => rfl), (by show svR h = opSheet a b c (svR h); exact (sheet_no (by omega)).symm)⟩
-- ThreadBankModel.lay(III)I
set_option maxRecDepth 100000 in
set_option maxHeartbeats 4000000 in
theorem ty_235 (X : qm_X) (h : qm_H) (a : Int32) (b : Int32) (c : Int32) (hp : mi h ∧ sm h ∧ zs h ∧ rw_ h) (Q : qm_Q) (hq : ∀ r : Int32, ∀ h' : qm_H, (mi h' ∧ sm h' ∧ zs h' ∧ rw_ h' ∧ (∀ k, (k < 50 ∨ 50 < k) → h' k = h k) ∧ ((∀ k : Nat, k < 4 → svR h' k = opLay a b c (svR h) k))) → Q (some (.int r)) h') : qm_PW X 235 [.ref 39, .int a, .int b, .int c] h Q := by
  have hmmi : mi h := hp.1
  have ⟨⟨_, _⟩, ⟨_, _⟩, ⟨_, _⟩, ⟨_, _⟩, _, _⟩ := hmmi
  have hmsm : sm h := hp.2.1
  have ⟨⟨⟨_, _⟩, _, _⟩, _, _, _⟩ := hmsm
  have hmzs : zs h := hp.2.2.1
  have hmrw : rw_ h := hp.2.2.2
  refine qm_seg_ok (C := qc_235) (rt := some .int) rfl rfl (cuts := []) 400 _ _ _ _ ?_
  show qm_PW X 233 [.int a, .int 0] h _
  refine ty_233 X h a (0 : Int32) trivial _ (fun r1 p2 => ?_)
  have o3 : (r1 = 0 ∨ r1 = 1) ∧ ((r1.toInt = 1 ∧ (0 ≤ a.toInt ∧ a.toInt ≤ 3) ∧ 0 ≤ (0 : Int32).toInt ∧ (0 : Int32).toInt ≤ 2) ∨ (r1.toInt = 0 ∧ ¬ ((0 ≤ a.toInt ∧ a.toInt ≤ 3) ∧ 0 ≤ (0 : Int32).toInt ∧ (0 : Int32).toInt ≤ 2))) := p2
  clear p2
  show (¬ r1 = 0 → ((0 ≤ a.toInt ∧ a.toInt < 4) ∧ ((¬ (h 48 a.toInt.toNat) = (-4 : Int32) → ((0 ≤ a.toInt ∧ a.toInt < 4) ∧ (qm_PW X 141 [.long (Int32.toInt64 b), .long 0, .long (Int32.toInt64 ((h 49 a.toInt.toNat) - 1))] h _))) ∧ ((h 48 a.toInt.toNat) = (-4 : Int32) → (Q (some (.int (-11 : Int32))) h))))) ∧ (r1 = 0 → (Q (some (.int (-1 : Int32))) h))
  refine ⟨fun c4 => ?_, fun c5 => ?_⟩
  · have := ti_neK 0 rfl c4
    refine ⟨(by have : (0 : Int32).toInt = 0 := rfl; omega), ?_⟩
    refine ⟨fun c6 => ?_, fun c7 => ?_⟩
    · have := ti_neK (-4) ti_n4 c6
      refine ⟨(by have : (0 : Int32).toInt = 0 := rfl; omega), ?_⟩
      refine sf_141 X h ((Int32.toInt64 b) : Int64) (0 : Int64) ((Int32.toInt64 ((h 49 a.toInt.toNat) - 1)) : Int64) trivial _ (fun r8 p9 => ?_)
      have o10 : ¬ r8.toInt = 0 → (0 : Int64).toInt ≤ (Int32.toInt64 b).toInt ∧ (Int32.toInt64 b).toInt ≤ (Int32.toInt64 ((h 49 a.toInt.toNat) - 1)).toInt := fun hc => p9.2.1 (fun e => hc (ti_eqK 0 rfl e))
      have o11 : r8.toInt = 0 → (Int32.toInt64 b).toInt < (0 : Int64).toInt ∨ (Int32.toInt64 ((h 49 a.toInt.toNat) - 1)).toInt < (Int32.toInt64 b).toInt := fun hc => p9.2.2 (Int32.toInt_inj.mp hc)
      show (¬ r8 = 0 → ((0 ≤ a.toInt ∧ a.toInt < 4) ∧ ((¬ (h 48 a.toInt.toNat) = 0 → ((0 ≤ a.toInt ∧ a.toInt < 4) ∧ ((¬ (h 48 a.toInt.toNat) = 1 → ((0 ≤ ((40 * a) + b).toInt ∧ ((40 * a) + b).toInt < 160) ∧ (Q (some (.int 1)) (qm_row h 50 (upd (h 50) ((40 * a) + b).toInt.toNat c))))) ∧ ((h 48 a.toInt.toNat) = 1 → ((0 ≤ ((40 * a) + b).toInt ∧ ((40 * a) + b).toInt < 160) ∧ (Q (some (.int 1)) (qm_row h 50 (upd (h 50) ((40 * a) + b).toInt.toNat ((Int32.toInt16 c).toInt32))))))))) ∧ ((h 48 a.toInt.toNat) = 0 → ((0 ≤ ((40 * a) + b).toInt ∧ ((40 * a) + b).toInt < 160) ∧ (Q (some (.int 1)) (qm_row h 50 (upd (h 50) ((40 * a) + b).toInt.toNat ((Int32.toInt8 c).toInt32))))))))) ∧ (r8 = 0 → (Q (some (.int (-12 : Int32))) h))
      refine ⟨fun c12 => ?_, fun c13 => ?_⟩
      · have := p9.2.1 c12
        have := ti_neK 0 rfl c12
        refine ⟨(by have := hmzs (a.toInt.toNat); have : (0 : Int32).toInt = 0 := rfl; have := ti_subK (h 49 a.toInt.toNat) (1 : Int32) 1 rfl; have : (0 : Int64).toInt = 0 := rfl; have := i64 b; have := i64 ((h 49 a.toInt.toNat) - 1); omega), ?_⟩
        refine ⟨fun c14 => ?_, fun c15 => ?_⟩
        · have := ti_neK 0 rfl c14
          refine ⟨(by have := hmzs (a.toInt.toNat); have : (0 : Int32).toInt = 0 := rfl; have := ti_subK (h 49 a.toInt.toNat) (1 : Int32) 1 rfl; have : (0 : Int64).toInt = 0 := rfl; have := i64 b; have := i64 ((h 49 a.toInt.toNat) - 1); omega), ?_⟩
          refine ⟨fun c16 => ?_, fun c17 => ?_⟩
          · have := ti_neK 1 rfl c16
            refine ⟨(by have := hmzs (a.toInt.toNat); have : (0 : Int32).toInt = 0 := rfl; have := ti_mulL (40 : Int32) 40 rfl a; have := ti_add (40 * a) b; have := ti_subK (h 49 a.toInt.toNat) (1 : Int32) 1 rfl; have : (0 : Int64).toInt = 0 := rfl; have := i64 b; have := i64 ((h 49 a.toInt.toNat) - 1); omega), ?_⟩
            exact hq 1 (qm_row h 50 (upd (h 50) ((40 * a) + b).toInt.toNat c)) ⟨(by exact hmmi), (by exact hmsm), (by exact hmzs), (by exact hmrw), (fun k hk => by simp only [qm_row]; rw [if_neg (by omega)]), (by show (∀ k : Nat, k < 4 → svR (qm_row h 50 (upd (h 50) ((40 * a) + b).toInt.toNat c)) k = opLay a b c (svR h) k); have := i64 a; have := i64 b; have : (0 : Int64).toInt = 0 := rfl; have : (9 : Int64).toInt = 9 := rfl; have : (3 : Int64).toInt = 3 := rfl; have : (99 : Int64).toInt = 99 := rfl; have := i64 ((h 49 a.toInt.toNat) - 1); have := ti_subK (h 49 a.toInt.toNat) (1 : Int32) 1 rfl; have h00 : (0 : Int32).toInt = 0 := rfl; have hz9 := hmzs a.toInt.toNat; have q4 := ti_mulL (40 : Int32) 40 rfl a; have q5 := ti_add (40 * a) b; have hix : (((40 * a) + b).toInt.toNat : Int) = 40 * ((a.toInt.toNat : Nat) : Int) + b.toInt := (by omega); have hlo : c = lowb (h 48 a.toInt.toNat) c := low_2 (by omega) (by omega); have hsv := svR_lay (h := h) (g := (qm_row h 50 (upd (h 50) ((40 * a) + b).toInt.toNat c))) (a := a) (b := b) (c := c) (ix := ((40 * a) + b).toInt.toNat) (fun j => (hmzs j).2) (by omega) (by omega) (by omega) (by omega) (by omega) rfl rfl (congrArg (upd (h 50) ((40 * a) + b).toInt.toNat) hlo); exact fun k hk => congrFun hsv k)⟩
          · have := ti_eqK 1 rfl c17
            refine ⟨(by have := hmzs (a.toInt.toNat); have : (0 : Int32).toInt = 0 := rfl; have := ti_mulL (40 : Int32) 40 rfl a; have := ti_add (40 * a) b; have := ti_subK (h 49 a.toInt.toNat) (1 : Int32) 1 rfl; have : (0 : Int64).toInt = 0 := rfl; have := i64 b; have := i64 ((h 49 a.toInt.toNat) - 1); omega), ?_⟩
            exact hq 1 (qm_row h 50 (upd (h 50) ((40 * a) + b).toInt.toNat ((Int32.toInt16 c).toInt32))) ⟨(by exact hmmi), (by exact hmsm), (by exact hmzs), (by exact hmrw), (fun k hk => by simp only [qm_row]; rw [if_neg (by omega)]), (by show (∀ k : Nat, k < 4 → svR (qm_row h 50 (upd (h 50) ((40 * a) + b).toInt.toNat ((Int32.toInt16 c).toInt32))) k = opLay a b c (svR h) k); have := i64 a; have := i64 b; have : (0 : Int64).toInt = 0 := rfl; have : (9 : Int64).toInt = 9 := rfl; have : (3 : Int64).toInt = 3 := rfl; have : (99 : Int64).toInt = 99 := rfl; have := i64 ((h 49 a.toInt.toNat) - 1); have := ti_subK (h 49 a.toInt.toNat) (1 : Int32) 1 rfl; have h00 : (0 : Int32).toInt = 0 := rfl; have hz9 := hmzs a.toInt.toNat; have q4 := ti_mulL (40 : Int32) 40 rfl a; have q5 := ti_add (40 * a) b; have hix : (((40 * a) + b).toInt.toNat : Int) = 40 * ((a.toInt.toNat : Nat) : Int) + b.toInt := (by omega); have hlo : ((Int32.toInt16 c).toInt32) = lowb (h 48 a.toInt.toNat) c := low_1 (by omega); have hsv := svR_lay (h := h) (g := (qm_row h 50 (upd (h 50) ((40 * a) + b).toInt.toNat ((Int32.toInt16 c).toInt32)))) (a := a) (b := b) (c := c) (ix := ((40 * a) + b).toInt.toNat) (fun j => (hmzs j).2) (by omega) (by omega) (by omega) (by omega) (by omega) rfl rfl (congrArg (upd (h 50) ((40 * a) + b).toInt.toNat) hlo); exact fun k hk => congrFun hsv k)⟩
        · have := ti_eqK 0 rfl c15
          refine ⟨(by have := hmzs (a.toInt.toNat); have : (0 : Int32).toInt = 0 := rfl; have := ti_mulL (40 : Int32) 40 rfl a; have := ti_add (40 * a) b; have := ti_subK (h 49 a.toInt.toNat) (1 : Int32) 1 rfl; have : (0 : Int64).toInt = 0 := rfl; have := i64 b; have := i64 ((h 49 a.toInt.toNat) - 1); omega), ?_⟩
          exact hq 1 (qm_row h 50 (upd (h 50) ((40 * a) + b).toInt.toNat ((Int32.toInt8 c).toInt32))) ⟨(by exact hmmi), (by exact hmsm), (by exact hmzs), (by exact hmrw), (fun k hk => by simp only [qm_row]; rw [if_neg (by omega)]), (by show (∀ k : Nat, k < 4 → svR (qm_row h 50 (upd (h 50) ((40 * a) + b).toInt.toNat ((Int32.toInt8 c).toInt32))) k = opLay a b c (svR h) k); have := i64 a; have := i64 b; have : (0 : Int64).toInt = 0 := rfl; have : (9 : Int64).toInt = 9 := rfl; have : (3 : Int64).toInt = 3 := rfl; have : (99 : Int64).toInt = 99 := rfl; have := i64 ((h 49 a.toInt.toNat) - 1); have := ti_subK (h 49 a.toInt.toNat) (1 : Int32) 1 rfl; have h00 : (0 : Int32).toInt = 0 := rfl; have hz9 := hmzs a.toInt.toNat; have q4 := ti_mulL (40 : Int32) 40 rfl a; have q5 := ti_add (40 * a) b; have hix : (((40 * a) + b).toInt.toNat : Int) = 40 * ((a.toInt.toNat : Nat) : Int) + b.toInt := (by omega); have hlo : ((Int32.toInt8 c).toInt32) = lowb (h 48 a.toInt.toNat) c := low_0 (by omega); have hsv := svR_lay (h := h) (g := (qm_row h 50 (upd (h 50) ((40 * a) + b).toInt.toNat ((Int32.toInt8 c).toInt32)))) (a := a) (b := b) (c := c) (ix := ((40 * a) + b).toInt.toNat) (fun j => (hmzs j).2) (by omega) (by omega) (by omega) (by omega) (by omega) rfl rfl (congrArg (upd (h 50) ((40 * a) + b).toInt.toNat) hlo); exact fun k hk => congrFun hsv k)⟩
      · have := p9.2.2 c13
        have := ti_eqK 0 rfl c13
        exact hq (-12 : Int32) h ⟨hmmi, hmsm, hmzs, hmrw, (fun k hk => rfl), (by show (∀ k : Nat, k < 4 → svR h k = opLay a b c (svR h) k); have := i64 a; have := i64 b; have : (0 : Int64).toInt = 0 := rfl; have : (9 : Int64).toInt = 9 := rfl; have : (3 : Int64).toInt = 3 := rfl; have : (99 : Int64).toInt = 99 := rfl; have := i64 ((h 49 a.toInt.toNat) - 1); have := ti_subK (h 49 a.toInt.toNat) (1 : Int32) 1 rfl; have h00 : (0 : Int32).toInt = 0 := rfl; have hz9 := hmzs a.toInt.toNat; exact layR_no (by omega))⟩
    · have := ti_eqK (-4) ti_n4 c7
      exact hq (-11 : Int32) h ⟨hmmi, hmsm, hmzs, hmrw, (fun k hk => rfl), (by show (∀ k : Nat, k < 4 → svR h k = opLay a b c (svR h) k); have := i64 a; have := i64 b; have : (0 : Int64).toInt = 0 := rfl; have : (9 : Int64).toInt = 9 := rfl; have : (3 : Int64).toInt = 3 := rfl; have : (99 : Int64).toInt = 99 := rfl; have := i64 ((h 49 a.toInt.toNat) - 1); have := ti_subK (h 49 a.toInt.toNat) (1 : Int32) 1 rfl; have h00 : (0 : Int32).toInt = 0 := rfl; have hz9 := hmzs a.toInt.toNat; exact layR_no (by omega))⟩
  · have := ti_eqK 0 rfl c5
    exact hq (-1 : Int32) h ⟨hmmi, hmsm, hmzs, hmrw, (fun k hk => rfl), (by show (∀ k : Nat, k < 4 → svR h k = opLay a b c (svR h) k); have := i64 a; have := i64 b; have : (0 : Int64).toInt = 0 := rfl; have : (9 : Int64).toInt = 9 := rfl; have : (3 : Int64).toInt = 3 := rfl; have : (99 : Int64).toInt = 99 := rfl; have := i64 ((h 49 a.toInt.toNat) - 1); have := ti_subK (h 49 a.toInt.toNat) (1 : Int32) 1 rfl; have h00 : (0 : Int32).toInt = 0 := rfl; have hz9 := hmzs a.toInt.toNat; exact layR_no (by omega))⟩
