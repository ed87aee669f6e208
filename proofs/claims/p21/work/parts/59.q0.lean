/-! ===== bits and long numbers for pays(), read(), kept(), none() ===== -/
theorem and_le (x y : Int32) : 0 ≤ x.toInt → 0 ≤ (x &&& y).toInt ∧ (x &&& y).toInt ≤ x.toInt := by
  intro h0
  have hx : x.toInt = x.toBitVec.toInt := rfl
  have hz : (x &&& y).toInt = (x.toBitVec &&& y.toBitVec).toInt := rfl
  rw [hz]
  rw [hx] at h0 ⊢
  generalize x.toBitVec = a at h0 ⊢
  generalize y.toBitVec = b
  have h1 : (a &&& b).toNat ≤ a.toNat := by rw [BitVec.toNat_and]; exact Nat.and_le_left
  have h2 := a.isLt
  have h3 := (a &&& b).isLt
  rw [BitVec.toInt_eq_toNat_cond] at h0 ⊢
  rw [BitVec.toInt_eq_toNat_cond]
  split at h0
  · rename_i hc
    have hc2 : 2 * (a &&& b).toNat < 2 ^ 32 := by omega
    rw [if_pos hc2, if_pos hc]
    omega
  · omega
theorem i32_nI {x : Int32} (h : 0 ≤ x.toInt) : x = nI x.toInt.toNat := by
  obtain ⟨k, hk, e⟩ := nI_of (x := x) (by rw [Int32.lt_iff_toInt_lt]; show ¬ x.toInt < 0; omega)
  subst e
  rw [nI_toInt hk]
  rfl
theorem l_add (x y : Int64) : (-9223372036854775808 ≤ x.toInt + y.toInt ∧ x.toInt + y.toInt ≤ 9223372036854775807) → (x + y).toInt = x.toInt + y.toInt := by
  intro h
  rw [Int64.toInt_add]
  refine Int.bmod_eq_of_le ?_ ?_ <;> omega
/-- a product of so many twenties -/
noncomputable def k20 (x : Int64) (u : Int32) : Prop := 0 ≤ u.toInt ∧ u.toInt ≤ 10 ∧ 1 ≤ x.toInt ∧ x.toInt ≤ ((20 ^ u.toInt.toNat : Nat) : Int)
theorem k20_0 : k20 1 0 := by unfold k20; decide
theorem k20_ne {x : Int64} {u : Int32} (h : k20 x u) : ¬ x = 0 := lg_pos h.2.2.1
theorem k20_top : ∀ n : Nat, n ≤ 10 → (20 ^ n : Nat) ≤ 10240000000000 := by
  intro n hn
  have : n = 0 ∨ n = 1 ∨ n = 2 ∨ n = 3 ∨ n = 4 ∨ n = 5 ∨ n = 6 ∨ n = 7 ∨ n = 8 ∨ n = 9 ∨ n = 10 := by omega
  rcases this with rfl | rfl | rfl | rfl | rfl | rfl | rfl | rfl | rfl | rfl | rfl <;> decide
theorem k20_mul {x : Int64} {u : Int32} (h : k20 x u) (hu : u.toInt < 10) : k20 (x * 20) (u + 1) := by
  obtain ⟨h1, h2, h3, h4⟩ := h
  have e1 := ti_addK u (1 : Int32) 1 rfl (by omega)
  have ht := k20_top u.toInt.toNat (by omega)
  have e2 := l_mul20 x (by omega) (by omega)
  refine ⟨by omega, by omega, by omega, ?_⟩
  rw [show (u + 1).toInt.toNat = u.toInt.toNat + 1 by omega, Nat.pow_succ]
  generalize (20 ^ u.toInt.toNat : Nat) = p at h4 ht ⊢
  omega
theorem k20_one {x : Int64} {u : Int32} (h : k20 x u) (hu : u.toInt < 10) : k20 (x * 1) (u + 1) := by
  obtain ⟨h1, h2, h3, h4⟩ := h
  have e1 := ti_addK u (1 : Int32) 1 rfl (by omega)
  have e2 := l_mul1 x
  refine ⟨by omega, by omega, by omega, ?_⟩
  rw [show (u + 1).toInt.toNat = u.toInt.toNat + 1 by omega, Nat.pow_succ]
  generalize (20 ^ u.toInt.toNat : Nat) = p at h4 ⊢
  omega
-- ThreadBankModel.none(II)J
set_option maxRecDepth 100000 in
set_option maxHeartbeats 4000000 in
theorem sf_224_39_c (X : qm_X) (h : qm_H) (a : Int32) (b : Int32) (hp : mi h ∧ sm h ∧ zs h ∧ rw_ h) (Q : qm_Q) (hq : ∀ r : Int64, ∀ h' : qm_H, (mi h' ∧ sm h' ∧ zs h' ∧ rw_ h' ∧ (∀ k, (k < 41 ∨ 41 < k) → h' k = h k)) → Q (some (.long r)) h') : ∀ n : Nat, (∀ (l3 : Int64) (l5 : Int64) (l7 : Int32) (g : qm_H), ((k20 l5 l7) ∧ mi g ∧ sm g ∧ zs g ∧ rw_ g ∧ am g ∧ ∀ k, (k < 41 ∨ 41 < k) → g k = h k) → (10 - l7.toInt).toNat < n → qm_PA X 224 35 [(0, .ref 39), (1, .int a), (2, .int b), (3, .long l3), (5, .long l5), (7, .int l7)] [] g Q) := by
  have hmmi : mi h := hp.1
  have ⟨⟨_, _⟩, ⟨_, _⟩, ⟨_, _⟩, ⟨_, _⟩, _, _⟩ := hmmi
  have hmsm : sm h := hp.2.1
  have ⟨⟨⟨_, _⟩, _, _⟩, _, _, _⟩ := hmsm
  have hmzs : zs h := hp.2.2.1
  have hmrw : rw_ h := hp.2.2.2
  intro n
  induction n with
  | zero => exact fun _ _ _ _ _ h0 => absurd h0 (Nat.not_lt_zero _)
  | succ n ih =>
    intro l3 l5 l7 g hi hr
    obtain ⟨hi0, hgmi, hgsm, hgzs, hgrw, hgam, hgf⟩ := hi
    have ⟨⟨_, _⟩, ⟨_, _⟩, ⟨_, _⟩, ⟨_, _⟩, _, _⟩ := hgmi
    have ⟨⟨⟨_, _⟩, _, _⟩, _, _, _⟩ := hgsm
    have ⟨⟨_, _⟩, ⟨_, _⟩, _, _, _⟩ := hgam
    have := hi0.1
    have := hi0.2.1
    refine qm_seg_ok (C := qc_224) (rt := some .long) rfl rfl (cuts := [(35, [0, 1, 2, 3, 5, 7])]) 400 _ _ _ _ ?_
    show (0 ≤ (4 : Int) ∧ (4 : Int) < 49) ∧ (((g 41 4).toInt ≤ l7.toInt → (qm_PW X 220 [.long l3, .long l5, .int b] g _)) ∧ (l7.toInt < (g 41 4).toInt → (qm_PW X 221 [.ref 39, .int l7, .int a] g _)))
    refine ⟨by decide, ?_⟩
    refine ⟨fun c1 => ?_, fun c2 => ?_⟩
    · refine sf_220 X g (l3 : Int64) (l5 : Int64) b (k20_ne hi0) _ (fun r3 p4 => ?_)
      show Q (some (.long r3)) g
      exact hq r3 g ⟨hgmi, hgsm, hgzs, hgrw, (fun k hk => hgf k hk)⟩
    · refine sf_221_39 X g l7 a ⟨hgam, (by omega)⟩ _ (fun r5 p6 => ?_)
      show qm_PA X 224 35 [(0, .ref 39), (1, .int a), (2, .int b), (3, .long (l3 * (Int32.toInt64 (20 - r5)))), (5, .long (l5 * 20)), (7, .int (l7 + 1))] [] g Q
      exact ih (l3 * (Int32.toInt64 (20 - r5))) (l5 * 20) (l7 + 1) g ⟨(by show k20 (l5 * 20) (l7 + 1); exact k20_mul hi0 (by omega)), hgmi, hgsm, hgzs, hgrw, hgam, (fun k hk => hgf k hk)⟩ (by have := ti_addK l7 (1 : Int32) 1 rfl; show (10 - (l7 + 1).toInt).toNat < n; omega)
set_option maxRecDepth 100000 in
set_option maxHeartbeats 4000000 in
theorem sf_224_39 (X : qm_X) (h : qm_H) (a : Int32) (b : Int32) (hp : mi h ∧ sm h ∧ zs h ∧ rw_ h) (Q : qm_Q) (hq : ∀ r : Int64, ∀ h' : qm_H, (mi h' ∧ sm h' ∧ zs h' ∧ rw_ h' ∧ (∀ k, (k < 41 ∨ 41 < k) → h' k = h k)) → Q (some (.long r)) h') : qm_PW X 224 [.ref 39, .int a, .int b] h Q := by
  have hmmi : mi h := hp.1
  have ⟨⟨_, _⟩, ⟨_, _⟩, ⟨_, _⟩, ⟨_, _⟩, _, _⟩ := hmmi
  have hmsm : sm h := hp.2.1
  have ⟨⟨⟨_, _⟩, _, _⟩, _, _, _⟩ := hmsm
  have hmzs : zs h := hp.2.2.1
  have hmrw : rw_ h := hp.2.2.2
  refine qm_seg_ok (C := qc_224) (rt := some .long) rfl rfl (cuts := [(35, [0, 1, 2, 3, 5, 7])]) 400 _ _ _ _ ?_
  show qm_PW X 141 [.long (Int32.toInt64 a), .long 0, .long 10] h _
  refine sf_141 X h ((Int32.toInt64 a) : Int64) (0 : Int64) (10 : Int64) trivial _ (fun r1 p2 => ?_)
  show (r1 = 0 → (Q (some (.long (-1 : Int64))) h)) ∧ (¬ r1 = 0 → (qm_PW X 168 [.int b] h _))
  refine ⟨fun c3 => ?_, fun c4 => ?_⟩
  · have := p2.2.2 c3
    exact hq (-1 : Int64) h ⟨hmmi, hmsm, hmzs, hmrw, (fun k hk => rfl)⟩
  · have := p2.2.1 c4
    refine sf_168 X h b trivial _ (fun r5 p6 => ?_)
    show (¬ r5 = 0 → (qm_PW X 169 [.ref 39] h _)) ∧ (r5 = 0 → (Q (some (.long (-1 : Int64))) h))
    refine ⟨fun c7 => ?_, fun c8 => ?_⟩
    · have := p6.2 c7
      refine sf_169_39 X h  hmsm _ (fun g9 p10 => ?_)
      have f11 : ∀ k, (k < 41 ∨ 41 < k) → g9 k = h k := fun k hk => (p10.2.1 k (by omega)).trans (rfl)
      have k12 : mi g9 := by unfold mi; rw [p10.2.1 39 (by omega)]; exact hmmi
      have k13 : sm g9 := by unfold sm; rw [p10.2.1 40 (by omega)]; exact hmsm
      have k14 : zs g9 := by unfold zs; rw [p10.2.1 49 (by omega)]; exact hmzs
      have k15 : rw_ g9 := by unfold rw_; rw [p10.2.1 46 (by omega)]; exact hmrw
      show qm_PA X 224 35 [(0, .ref 39), (1, .int a), (2, .int b), (3, .long 1), (5, .long 1), (7, .int 0)] [] g9 Q
      exact (sf_224_39_c X h a b hp Q hq _) (1 : Int64) (1 : Int64) (0 : Int32) g9 ⟨(by have : (0 : Int64).toInt = 0 := rfl; have : (10 : Int64).toInt = 10 := rfl; have := i64 a; show k20 (1 : Int64) (0 : Int32); exact k20_0), k12, k13, k14, k15, p10.1, (fun k hk => f11 k hk)⟩ (Nat.lt_succ_self _)
    · exact hq (-1 : Int64) h ⟨hmmi, hmsm, hmzs, hmrw, (fun k hk => rfl)⟩
-- ThreadBankModel.kept(III)J
set_option maxRecDepth 100000 in
set_option maxHeartbeats 4000000 in
theorem sf_222_39_c (X : qm_X) (h : qm_H) (a : Int32) (b : Int32) (c : Int32) (hp : mi h ∧ sm h ∧ zs h ∧ rw_ h) (Q : qm_Q) (hq : ∀ r : Int64, ∀ h' : qm_H, (mi h' ∧ sm h' ∧ zs h' ∧ rw_ h' ∧ (∀ k, (k < 41 ∨ 41 < k) → h' k = h k)) → Q (some (.long r)) h') : ∀ n : Nat, (∀ (l4 : Int64) (l6 : Int64) (l8 : Int32) (g : qm_H), ((k20 l6 l8 ∧ 0 ≤ b.toInt ∧ b.toInt ≤ 9) ∧ mi g ∧ sm g ∧ zs g ∧ rw_ g ∧ am g ∧ ∀ k, (k < 41 ∨ 41 < k) → g k = h k) → (10 - l8.toInt).toNat < n → qm_PA X 222 44 [(0, .ref 39), (1, .int a), (2, .int b), (3, .int c), (4, .long l4), (6, .long l6), (8, .int l8)] [] g Q) := by
  have hmmi : mi h := hp.1
  have ⟨⟨_, _⟩, ⟨_, _⟩, ⟨_, _⟩, ⟨_, _⟩, _, _⟩ := hmmi
  have hmsm : sm h := hp.2.1
  have ⟨⟨⟨_, _⟩, _, _⟩, _, _, _⟩ := hmsm
  have hmzs : zs h := hp.2.2.1
  have hmrw : rw_ h := hp.2.2.2
  intro n
  induction n with
  | zero => exact fun _ _ _ _ _ h0 => absurd h0 (Nat.not_lt_zero _)
  | succ n ih =>
    intro l4 l6 l8 g hi hr
    obtain ⟨hi0, hgmi, hgsm, hgzs, hgrw, hgam, hgf⟩ := hi
    have ⟨⟨_, _⟩, ⟨_, _⟩, ⟨_, _⟩, ⟨_, _⟩, _, _⟩ := hgmi
    have ⟨⟨⟨_, _⟩, _, _⟩, _, _, _⟩ := hgsm
    have ⟨⟨_, _⟩, ⟨_, _⟩, _, _, _⟩ := hgam
    have := hi0.1.1
    have := hi0.1.2.1
    refine qm_seg_ok (C := qc_222) (rt := some .long) rfl rfl (cuts := [(44, [0, 1, 2, 3, 4, 6, 8])]) 400 _ _ _ _ ?_
    show (0 ≤ (4 : Int) ∧ (4 : Int) < 49) ∧ (((g 41 4).toInt ≤ l8.toInt → (qm_PW X 220 [.long (l6 - l4), .long l6, .int c] g _)) ∧ (l8.toInt < (g 41 4).toInt → (qm_PW X 178 [.ref 39, .int b, .int l8] g _)))
    refine ⟨by decide, ?_⟩
    refine ⟨fun c1 => ?_, fun c2 => ?_⟩
    · refine sf_220 X g ((l6 - l4) : Int64) (l6 : Int64) c (k20_ne hi0.1) _ (fun r3 p4 => ?_)
      show Q (some (.long r3)) g
      exact hq r3 g ⟨hgmi, hgsm, hgzs, hgrw, (fun k hk => hgf k hk)⟩
    · refine sf_178_39 X g b l8 ⟨hgam, (by omega)⟩ _ (fun r5 p6 => ?_)
      show (r5 = 0 → (qm_PW X 178 [.ref 39, .int b, .int l8] g _)) ∧ (¬ r5 = 0 → (qm_PW X 221 [.ref 39, .int l8, .int a] g _))
      refine ⟨fun c7 => ?_, fun c8 => ?_⟩
      · refine sf_178_39 X g b l8 ⟨hgam, (by omega)⟩ _ (fun r9 p10 => ?_)
        show (r9 = 0 → (qm_PA X 222 44 [(0, .ref 39), (1, .int a), (2, .int b), (3, .int c), (4, .long (l4 * 1)), (6, .long (l6 * 1)), (8, .int (l8 + 1))] [] g Q)) ∧ (¬ r9 = 0 → (qm_PA X 222 44 [(0, .ref 39), (1, .int a), (2, .int b), (3, .int c), (4, .long (l4 * 1)), (6, .long (l6 * 20)), (8, .int (l8 + 1))] [] g Q))
        refine ⟨fun c11 => ?_, fun c12 => ?_⟩
        · exact ih (l4 * 1) (l6 * 1) (l8 + 1) g ⟨(by show k20 (l6 * 1) (l8 + 1) ∧ 0 ≤ b.toInt ∧ b.toInt ≤ 9; exact ⟨k20_one hi0.1 (by omega), by omega, by omega⟩), hgmi, hgsm, hgzs, hgrw, hgam, (fun k hk => hgf k hk)⟩ (by have := ti_addK l8 (1 : Int32) 1 rfl; show (10 - (l8 + 1).toInt).toNat < n; omega)
        · exact ih (l4 * 1) (l6 * 20) (l8 + 1) g ⟨(by show k20 (l6 * 20) (l8 + 1) ∧ 0 ≤ b.toInt ∧ b.toInt ≤ 9; exact ⟨k20_mul hi0.1 (by omega), by omega, by omega⟩), hgmi, hgsm, hgzs, hgrw, hgam, (fun k hk => hgf k hk)⟩ (by have := ti_addK l8 (1 : Int32) 1 rfl; show (10 - (l8 + 1).toInt).toNat < n; omega)
      · refine sf_221_39 X g l8 a ⟨hgam, (by omega)⟩ _ (fun r13 p14 => ?_)
        show qm_PW X 178 [.ref 39, .int b, .int l8] g _
        refine sf_178_39 X g b l8 ⟨hgam, (by omega)⟩ _ (fun r15 p16 => ?_)
        show (r15 = 0 → (qm_PA X 222 44 [(0, .ref 39), (1, .int a), (2, .int b), (3, .int c), (4, .long (l4 * (Int32.toInt64 r13))), (6, .long (l6 * 1)), (8, .int (l8 + 1))] [] g Q)) ∧ (¬ r15 = 0 → (qm_PA X 222 44 [(0, .ref 39), (1, .int a), (2, .int b), (3, .int c), (4, .long (l4 * (Int32.toInt64 r13))), (6, .long (l6 * 20)), (8, .int (l8 + 1))] [] g Q))
        refine ⟨fun c17 => ?_, fun c18 => ?_⟩
        · exact ih (l4 * (Int32.toInt64 r13)) (l6 * 1) (l8 + 1) g ⟨(by show k20 (l6 * 1) (l8 + 1) ∧ 0 ≤ b.toInt ∧ b.toInt ≤ 9; exact ⟨k20_one hi0.1 (by omega), by omega, by omega⟩), hgmi, hgsm, hgzs, hgrw, hgam, (fun k hk => hgf k hk)⟩ (by have := ti_addK l8 (1 : Int32) 1 rfl; show (10 - (l8 + 1).toInt).toNat < n; omega)
        · exact ih (l4 * (Int32.toInt64 r13)) (l6 * 20) (l8 + 1) g ⟨(by show k20 (l6 * 20) (l8 + 1) ∧ 0 ≤ b.toInt ∧ b.toInt ≤ 9; exact ⟨k20_mul hi0.1 (by omega), by omega, by omega⟩), hgmi, hgsm, hgzs, hgrw, hgam, (fun k hk => hgf k hk)⟩ (by have := ti_addK l8 (1 : Int32) 1 rfl; show (10 - (l8 + 1).toInt).toNat < n; omega)
set_option maxRecDepth 100000 in
set_option maxHeartbeats 4000000 in
theorem sf_222_39 (X : qm_X) (h : qm_H) (a : Int32) (b : Int32) (c : Int32) (hp : mi h ∧ sm h ∧ zs h ∧ rw_ h) (Q : qm_Q) (hq : ∀ r : Int64, ∀ h' : qm_H, (mi h' ∧ sm h' ∧ zs h' ∧ rw_ h' ∧ (∀ k, (k < 41 ∨ 41 < k) → h' k = h k)) → Q (some (.long r)) h') : qm_PW X 222 [.ref 39, .int a, .int b, .int c] h Q := by
  have hmmi : mi h := hp.1
  have ⟨⟨_, _⟩, ⟨_, _⟩, ⟨_, _⟩, ⟨_, _⟩, _, _⟩ := hmmi
  have hmsm : sm h := hp.2.1
  have ⟨⟨⟨_, _⟩, _, _⟩, _, _, _⟩ := hmsm
  have hmzs : zs h := hp.2.2.1
  have hmrw : rw_ h := hp.2.2.2
  refine qm_seg_ok (C := qc_222) (rt := some .long) rfl rfl (cuts := [(44, [0, 1, 2, 3, 4, 6, 8])]) 400 _ _ _ _ ?_
  show qm_PW X 141 [.long (Int32.toInt64 a), .long 0, .long 10] h _
  refine sf_141 X h ((Int32.toInt64 a) : Int64) (0 : Int64) (10 : Int64) trivial _ (fun r1 p2 => ?_)
  show (r1 = 0 → (Q (some (.long (-1 : Int64))) h)) ∧ (¬ r1 = 0 → (qm_PW X 167 [.ref 39, .int b] h _))
  refine ⟨fun c3 => ?_, fun c4 => ?_⟩
  · have := p2.2.2 c3
    exact hq (-1 : Int64) h ⟨hmmi, hmsm, hmzs, hmrw, (fun k hk => rfl)⟩
  · have := p2.2.1 c4
    refine sf_167_39 X h b hmsm _ (fun r5 p6 => ?_)
    show (r5 = 0 → (Q (some (.long (-1 : Int64))) h)) ∧ (¬ r5 = 0 → (qm_PW X 168 [.int c] h _))
    refine ⟨fun c7 => ?_, fun c8 => ?_⟩
    · exact hq (-1 : Int64) h ⟨hmmi, hmsm, hmzs, hmrw, (fun k hk => rfl)⟩
    · have := p6.2 c8
      refine sf_168 X h c trivial _ (fun r9 p10 => ?_)
      show (¬ r9 = 0 → (qm_PW X 169 [.ref 39] h _)) ∧ (r9 = 0 → (Q (some (.long (-1 : Int64))) h))
      refine ⟨fun c11 => ?_, fun c12 => ?_⟩
      · have := p10.2 c11
        refine sf_169_39 X h  hmsm _ (fun g13 p14 => ?_)
        have f15 : ∀ k, (k < 41 ∨ 41 < k) → g13 k = h k := fun k hk => (p14.2.1 k (by omega)).trans (rfl)
        have k16 : mi g13 := by unfold mi; rw [p14.2.1 39 (by omega)]; exact hmmi
        have k17 : sm g13 := by unfold sm; rw [p14.2.1 40 (by omega)]; exact hmsm
        have k18 : zs g13 := by unfold zs; rw [p14.2.1 49 (by omega)]; exact hmzs
        have k19 : rw_ g13 := by unfold rw_; rw [p14.2.1 46 (by omega)]; exact hmrw
        show qm_PA X 222 44 [(0, .ref 39), (1, .int a), (2, .int b), (3, .int c), (4, .long 1), (6, .long 1), (8, .int 0)] [] g13 Q
        exact (sf_222_39_c X h a b c hp Q hq _) (1 : Int64) (1 : Int64) (0 : Int32) g13 ⟨(by have : (0 : Int64).toInt = 0 := rfl; have : (10 : Int64).toInt = 10 := rfl; have := i64 a; show k20 (1 : Int64) (0 : Int32) ∧ 0 ≤ b.toInt ∧ b.toInt ≤ 9; exact ⟨k20_0, by omega, by omega⟩), k16, k17, k18, k19, p14.1, (fun k hk => f15 k hk)⟩ (Nat.lt_succ_self _)
      · exact hq (-1 : Int64) h ⟨hmmi, hmsm, hmzs, hmrw, (fun k hk => rfl)⟩
-- ThreadBankModel.findOwed(I)V
set_option maxRecDepth 100000 in
set_option maxHeartbeats 4000000 in
theorem sg_180_c (X : qm_X) (h : qm_H) (a : Int32) (hp : am h) (Q : qm_Q) (hq : ∀ h' : qm_H, ((∀ k, (k < 45 ∨ 45 < k) → h' k = h k) ∧ (owb (h' 45) 90)) → Q none h') : ∀ n : Nat, (∀ (l2 : Int32) (g : qm_H), ((0 ≤ l2.toInt ∧ l2.toInt ≤ 16 ∧ owz (g 45) l2.toInt) ∧ am g ∧ ∀ k, (k < 45 ∨ 45 < k) → g k = h k) → (116 - l2.toInt).toNat < n → qm_PA X 180 2 [(0, .ref 39), (1, .int a), (2, .int l2)] [] g Q) ∧ (∀ (l2 : Int32) (g : qm_H), ((0 ≤ l2.toInt ∧ l2.toInt ≤ 10 ∧ owb (g 45) (9 * l2.toInt)) ∧ am g ∧ ∀ k, (k < 45 ∨ 45 < k) → g k = h k) → (10 - l2.toInt).toNat < n → qm_PA X 180 23 [(0, .ref 39), (1, .int a), (2, .int l2)] [] g Q) := by
  have hmam : am h := hp
  have ⟨⟨_, _⟩, ⟨_, _⟩, _, _, _⟩ := hmam
  intro n
  induction n with
  | zero => exact ⟨fun _ _ _ h0 => absurd h0 (Nat.not_lt_zero _), fun _ _ _ h0 => absurd h0 (Nat.not_lt_zero _)⟩
  | succ n ih =>
    refine ⟨?_, ?_⟩
    · intro l2 g hi hr
      obtain ⟨hi0, hgam, hgf⟩ := hi
      have ⟨⟨_, _⟩, ⟨_, _⟩, _, _, _⟩ := hgam
      refine qm_seg_ok (C := qc_180) (rt := none) rfl rfl (cuts := [(2, [0, 1, 2]), (23, [0, 1, 2])]) 400 _ _ _ _ ?_
      show (16 ≤ l2.toInt → (qm_PA X 180 23 [(0, .ref 39), (1, .int a), (2, .int 0)] [] g Q)) ∧ (l2.toInt < 16 → ((0 ≤ l2.toInt ∧ l2.toInt < 16) ∧ (qm_PA X 180 2 [(0, .ref 39), (1, .int a), (2, .int (l2 + 1))] [] (qm_row g 45 (upd (g 45) l2.toInt.toNat 0)) Q)))
      refine ⟨fun c1 => ?_, fun c2 => ?_⟩
      · exact ih.2 (0 : Int32) g ⟨(by have : (0 : Int32).toInt = 0 := rfl; first | exact ⟨by decide, by decide, owb_z hi0.2.2 (by omega) (by decide)⟩ | exact ⟨by omega, by omega, owb_add hi0.2.2 (by omega) (by first | decide | omega) (by omega) (by omega)⟩), hgam, (fun k hk => hgf k hk)⟩ (by have : (0 : Int32).toInt = 0 := rfl; show (10 - (0 : Int32).toInt).toNat < n; omega)
      · refine ⟨(by omega), ?_⟩
        exact ih.1 (l2 + 1) (qm_row g 45 (upd (g 45) l2.toInt.toNat 0)) ⟨(by have := ti_addK l2 (1 : Int32) 1 rfl; first | exact ⟨by decide, by decide, owz_0⟩ | exact ⟨by omega, by omega, owz_upd hi0.2.2 hi0.1 (by omega)⟩), (by exact hgam), (fun k hk => by simp only [qm_row]; rw [if_neg (by omega)]; exact hgf k hk)⟩ (by have := ti_addK l2 (1 : Int32) 1 rfl; show (116 - (l2 + 1).toInt).toNat < n; omega)
    · intro l2 g hi hr
      obtain ⟨hi0, hgam, hgf⟩ := hi
      have ⟨⟨_, _⟩, ⟨_, _⟩, _, _, _⟩ := hgam
      refine qm_seg_ok (C := qc_180) (rt := none) rfl rfl (cuts := [(2, [0, 1, 2]), (23, [0, 1, 2])]) 400 _ _ _ _ ?_
      show (0 ≤ (4 : Int) ∧ (4 : Int) < 49) ∧ (((g 41 4).toInt ≤ l2.toInt → (Q none g)) ∧ (l2.toInt < (g 41 4).toInt → (qm_PW X 179 [.ref 39, .int l2] g _)))
      refine ⟨by decide, ?_⟩
      refine ⟨fun c1 => ?_, fun c2 => ?_⟩
      · exact hq g ⟨(fun k hk => hgf k hk), (by exact owb_le hi0.2.2 (by omega))⟩
      · refine sf_179_39 X g l2 ⟨hgam, (by omega)⟩ _ (fun r3 p4 => ?_)
        show (¬ r3 = 0 → (qm_PW X 171 [.ref 39, .int l2, .int 1] g _)) ∧ (r3 = 0 → (qm_PW X 171 [.ref 39, .int l2, .int 2] g _))
        refine ⟨fun c5 => ?_, fun c6 => ?_⟩
        · refine sf_171_39 X g l2 (1 : Int32) ⟨hgam, (by have : (1 : Int32).toInt = 1 := rfl; omega)⟩ _ (fun r7 p8 => ?_)
          replace p8 := p8.2.1 rfl
          show ¬ (10 : Int32) = 0 ∧ (qm_PW X 171 [.ref 39, .int l2, .int 1] g _)
          refine ⟨by decide, ?_⟩
          refine sf_171_39 X g l2 (1 : Int32) ⟨hgam, (by have : (1 : Int32).toInt = 1 := rfl; omega)⟩ _ (fun r9 p10 => ?_)
          replace p10 := p10.2.1 rfl
          show ¬ (10 : Int32) = 0 ∧ ((0 ≤ ((4 * (r7 / 10)) + (r9 - r9 / 10 * 10)).toInt ∧ ((4 * (r7 / 10)) + (r9 - r9 / 10 * 10)).toInt < 16) ∧ (((0 : Int32) = 0 → ((0 ≤ ((4 * (r7 / 10)) + (r9 - r9 / 10 * 10)).toInt ∧ ((4 * (r7 / 10)) + (r9 - r9 / 10 * 10)).toInt < 16) ∧ (qm_PA X 180 23 [(0, .ref 39), (1, .int a), (2, .int (l2 + 1))] [] (qm_row g 45 (upd (g 45) ((4 * (r7 / 10)) + (r9 - r9 / 10 * 10)).toInt.toNat ((g 45 ((4 * (r7 / 10)) + (r9 - r9 / 10 * 10)).toInt.toNat) + 0))) Q))) ∧ (¬ (0 : Int32) = 0 → (qm_PW X 171 [.ref 39, .int l2, .int 2] g _))))
          refine ⟨by decide, ?_⟩
          refine ⟨(by have := ti_div (10 : Int32) 10 rfl r7 (by decide); have := ti_mulL (4 : Int32) 4 rfl (r7 / 10); have := ti_rem (10 : Int32) 10 rfl r9 (by decide); have := ti_add (4 * (r7 / 10)) (r9 - r9 / 10 * 10); omega), ?_⟩
          refine ⟨fun c11 => ?_, fun c12 => ?_⟩
          · refine ⟨(by have := ti_div (10 : Int32) 10 rfl r7 (by decide); have := ti_mulL (4 : Int32) 4 rfl (r7 / 10); have := ti_rem (10 : Int32) 10 rfl r9 (by decide); have := ti_add (4 * (r7 / 10)) (r9 - r9 / 10 * 10); omega), ?_⟩
            exact ih.2 (l2 + 1) (qm_row g 45 (upd (g 45) ((4 * (r7 / 10)) + (r9 - r9 / 10 * 10)).toInt.toNat ((g 45 ((4 * (r7 / 10)) + (r9 - r9 / 10 * 10)).toInt.toNat) + 0))) ⟨(by have := ti_addK l2 (1 : Int32) 1 rfl; have := ti_div (10 : Int32) 10 rfl r7 (by decide); have := ti_mulL (4 : Int32) 4 rfl (r7 / 10); have := ti_rem (10 : Int32) 10 rfl r9 (by decide); have := ti_add (4 * (r7 / 10)) (r9 - r9 / 10 * 10); first | exact ⟨by decide, by decide, owb_z hi0.2.2 (by omega) (by decide)⟩ | exact ⟨by omega, by omega, owb_add hi0.2.2 (by omega) (by first | decide | omega) (by omega) (by omega)⟩), (by exact hgam), (fun k hk => by simp only [qm_row]; rw [if_neg (by omega)]; exact hgf k hk)⟩ (by have := ti_addK l2 (1 : Int32) 1 rfl; show (10 - (l2 + 1).toInt).toNat < n; omega)
          · exact absurd c12 (by decide)
        · refine sf_171_39 X g l2 (2 : Int32) ⟨hgam, (by have : (2 : Int32).toInt = 2 := rfl; omega)⟩ _ (fun r15 p16 => ?_)
          replace p16 := p16.2.2 rfl
          show ¬ (10 : Int32) = 0 ∧ ((a.toInt < (r15 - r15 / 10 * 10).toInt → (qm_PW X 171 [.ref 39, .int l2, .int 1] g _)) ∧ ((r15 - r15 / 10 * 10).toInt ≤ a.toInt → (qm_PW X 171 [.ref 39, .int l2, .int 1] g _)))
          refine ⟨by decide, ?_⟩
          refine ⟨fun c17 => ?_, fun c18 => ?_⟩
          · refine sf_171_39 X g l2 (1 : Int32) ⟨hgam, (by have : (1 : Int32).toInt = 1 := rfl; have := ti_rem (10 : Int32) 10 rfl r15 (by decide); omega)⟩ _ (fun r19 p20 => ?_)
            replace p20 := p20.2.1 rfl
            show ¬ (10 : Int32) = 0 ∧ (qm_PW X 171 [.ref 39, .int l2, .int 1] g _)
            refine ⟨by decide, ?_⟩
            refine sf_171_39 X g l2 (1 : Int32) ⟨hgam, (by have : (1 : Int32).toInt = 1 := rfl; have := ti_rem (10 : Int32) 10 rfl r15 (by decide); omega)⟩ _ (fun r21 p22 => ?_)
            replace p22 := p22.2.1 rfl
            show ¬ (10 : Int32) = 0 ∧ ((0 ≤ ((4 * (r19 / 10)) + (r21 - r21 / 10 * 10)).toInt ∧ ((4 * (r19 / 10)) + (r21 - r21 / 10 * 10)).toInt < 16) ∧ (((0 : Int32) = 0 → ((0 ≤ ((4 * (r19 / 10)) + (r21 - r21 / 10 * 10)).toInt ∧ ((4 * (r19 / 10)) + (r21 - r21 / 10 * 10)).toInt < 16) ∧ (qm_PA X 180 23 [(0, .ref 39), (1, .int a), (2, .int (l2 + 1))] [] (qm_row g 45 (upd (g 45) ((4 * (r19 / 10)) + (r21 - r21 / 10 * 10)).toInt.toNat ((g 45 ((4 * (r19 / 10)) + (r21 - r21 / 10 * 10)).toInt.toNat) + 0))) Q))) ∧ (¬ (0 : Int32) = 0 → (qm_PW X 171 [.ref 39, .int l2, .int 2] g _))))
            refine ⟨by decide, ?_⟩
            refine ⟨(by have := ti_div (10 : Int32) 10 rfl r19 (by decide); have := ti_mulL (4 : Int32) 4 rfl (r19 / 10); have := ti_rem (10 : Int32) 10 rfl r21 (by decide); have := ti_add (4 * (r19 / 10)) (r21 - r21 / 10 * 10); have := ti_rem (10 : Int32) 10 rfl r15 (by decide); omega), ?_⟩
            refine ⟨fun c23 => ?_, fun c24 => ?_⟩
            · refine ⟨(by have := ti_div (10 : Int32) 10 rfl r19 (by decide); have := ti_mulL (4 : Int32) 4 rfl (r19 / 10); have := ti_rem (10 : Int32) 10 rfl r21 (by decide); have := ti_add (4 * (r19 / 10)) (r21 - r21 / 10 * 10); have := ti_rem (10 : Int32) 10 rfl r15 (by decide); omega), ?_⟩
              exact ih.2 (l2 + 1) (qm_row g 45 (upd (g 45) ((4 * (r19 / 10)) + (r21 - r21 / 10 * 10)).toInt.toNat ((g 45 ((4 * (r19 / 10)) + (r21 - r21 / 10 * 10)).toInt.toNat) + 0))) ⟨(by have := ti_addK l2 (1 : Int32) 1 rfl; have := ti_div (10 : Int32) 10 rfl r19 (by decide); have := ti_mulL (4 : Int32) 4 rfl (r19 / 10); have := ti_rem (10 : Int32) 10 rfl r21 (by decide); have := ti_add (4 * (r19 / 10)) (r21 - r21 / 10 * 10); have := ti_rem (10 : Int32) 10 rfl r15 (by decide); first | exact ⟨by decide, by decide, owb_z hi0.2.2 (by omega) (by decide)⟩ | exact ⟨by omega, by omega, owb_add hi0.2.2 (by omega) (by first | decide | omega) (by omega) (by omega)⟩), (by exact hgam), (fun k hk => by simp only [qm_row]; rw [if_neg (by omega)]; exact hgf k hk)⟩ (by have := ti_addK l2 (1 : Int32) 1 rfl; have := ti_rem (10 : Int32) 10 rfl r15 (by decide); show (10 - (l2 + 1).toInt).toNat < n; omega)
            · exact absurd c24 (by decide)
          · refine sf_171_39 X g l2 (1 : Int32) ⟨hgam, (by have : (1 : Int32).toInt = 1 := rfl; have := ti_rem (10 : Int32) 10 rfl r15 (by decide); omega)⟩ _ (fun r27 p28 => ?_)
            replace p28 := p28.2.1 rfl
            show ¬ (10 : Int32) = 0 ∧ (qm_PW X 171 [.ref 39, .int l2, .int 1] g _)
            refine ⟨by decide, ?_⟩
            refine sf_171_39 X g l2 (1 : Int32) ⟨hgam, (by have : (1 : Int32).toInt = 1 := rfl; have := ti_rem (10 : Int32) 10 rfl r15 (by decide); omega)⟩ _ (fun r29 p30 => ?_)
            replace p30 := p30.2.1 rfl
            show ¬ (10 : Int32) = 0 ∧ ((0 ≤ ((4 * (r27 / 10)) + (r29 - r29 / 10 * 10)).toInt ∧ ((4 * (r27 / 10)) + (r29 - r29 / 10 * 10)).toInt < 16) ∧ (((1 : Int32) = 0 → ((0 ≤ ((4 * (r27 / 10)) + (r29 - r29 / 10 * 10)).toInt ∧ ((4 * (r27 / 10)) + (r29 - r29 / 10 * 10)).toInt < 16) ∧ (qm_PA X 180 23 [(0, .ref 39), (1, .int a), (2, .int (l2 + 1))] [] (qm_row g 45 (upd (g 45) ((4 * (r27 / 10)) + (r29 - r29 / 10 * 10)).toInt.toNat ((g 45 ((4 * (r27 / 10)) + (r29 - r29 / 10 * 10)).toInt.toNat) + 0))) Q))) ∧ (¬ (1 : Int32) = 0 → (qm_PW X 171 [.ref 39, .int l2, .int 2] g _))))
            refine ⟨by decide, ?_⟩
            refine ⟨(by have := ti_div (10 : Int32) 10 rfl r27 (by decide); have := ti_mulL (4 : Int32) 4 rfl (r27 / 10); have := ti_rem (10 : Int32) 10 rfl r29 (by decide); have := ti_add (4 * (r27 / 10)) (r29 - r29 / 10 * 10); have := ti_rem (10 : Int32) 10 rfl r15 (by decide); omega), ?_⟩
            refine ⟨fun c31 => ?_, fun c32 => ?_⟩
            · exact absurd c31 (by decide)
            · refine sf_171_39 X g l2 (2 : Int32) ⟨hgam, (by have : (2 : Int32).toInt = 2 := rfl; have := ti_rem (10 : Int32) 10 rfl r15 (by decide); omega)⟩ _ (fun r33 p34 => ?_)
              replace p34 := p34.2.2 rfl
              show ¬ (10 : Int32) = 0 ∧ ((0 ≤ ((4 * (r27 / 10)) + (r29 - r29 / 10 * 10)).toInt ∧ ((4 * (r27 / 10)) + (r29 - r29 / 10 * 10)).toInt < 16) ∧ (qm_PA X 180 23 [(0, .ref 39), (1, .int a), (2, .int (l2 + 1))] [] (qm_row g 45 (upd (g 45) ((4 * (r27 / 10)) + (r29 - r29 / 10 * 10)).toInt.toNat ((g 45 ((4 * (r27 / 10)) + (r29 - r29 / 10 * 10)).toInt.toNat) + (r33 / 10)))) Q))
              refine ⟨by decide, ?_⟩
              refine ⟨(by have := ti_div (10 : Int32) 10 rfl r27 (by decide); have := ti_mulL (4 : Int32) 4 rfl (r27 / 10); have := ti_rem (10 : Int32) 10 rfl r29 (by decide); have := ti_add (4 * (r27 / 10)) (r29 - r29 / 10 * 10); have := ti_rem (10 : Int32) 10 rfl r15 (by decide); omega), ?_⟩
              exact ih.2 (l2 + 1) (qm_row g 45 (upd (g 45) ((4 * (r27 / 10)) + (r29 - r29 / 10 * 10)).toInt.toNat ((g 45 ((4 * (r27 / 10)) + (r29 - r29 / 10 * 10)).toInt.toNat) + (r33 / 10)))) ⟨(by have := ti_addK l2 (1 : Int32) 1 rfl; have := ti_div (10 : Int32) 10 rfl r27 (by decide); have := ti_mulL (4 : Int32) 4 rfl (r27 / 10); have := ti_rem (10 : Int32) 10 rfl r29 (by decide); have := ti_add (4 * (r27 / 10)) (r29 - r29 / 10 * 10); have := ti_div (10 : Int32) 10 rfl r33 (by decide); have := ti_rem (10 : Int32) 10 rfl r15 (by decide); first | exact ⟨by decide, by decide, owb_z hi0.2.2 (by omega) (by decide)⟩ | exact ⟨by omega, by omega, owb_add hi0.2.2 (by omega) (by first | decide | omega) (by omega) (by omega)⟩), (by exact hgam), (fun k hk => by simp only [qm_row]; rw [if_neg (by omega)]; exact hgf k hk)⟩ (by have := ti_addK l2 (1 : Int32) 1 rfl; have := ti_rem (10 : Int32) 10 rfl r15 (by decide); show (10 - (l2 + 1).toInt).toNat < n; omega)
set_option maxRecDepth 100000 in
set_option maxHeartbeats 4000000 in
theorem sg_180 (X : qm_X) (h : qm_H) (a : Int32) (hp : am h) (Q : qm_Q) (hq : ∀ h' : qm_H, ((∀ k, (k < 45 ∨ 45 < k) → h' k = h k) ∧ (owb (h' 45) 90)) → Q none h') : qm_PW X 180 [.ref 39, .int a] h Q := by
  have hmam : am h := hp
  have ⟨⟨_, _⟩, ⟨_, _⟩, _, _, _⟩ := hmam
  refine qm_seg_ok (C := qc_180) (rt := none) rfl rfl (cuts := [(2, [0, 1, 2]), (23, [0, 1, 2])]) 400 _ _ _ _ ?_
  show qm_PA X 180 2 [(0, .ref 39), (1, .int a), (2, .int 0)] [] h Q
  exact (sg_180_c X h a hp Q hq _).1 (0 : Int32) h ⟨(by have : (0 : Int32).toInt = 0 := rfl; first | exact ⟨by decide, by decide, owz_0⟩ | exact ⟨by omega, by omega, owz_upd hi0.2.2 hi0.1 (by omega)⟩), hmam, (fun k hk => rfl)⟩ (Nat.lt_succ_self _)
-- ThreadBankModel.startsOwed()V
set_option maxRecDepth 100000 in
set_option maxHeartbeats 4000000 in
theorem sg_202 (X : qm_X) (h : qm_H) (hp : mi h ∧ sm h ∧ zs h ∧ rw_ h) (Q : qm_Q) (hq : ∀ h' : qm_H, (mi h' ∧ sm h' ∧ zs h' ∧ rw_ h' ∧ (∀ k, (k < 41 ∨ 45 < k ∨ k = 42 ∨ k = 43 ∨ k = 44) → h' k = h k) ∧ (owb (h' 45) 90)) → Q none h') : qm_PW X 202 [.ref 39] h Q := by
  have hmmi : mi h := hp.1
  have ⟨⟨_, _⟩, ⟨_, _⟩, ⟨_, _⟩, ⟨_, _⟩, _, _⟩ := hmmi
  have hmsm : sm h := hp.2.1
  have ⟨⟨⟨_, _⟩, _, _⟩, _, _, _⟩ := hmsm
  have hmzs : zs h := hp.2.2.1
  have hmrw : rw_ h := hp.2.2.2
  refine qm_seg_ok (C := qc_202) (rt := none) rfl rfl (cuts := []) 400 _ _ _ _ ?_
  show qm_PW X 169 [.ref 39] h _
  refine sf_169_39 X h  hmsm _ (fun g1 p2 => ?_)
  have f3 : ∀ k, (k < 41 ∨ 45 < k ∨ k = 42 ∨ k = 43 ∨ k = 44) → g1 k = h k := fun k hk => (p2.2.1 k (by omega)).trans (rfl)
  have k4 : mi g1 := by unfold mi; rw [p2.2.1 39 (by omega)]; exact hmmi
  have k5 : sm g1 := by unfold sm; rw [p2.2.1 40 (by omega)]; exact hmsm
  have k6 : zs g1 := by unfold zs; rw [p2.2.1 49 (by omega)]; exact hmzs
  have k7 : rw_ g1 := by unfold rw_; rw [p2.2.1 46 (by omega)]; exact hmrw
  show qm_PW X 180 [.ref 39, .int 9] g1 _
  refine sg_180 X g1 (9 : Int32) p2.1 _ (fun g8 p9 => ?_)
  have f10 : ∀ k, (k < 41 ∨ 45 < k ∨ k = 42 ∨ k = 43 ∨ k = 44) → g8 k = h k := fun k hk => (p9.1 k (by omega)).trans (f3 k hk)
  have k11 : mi g8 := by unfold mi; rw [p9.1 39 (by omega)]; exact k4
  have k12 : sm g8 := by unfold sm; rw [p9.1 40 (by omega)]; exact k5
  have k13 : zs g8 := by unfold zs; rw [p9.1 49 (by omega)]; exact k6
  have k14 : rw_ g8 := by unfold rw_; rw [p9.1 46 (by omega)]; exact k7
  have k15 : am g8 := by unfold am; rw [p9.1 41 (by omega)]; exact p2.1
  show Q none g8
  exact hq g8 ⟨k11, k12, k13, k14, (fun k hk => f10 k hk), (by exact p9.2)⟩
set_option maxRecDepth 100000 in
set_option maxHeartbeats 4000000 in
theorem sf_204_39 (X : qm_X) (h : qm_H) (hp : mi h ∧ sm h ∧ zs h ∧ rw_ h) (Q : qm_Q) (hq : ∀ (r : Int32) (h' : qm_H), (mi h' ∧ sm h' ∧ zs h' ∧ rw_ h' ∧ (h' 39 3 = h 39 3) ∧ (∀ k, (k < 39 ∨ 46 < k ∨ k = 40 ∨ k = 42 ∨ k = 43 ∨ k = 44) → h' k = h k) ∧ ((h' 39 9).toInt = (h 39 9).toInt ∧ (h' 39 14).toInt = (h 39 14).toInt)) → Q (some (.int r)) h') : qm_PW X 204 [.ref 39] h Q := by
  refine qm_seg_ok (C := qc_204) (rt := some .int) rfl rfl (cuts := [(6, [0, 1]), (38, [0, 1, 2, 3])]) 400 _ _ _ _ ?_
  show qm_PW X 202 [.ref 39] h _
  refine sg_202 X h hp _ (fun g p => ?_)
  show qm_PA X 204 6 [(0, .ref 39), (1, .int 0)] [] g Q
  exact (sg_204_c X h Q (fun r h' p => hq r h' ⟨p.1, p.2.1, p.2.2.1, p.2.2.2.1, p.2.2.2.2.2.2.2, p.2.2.2.2.1, p.2.2.2.2.2.1, p.2.2.2.2.2.2.1⟩) _).1 0 g ⟨p.1, p.2.1, p.2.2.1, p.2.2.2.1, owb_le p.2.2.2.2.2 (by decide), fun k hk => p.2.2.2.2.1 k (by omega), congrArg (fun f : Nat → Int32 => (f 9).toInt) (p.2.2.2.2.1 39 (by omega)), congrArg (fun f : Nat → Int32 => (f 14).toInt) (p.2.2.2.2.1 39 (by omega)), congrFun (p.2.2.2.2.1 39 (by omega)) 3⟩ (Nat.lt_succ_self _)
-- ThreadBankModel.clear(I)I
set_option maxRecDepth 100000 in
set_option maxHeartbeats 4000000 in
theorem sf_205_39 (X : qm_X) (h : qm_H) (a : Int32) (hp : mi h ∧ sm h ∧ zs h ∧ rw_ h) (Q : qm_Q) (hq : ∀ r : Int32, ∀ h' : qm_H, (mi h' ∧ sm h' ∧ zs h' ∧ rw_ h' ∧ (h' 39 3 = h 39 3) ∧ (∀ k, (k < 39 ∨ 46 < k ∨ k = 40 ∨ k = 42 ∨ k = 43 ∨ k = 44) → h' k = h k) ∧ (((h' 39 9).toInt = (h 39 9).toInt ∧ (h' 39 14).toInt = (h 39 14).toInt))) → Q (some (.int r)) h') : qm_PW X 205 [.ref 39, .int a] h Q := by
  have hmmi : mi h := hp.1
  have ⟨⟨_, _⟩, ⟨_, _⟩, ⟨_, _⟩, ⟨_, _⟩, _, _⟩ := hmmi
  have hmsm : sm h := hp.2.1
  have ⟨⟨⟨_, _⟩, _, _⟩, _, _, _⟩ := hmsm
  have hmzs : zs h := hp.2.2.1
  have hmrw : rw_ h := hp.2.2.2
  refine qm_seg_ok (C := qc_205) (rt := some .int) rfl rfl (cuts := []) 400 _ _ _ _ ?_
  show qm_PW X 168 [.int a] h _
  refine sf_168 X h a trivial _ (fun r1 p2 => ?_)
  show (¬ r1 = 0 → (qm_PW X 204 [.ref 39] h _)) ∧ (r1 = 0 → (Q (some (.int (-1 : Int32))) h))
  refine ⟨fun c3 => ?_, fun c4 => ?_⟩
  · have := p2.2 c3
    refine sf_204_39 X h  ⟨hmmi, hmsm, hmzs, hmrw⟩ _ (fun r5 g6 p7 => ?_)
    have k8s : (g6 39 3 = h 39 3) := (p7.2.2.2.2.1).trans rfl
    have f9 : ∀ k, (k < 39 ∨ 46 < k ∨ k = 40 ∨ k = 42 ∨ k = 43 ∨ k = 44) → g6 k = h k := fun k hk => (p7.2.2.2.2.2.1 k (by omega)).trans (rfl)
    have o10 : ((g6 39 9).toInt = (h 39 9).toInt ∧ (g6 39 14).toInt = (h 39 14).toInt) := p7.2.2.2.2.2.2
    have e23_g6 : (g6 23 2).toInt = (h 23 2).toInt := congrArg (fun f : Nat → Int32 => (f 2).toInt) (p7.2.2.2.2.2.1 23 (by omega))
    show (¬ a = 0 → (Q (some (.int r5)) g6)) ∧ (a = 0 → (qm_PW X 183 [.ref 39] g6 _))
    refine ⟨fun c11 => ?_, fun c12 => ?_⟩
    · exact hq r5 g6 ⟨p7.1, p7.2.1, p7.2.2.1, p7.2.2.2.1, k8s, (fun k hk => f9 k hk), (by show ((g6 39 9).toInt = (h 39 9).toInt ∧ (g6 39 14).toInt = (h 39 14).toInt); omega)⟩
    · refine sf_183_39 X g6  trivial _ (fun r13 p14 => ?_)
      show Q (some (.int r13)) g6
      exact hq r13 g6 ⟨p7.1, p7.2.1, p7.2.2.1, p7.2.2.2.1, k8s, (fun k hk => f9 k hk), (by show ((g6 39 9).toInt = (h 39 9).toInt ∧ (g6 39 14).toInt = (h 39 14).toInt); omega)⟩
  · exact hq (-1 : Int32) h ⟨hmmi, hmsm, hmzs, hmrw, rfl, (fun k hk => rfl), (by show ((h 39 9).toInt = (h 39 9).toInt ∧ (h 39 14).toInt = (h 39 14).toInt); omega)⟩
-- ThreadBankModel.left(I)I
set_option maxRecDepth 100000 in
set_option maxHeartbeats 4000000 in
theorem sf_206_39 (X : qm_X) (h : qm_H) (a : Int32) (hp : mi h ∧ sm h ∧ zs h ∧ rw_ h) (Q : qm_Q) (hq : ∀ r : Int32, ∀ h' : qm_H, (mi h' ∧ sm h' ∧ zs h' ∧ rw_ h' ∧ (h' 39 3 = h 39 3) ∧ (∀ k, (k < 39 ∨ 46 < k ∨ k = 40 ∨ k = 42 ∨ k = 43 ∨ k = 44) → h' k = h k) ∧ (((h' 39 9).toInt = (h 39 9).toInt ∧ (h' 39 14).toInt = (h 39 14).toInt))) → Q (some (.int r)) h') : qm_PW X 206 [.ref 39, .int a] h Q := by
  have hmmi : mi h := hp.1
  have ⟨⟨_, _⟩, ⟨_, _⟩, ⟨_, _⟩, ⟨_, _⟩, _, _⟩ := hmmi
  have hmsm : sm h := hp.2.1
  have ⟨⟨⟨_, _⟩, _, _⟩, _, _, _⟩ := hmsm
  have hmzs : zs h := hp.2.2.1
  have hmrw : rw_ h := hp.2.2.2
  refine qm_seg_ok (C := qc_206) (rt := some .int) rfl rfl (cuts := []) 400 _ _ _ _ ?_
  show qm_PW X 166 [.ref 39, .int a] h _
  refine sf_166_39 X h a hmmi _ (fun r1 p2 => ?_)
  show (¬ r1 = 0 → (qm_PW X 204 [.ref 39] h _)) ∧ (r1 = 0 → (Q (some (.int (-1 : Int32))) h))
  refine ⟨fun c3 => ?_, fun c4 => ?_⟩
  · have := p2.2 c3
    refine sf_204_39 X h  ⟨hmmi, hmsm, hmzs, hmrw⟩ _ (fun r5 g6 p7 => ?_)
    have k8s : (g6 39 3 = h 39 3) := (p7.2.2.2.2.1).trans rfl
    have f9 : ∀ k, (k < 39 ∨ 46 < k ∨ k = 40 ∨ k = 42 ∨ k = 43 ∨ k = 44) → g6 k = h k := fun k hk => (p7.2.2.2.2.2.1 k (by omega)).trans (rfl)
    have o10 : ((g6 39 9).toInt = (h 39 9).toInt ∧ (g6 39 14).toInt = (h 39 14).toInt) := p7.2.2.2.2.2.2
    have e23_g6 : (g6 23 2).toInt = (h 23 2).toInt := congrArg (fun f : Nat → Int32 => (f 2).toInt) (p7.2.2.2.2.2.1 23 (by omega))
    show qm_PW X 181 [.ref 39, .int a] g6 _
    refine sf_181_39 X g6 a (by omega) _ (fun r11 p12 => ?_)
    show Q (some (.int r11)) g6
    exact hq r11 g6 ⟨p7.1, p7.2.1, p7.2.2.1, p7.2.2.2.1, k8s, (fun k hk => f9 k hk), (by show ((g6 39 9).toInt = (h 39 9).toInt ∧ (g6 39 14).toInt = (h 39 14).toInt); omega)⟩
  · exact hq (-1 : Int32) h ⟨hmmi, hmsm, hmzs, hmrw, rfl, (fun k hk => rfl), (by show ((h 39 9).toInt = (h 39 9).toInt ∧ (h 39 14).toInt = (h 39 14).toInt); omega)⟩
/-! ===== the tape: runs of bytes, tokens, as both sides read them ===== -/
noncomputable def rk (f : Nat → Int32) (n : Nat) (lo hi : Int) : Nat → Nat → Nat
  | 0, p => p
  | k + 1, p => if p < n ∧ lo ≤ (f p).toInt ∧ (f p).toInt ≤ hi then rk f n lo hi k (p + 1) else p
/-- the first place from p on at which no byte from lo to hi stands -/
noncomputable def run (f : Nat → Int32) (n : Nat) (lo hi : Int) (p : Nat) : Nat := rk f n lo hi (n - p) p
theorem run_step {f : Nat → Int32} {n : Nat} {lo hi : Int} {p : Nat} (h : p < n ∧ lo ≤ (f p).toInt ∧ (f p).toInt ≤ hi) : run f n lo hi p = run f n lo hi (p + 1) := by
  unfold run
  rw [show n - p = (n - (p + 1)) + 1 by omega]
  show (if p < n ∧ lo ≤ (f p).toInt ∧ (f p).toInt ≤ hi then rk f n lo hi (n - (p + 1)) (p + 1) else p) = _
  rw [if_pos h]
theorem run_stop {f : Nat → Int32} {n : Nat} {lo hi : Int} {p : Nat} (h : ¬ (p < n ∧ lo ≤ (f p).toInt ∧ (f p).toInt ≤ hi)) : run f n lo hi p = p := by
  unfold run
  cases n - p with
  | zero => rfl
  | succ k =>
    show (if p < n ∧ lo ≤ (f p).toInt ∧ (f p).toInt ≤ hi then rk f n lo hi k (p + 1) else p) = _
    rw [if_neg h]
theorem rk_ge {f : Nat → Int32} {n : Nat} {lo hi : Int} : ∀ (k p : Nat), p ≤ rk f n lo hi k p
  | 0, p => Nat.le_refl _
  | k + 1, p => by
    show p ≤ (if p < n ∧ lo ≤ (f p).toInt ∧ (f p).toInt ≤ hi then rk f n lo hi k (p + 1) else p)
    split
    · have := rk_ge (f := f) (n := n) (lo := lo) (hi := hi) k (p + 1)
      omega
    · exact Nat.le_refl _
theorem run_ge {f : Nat → Int32} {n : Nat} {lo hi : Int} {p : Nat} : p ≤ run f n lo hi p := rk_ge _ _
theorem rk_le {f : Nat → Int32} {n : Nat} {lo hi : Int} : ∀ (k p : Nat), p ≤ n → rk f n lo hi k p ≤ n
  | 0, p, h => h
  | k + 1, p, h => by
    show (if p < n ∧ lo ≤ (f p).toInt ∧ (f p).toInt ≤ hi then rk f n lo hi k (p + 1) else p) ≤ n
    split
    · rename_i hc
      exact rk_le k (p + 1) hc.1
    · exact h
theorem run_le {f : Nat → Int32} {n : Nat} {lo hi : Int} {p : Nat} (h : p ≤ n) : run f n lo hi p ≤ n := rk_le _ _ h
theorem run_pos {f : Nat → Int32} {n : Nat} {lo hi : Int} {p : Nat} (h : p < n ∧ lo ≤ (f p).toInt ∧ (f p).toInt ≤ hi) : p < run f n lo hi p := by
  rw [run_step h]
  exact run_ge
/-- a token from p on: where it starts, which it is (0 the end, 1 a name, 2 a number, 3 a stop), where it ends, whether it is one -/
noncomputable def tkS (f : Nat → Int32) (n p : Nat) : Nat := run f n 32 32 p
noncomputable def tkK (f : Nat → Int32) (n s : Nat) : Int := if n ≤ s then 0 else if (f s).toInt = 59 then 3 else if 97 ≤ (f s).toInt ∧ (f s).toInt ≤ 122 then 1 else 2
noncomputable def tkE (f : Nat → Int32) (n s : Nat) : Nat := if n ≤ s then s else if (f s).toInt = 59 then s + 1 else if 97 ≤ (f s).toInt ∧ (f s).toInt ≤ 122 then run f n 97 122 s else run f n 48 57 s
noncomputable abbrev tkO (f : Nat → Int32) (n s : Nat) : Prop := tkK f n s = 2 → s < tkE f n s ∧ tkE f n s ≤ s + 2
/-- the number told from s to e, of one or two figures -/
noncomputable def nm (f : Nat → Int32) (s e : Nat) : Int := if e = s + 1 then (f s).toInt - 48 else 10 * ((f s).toInt - 48) + ((f (s + 1)).toInt - 48)
/-- the bytes from s to e are these -/
noncomputable abbrev wis (f : Nat → Int32) (s e : Nat) (l : List Int32) : Prop := e = s + l.length ∧ ∀ j : Nat, j < l.length → (f (s + j)).toInt = (l.getD j 0).toInt
/-- the word told from s to e: 0 plain, 1 left, 2 old, 3 founder, 4 day, 5 tie, -4 none -/
noncomputable def wd (f : Nat → Int32) (s e : Nat) : Int := if wis f s e (qm_sbyt.getD 0 []) then 0 else if wis f s e (qm_sbyt.getD 1 []) then 1 else if wis f s e (qm_sbyt.getD 2 []) then 2 else if wis f s e (qm_sbyt.getD 3 []) then 3 else if wis f s e (qm_sbyt.getD 4 []) then 4 else if wis f s e (qm_sbyt.getD 5 []) then 5 else -4
theorem tk_end {f : Nat → Int32} {n s : Nat} (h : n ≤ s) : tkK f n s = 0 ∧ tkE f n s = s ∧ tkO f n s := by
  have e1 : tkK f n s = 0 := by unfold tkK; rw [if_pos h]
  have e2 : tkE f n s = s := by unfold tkE; rw [if_pos h]
  exact ⟨e1, e2, fun q => absurd (e1.symm.trans q) (by decide)⟩
theorem tk_stop {f : Nat → Int32} {n s : Nat} (h : s < n) (h1 : (f s).toInt = 59) : tkK f n s = 3 ∧ tkE f n s = s + 1 ∧ tkO f n s := by
  have e1 : tkK f n s = 3 := by unfold tkK; rw [if_neg (by omega), if_pos h1]
  have e2 : tkE f n s = s + 1 := by unfold tkE; rw [if_neg (by omega), if_pos h1]
  exact ⟨e1, e2, fun q => absurd (e1.symm.trans q) (by decide)⟩
theorem tk_name {f : Nat → Int32} {n s : Nat} (h : s < n) (h2 : 97 ≤ (f s).toInt ∧ (f s).toInt ≤ 122) : tkK f n s = 1 ∧ tkE f n s = run f n 97 122 s ∧ tkO f n s := by
  have e1 : tkK f n s = 1 := by unfold tkK; rw [if_neg (by omega), if_neg (by omega), if_pos h2]
  have e2 : tkE f n s = run f n 97 122 s := by unfold tkE; rw [if_neg (by omega), if_neg (by omega), if_pos h2]
  exact ⟨e1, e2, fun q => absurd (e1.symm.trans q) (by decide)⟩
theorem tk_num {f : Nat → Int32} {n s : Nat} (h : s < n) (h1 : ¬ (f s).toInt = 59) (h2 : ¬ (97 ≤ (f s).toInt ∧ (f s).toInt ≤ 122)) : tkK f n s = 2 ∧ tkE f n s = run f n 48 57 s ∧ (tkO f n s ↔ (s < run f n 48 57 s ∧ run f n 48 57 s ≤ s + 2)) := by
  have e1 : tkK f n s = 2 := by unfold tkK; rw [if_neg (by omega), if_neg h1, if_neg h2]
  have e2 : tkE f n s = run f n 48 57 s := by unfold tkE; rw [if_neg (by omega), if_neg h1, if_neg h2]
  refine ⟨e1, e2, fun q => ?_, fun q _ => ?_⟩
  · have := q e1; rw [e2] at this; exact this
  · rw [e2]; exact q
/-- a run that goes on has such a byte at its start -/
theorem run_in {f : Nat → Int32} {n : Nat} {lo hi : Int} {p : Nat} (h : p < run f n lo hi p) : p < n ∧ lo ≤ (f p).toInt ∧ (f p).toInt ≤ hi := by
  by_cases hc : p < n ∧ lo ≤ (f p).toInt ∧ (f p).toInt ≤ hi
  · exact hc
  · rw [run_stop hc] at h
    exact absurd h (Nat.lt_irrefl _)
/-- what reading a token from p on answers (1: it is one) and notes: start, kind, end; its fault -/
noncomputable def tkR (f : Nat → Int32) (n p : Nat) (r st k e fk fp fk0 fp0 : Int) : Prop := st = ((tkS f n p : Nat) : Int) ∧ ((r = 1 ∧ tkO f n (tkS f n p) ∧ k = tkK f n (tkS f n p) ∧ e = ((tkE f n (tkS f n p) : Nat) : Int) ∧ fk = fk0 ∧ fp = fp0) ∨ (r = 0 ∧ ¬ tkO f n (tkS f n p) ∧ fk = 1 ∧ fp = ((tkS f n p : Nat) : Int)))
theorem tkR_end {f : Nat → Int32} {n p : Nat} {r st k e fk fp fk0 fp0 : Int} (hs : st = ((tkS f n p : Nat) : Int)) (h : (n : Int) ≤ st) (hr : r = 1) (hk : k = 0) (he : e = st) (h4 : fk = fk0) (h5 : fp = fp0) : tkR f n p r st k e fk fp fk0 fp0 := by
  obtain ⟨e1, e2, e3⟩ := tk_end (f := f) (n := n) (s := tkS f n p) (by omega)
  exact ⟨hs, Or.inl ⟨hr, e3, by rw [e1]; exact hk, by rw [e2]; omega, h4, h5⟩⟩
theorem tkR_stop {f : Nat → Int32} {n p : Nat} {r st k e fk fp fk0 fp0 : Int} (hs : st = ((tkS f n p : Nat) : Int)) (h : st < (n : Int)) (hb : (f st.toNat).toInt = 59) (hr : r = 1) (hk : k = 3) (he : e = st + 1) (h4 : fk = fk0) (h5 : fp = fp0) : tkR f n p r st k e fk fp fk0 fp0 := by
  have es : st.toNat = tkS f n p := by omega
  rw [es] at hb
  obtain ⟨e1, e2, e3⟩ := tk_stop (f := f) (n := n) (s := tkS f n p) (by omega) hb
  exact ⟨hs, Or.inl ⟨hr, e3, by rw [e1]; exact hk, by rw [e2]; omega, h4, h5⟩⟩
theorem tkR_name {f : Nat → Int32} {n p : Nat} {r st k e fk fp fk0 fp0 : Int} (hs : st = ((tkS f n p : Nat) : Int)) (he : e = ((run f n 97 122 st.toNat : Nat) : Int)) (hl : st < e) (hr : r = 1) (hk : k = 1) (h4 : fk = fk0) (h5 : fp = fp0) : tkR f n p r st k e fk fp fk0 fp0 := by
  have es : st.toNat = tkS f n p := by omega
  rw [es] at he
  have hi := run_in (f := f) (n := n) (lo := 97) (hi := 122) (p := tkS f n p) (by omega)
  obtain ⟨e1, e2, e3⟩ := tk_name (f := f) (n := n) (s := tkS f n p) hi.1 hi.2
  exact ⟨hs, Or.inl ⟨hr, e3, by rw [e1]; exact hk, by rw [e2]; exact he, h4, h5⟩⟩
theorem no_run {f : Nat → Int32} {n : Nat} {lo hi : Int} {p : Nat} (h : run f n lo hi p ≤ p) (hn : p < n) : ¬ (lo ≤ (f p).toInt ∧ (f p).toInt ≤ hi) := by
  intro q
  have := run_pos (f := f) (n := n) (lo := lo) (hi := hi) (p := p) ⟨hn, q.1, q.2⟩
  omega
theorem tkR_num {f : Nat → Int32} {n p : Nat} {r st k e fk fp fk0 fp0 a : Int} (hs : st = ((tkS f n p : Nat) : Int)) (h : st < (n : Int)) (hb : ¬ (f st.toNat).toInt = 59) (ha : a = ((run f n 97 122 st.toNat : Nat) : Int)) (hal : a ≤ st) (he : e = ((run f n 48 57 st.toNat : Nat) : Int)) (hl : st < e ∧ e ≤ st + 2) (hr : r = 1) (hk : k = 2) (h4 : fk = fk0) (h5 : fp = fp0) : tkR f n p r st k e fk fp fk0 fp0 := by
  have es : st.toNat = tkS f n p := by omega
  rw [es] at hb ha he
  have hno := no_run (f := f) (n := n) (lo := 97) (hi := 122) (p := tkS f n p) (by omega) (by omega)
  obtain ⟨e1, e2, e3⟩ := tk_num (f := f) (n := n) (s := tkS f n p) (by omega) hb hno
  exact ⟨hs, Or.inl ⟨hr, e3.mpr (by omega), by rw [e1]; exact hk, by rw [e2]; exact he, h4, h5⟩⟩
theorem tkR_bad {f : Nat → Int32} {n p : Nat} {r st k e fk fp fk0 fp0 a b : Int} (hs : st = ((tkS f n p : Nat) : Int)) (h : st < (n : Int)) (hb : ¬ (f st.toNat).toInt = 59) (ha : a = ((run f n 97 122 st.toNat : Nat) : Int)) (hal : a ≤ st) (he : b = ((run f n 48 57 st.toNat : Nat) : Int)) (hl : ¬ (st < b ∧ b ≤ st + 2)) (hr : r = 0) (h4 : fk = 1) (h5 : fp = st) : tkR f n p r st k e fk fp fk0 fp0 := by
  have es : st.toNat = tkS f n p := by omega
  rw [es] at hb ha he
  have hno := no_run (f := f) (n := n) (lo := 97) (hi := 122) (p := tkS f n p) (by omega) (by omega)
  obtain ⟨e1, e2, e3⟩ := tk_num (f := f) (n := n) (s := tkS f n p) (by omega) hb hno
  exact ⟨hs, Or.inr ⟨hr, fun q => hl (by have := e3.mp q; omega), h4, by omega⟩⟩
/-- nothing SEEN is told -/
noncomputable def z9 (h : qm_H) : Prop := 0 ≤ (h 25 9).toInt ∧ (h 25 9).toInt ≤ 0
noncomputable def tc (h : qm_H) : Prop := (0 ≤ (h 23 2).toInt ∧ (h 23 2).toInt ≤ 160) ∧ (0 ≤ (h 23 6).toInt ∧ (h 23 6).toInt ≤ (h 23 2).toInt)
/-! a line: (fault, its place, the line's end, its word, its numbers); fault 0: it is a line -/
noncomputable abbrev lnT : Type := Int × Nat × Nat × Int × Int × Int × Int
noncomputable def lnB (c : Int) (s : Nat) : lnT := (c, s, 0, 0, 0, 0, 0)
noncomputable def numF (f : Nat → Int32) (n p : Nat) (k : Nat → Nat → Int → lnT) : lnT := if ¬ tkO f n (tkS f n p) then lnB 1 (tkS f n p) else if ¬ tkK f n (tkS f n p) = 2 then lnB 2 (tkS f n p) else k (tkS f n p) (tkE f n (tkS f n p)) (nm f (tkS f n p) (tkE f n (tkS f n p)))
noncomputable def stopF (f : Nat → Int32) (n p : Nat) (k : Nat → lnT) : lnT := if ¬ tkO f n (tkS f n p) then lnB 1 (tkS f n p) else if ¬ tkK f n (tkS f n p) = 3 then lnB 2 (tkS f n p) else k (tkE f n (tkS f n p))
noncomputable abbrev plc (v : Int) : Prop := v / 10 ≤ 3 ∧ v % 10 ≤ 4
noncomputable abbrev prc (v : Int) : Prop := v / 10 ≤ 3 ∧ v % 10 ≤ 3 ∧ ¬ v / 10 = v % 10
noncomputable def dayF (f : Nat → Int32) (n s0 e0 : Nat) (dt : Int) : lnT := if ¬ dt = 0 then lnB 4 s0 else numF f n e0 (fun s1 e1 v => if 9 < v then lnB 3 s1 else stopF f n e1 (fun e2 => (0, 0, e2, 4, v, 0, 0)))
noncomputable def tieF (f : Nat → Int32) (n s0 e0 : Nat) (nt : Int) : lnT := if 10 ≤ nt then lnB 5 s0 else numF f n e0 (fun s1 e1 v1 => if ¬ plc v1 then lnB 3 s1 else numF f n e1 (fun s2 e2 v2 => if ¬ prc v2 then lnB 3 s2 else numF f n e2 (fun s3 e3 v3 => if v3 < 10 then lnB 3 s3 else stopF f n e3 (fun e4 => (0, 0, e4, 5, v1, v2, v3)))))
noncomputable def clkF (f : Nat → Int32) (n s0 e0 : Nat) (nc w : Int) : lnT := if 4 ≤ nc then lnB 5 s0 else stopF f n e0 (fun e1 => (0, 0, e1, w, 0, 0, 0))
noncomputable def lineF (f : Nat → Int32) (n s0 e0 : Nat) (k0 nc nt dt : Int) : lnT := if ¬ k0 = 1 ∨ wd f s0 e0 = -4 then lnB 2 s0 else if wd f s0 e0 = 4 then dayF f n s0 e0 dt else if wd f s0 e0 = 5 then tieF f n s0 e0 nt else clkF f n s0 e0 nc (wd f s0 e0)
theorem rk_all {f : Nat → Int32} {n : Nat} {lo hi : Int} : ∀ (k p j : Nat), p ≤ j → j < rk f n lo hi k p → lo ≤ (f j).toInt ∧ (f j).toInt ≤ hi
  | 0, p, j, h1, h2 => absurd h2 (by show ¬ j < p; omega)
  | k + 1, p, j, h1, h2 => by
    have e : rk f n lo hi (k + 1) p = if p < n ∧ lo ≤ (f p).toInt ∧ (f p).toInt ≤ hi then rk f n lo hi k (p + 1) else p := rfl
    by_cases hc : p < n ∧ lo ≤ (f p).toInt ∧ (f p).toInt ≤ hi
    · rw [if_pos hc] at e
      rw [e] at h2
      by_cases hj : j = p
      · rw [hj]; exact hc.2
      · exact rk_all k (p + 1) j (by omega) h2
    · rw [if_neg hc] at e
      rw [e] at h2
      omega
theorem run_all {f : Nat → Int32} {n : Nat} {lo hi : Int} {p j : Nat} (h1 : p ≤ j) (h2 : j < run f n lo hi p) : lo ≤ (f j).toInt ∧ (f j).toInt ≤ hi := rk_all _ _ _ h1 h2
/-- a number's token: one or two figures -/
theorem tk_two {f : Nat → Int32} {n s : Nat} (ho : tkO f n s) (hk : tkK f n s = 2) : (tkE f n s = s + 1 ∨ tkE f n s = s + 2) ∧ (48 ≤ (f s).toInt ∧ (f s).toInt ≤ 57) ∧ (tkE f n s = s + 2 → 48 ≤ (f (s + 1)).toInt ∧ (f (s + 1)).toInt ≤ 57) := by
  have h1 := ho hk
  have hns : s < n := by
    by_cases q : n ≤ s
    · have := (tk_end (f := f) q).1; omega
    · omega
  have h59 : ¬ (f s).toInt = 59 := fun q => by have := (tk_stop (f := f) hns q).1; omega
  have haz : ¬ (97 ≤ (f s).toInt ∧ (f s).toInt ≤ 122) := fun q => by have := (tk_name (f := f) hns q).1; omega
  have e := (tk_num hns h59 haz).2.1
  rw [e] at h1 ⊢
  exact ⟨by omega, run_all (f := f) (n := n) (p := s) (j := s) (Nat.le_refl _) h1.1, fun q => run_all (f := f) (n := n) (p := s) (j := s + 1) (by omega) (by omega)⟩
/-- what reading a number answers and notes -/
noncomputable def numR (f : Nat → Int32) (n p : Nat) (r st e v fk fp fk0 fp0 : Int) : Prop := (r = 1 ∧ tkO f n (tkS f n p) ∧ tkK f n (tkS f n p) = 2 ∧ st = ((tkS f n p : Nat) : Int) ∧ e = ((tkE f n (tkS f n p) : Nat) : Int) ∧ v = nm f (tkS f n p) (tkE f n (tkS f n p)) ∧ fk = fk0 ∧ fp = fp0) ∨ (r = 0 ∧ ((¬ tkO f n (tkS f n p) ∧ fk = 1) ∨ (tkO f n (tkS f n p) ∧ ¬ tkK f n (tkS f n p) = 2 ∧ fk = 2)) ∧ fp = ((tkS f n p : Nat) : Int))
noncomputable def stopR (f : Nat → Int32) (n p : Nat) (r e fk fp fk0 fp0 : Int) : Prop := (r = 1 ∧ tkO f n (tkS f n p) ∧ tkK f n (tkS f n p) = 3 ∧ e = ((tkE f n (tkS f n p) : Nat) : Int) ∧ fk = fk0 ∧ fp = fp0) ∨ (r = 0 ∧ ((¬ tkO f n (tkS f n p) ∧ fk = 1) ∨ (tkO f n (tkS f n p) ∧ ¬ tkK f n (tkS f n p) = 3 ∧ fk = 2)) ∧ fp = ((tkS f n p : Nat) : Int))
