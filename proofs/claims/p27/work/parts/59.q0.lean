/-! ===== bits and long numbers for pays(), read(), kept(), none() ===== -/
theorem and_le (x y : Int32) : 0 ≤ x.toInt → 0 ≤ (x &&& y).toInt ∧ (x &&& y).toInt ≤ x.toInt := by
  intro h0
  have hx : x.toInt = x.toBitVec.toInt := rfl
  have hz : (x &&& y).toInt = (x.toBitVec &&& y.toBitVec).toInt := rfl
  rw [hz]
  rw [hx] at h0 ⊢
  generalize x.toBitVec = a at h0 ⊢
  generalize y.toBitVec = b
  have h1 : (a &&& b).toNat ≤ a.toNat := by rw [BitVec.toNat_and]; exact Nat.and_le_left
  have h2 := a.isLt
  have h3 := (a &&& b).isLt
  rw [BitVec.toInt_eq_toNat_cond] at h0 ⊢
  rw [BitVec.toInt_eq_toNat_cond]
  split at h0
  · rename_i hc
    have hc2 : 2 * (a &&& b).toNat < 2 ^ 32 := by omega
    rw [if_pos hc2, if_pos hc]
    omega
  · omega
theorem or_tab : ∀ k : Fin 16, ∀ f : Fin 2, ∀ c : Fin 4, 0 ≤ ((nI k) ||| ((nI f) <<< ((nI c) &&& 31))).toInt ∧ ((nI k) ||| ((nI f) <<< ((nI c) &&& 31))).toInt ≤ 15 := by decide +kernel
theorem i32_nI {x : Int32} (h : 0 ≤ x.toInt) : x = nI x.toInt.toNat := by
  obtain ⟨k, hk, e⟩ := nI_of (x := x) (by rw [Int32.lt_iff_toInt_lt]; show ¬ x.toInt < 0; omega)
  subst e
  rw [nI_toInt hk]
  rfl
theorem or_le (x f c : Int32) : (0 ≤ x.toInt ∧ x.toInt ≤ 15) → (0 ≤ f.toInt ∧ f.toInt ≤ 1) → (0 ≤ c.toInt ∧ c.toInt ≤ 3) → 0 ≤ (x ||| (f <<< (c &&& 31))).toInt ∧ (x ||| (f <<< (c &&& 31))).toInt ≤ 15 := by
  intro hx hf hc
  have e1 := i32_nI hx.1
  have e2 := i32_nI hf.1
  have e3 := i32_nI hc.1
  have k1 : x.toInt.toNat < 16 := by omega
  have k2 : f.toInt.toNat < 2 := by omega
  have k3 : c.toInt.toNat < 4 := by omega
  rw [e1, e2, e3]
  exact or_tab ⟨x.toInt.toNat, k1⟩ ⟨f.toInt.toNat, k2⟩ ⟨c.toInt.toNat, k3⟩
theorem l_add (x y : Int64) : (-9223372036854775808 ≤ x.toInt + y.toInt ∧ x.toInt + y.toInt ≤ 9223372036854775807) → (x + y).toInt = x.toInt + y.toInt := by
  intro h
  rw [Int64.toInt_add]
  refine Int.bmod_eq_of_le ?_ ?_ <;> omega
/-- a product of so many twenties -/
noncomputable def k20 (x : Int64) (u : Int32) : Prop := 0 ≤ u.toInt ∧ u.toInt ≤ 10 ∧ 1 ≤ x.toInt ∧ x.toInt ≤ ((20 ^ u.toInt.toNat : Nat) : Int)
theorem k20_0 : k20 1 0 := by unfold k20; decide
theorem k20_ne {x : Int64} {u : Int32} (h : k20 x u) : ¬ x = 0 := lg_pos h.2.2.1
theorem k20_top : ∀ n : Nat, n ≤ 10 → (20 ^ n : Nat) ≤ 10240000000000 := by
  intro n hn
  have : n = 0 ∨ n = 1 ∨ n = 2 ∨ n = 3 ∨ n = 4 ∨ n = 5 ∨ n = 6 ∨ n = 7 ∨ n = 8 ∨ n = 9 ∨ n = 10 := by omega
  rcases this with rfl | rfl | rfl | rfl | rfl | rfl | rfl | rfl | rfl | rfl | rfl <;> decide
theorem k20_mul {x : Int64} {u : Int32} (h : k20 x u) (hu : u.toInt < 10) : k20 (x * 20) (u + 1) := by
  obtain ⟨h1, h2, h3, h4⟩ := h
  have e1 := ti_addK u (1 : Int32) 1 rfl (by omega)
  have ht := k20_top u.toInt.toNat (by omega)
  have e2 := l_mul20 x (by omega) (by omega)
  refine ⟨by omega, by omega, by omega, ?_⟩
  rw [show (u + 1).toInt.toNat = u.toInt.toNat + 1 by omega, Nat.pow_succ]
  generalize (20 ^ u.toInt.toNat : Nat) = p at h4 ht ⊢
  omega
theorem k20_one {x : Int64} {u : Int32} (h : k20 x u) (hu : u.toInt < 10) : k20 (x * 1) (u + 1) := by
  obtain ⟨h1, h2, h3, h4⟩ := h
  have e1 := ti_addK u (1 : Int32) 1 rfl (by omega)
  have e2 := l_mul1 x
  refine ⟨by omega, by omega, by omega, ?_⟩
  rw [show (u + 1).toInt.toNat = u.toInt.toNat + 1 by omega, Nat.pow_succ]
  generalize (20 ^ u.toInt.toNat : Nat) = p at h4 ⊢
  omega
-- ThreadBankModel.none(II)J
set_option maxRecDepth 100000 in
set_option maxHeartbeats 4000000 in
theorem sf_224_39_c (X : qm_X) (h : qm_H) (a : Int32) (b : Int32) (hp : mi h ∧ sm h ∧ zs h ∧ rw_ h) (Q : qm_Q) (hq : ∀ r : Int64, ∀ h' : qm_H, (mi h' ∧ sm h' ∧ zs h' ∧ rw_ h' ∧ (∀ k, (k < 41 ∨ 41 < k) → h' k = h k)) → Q (some (.long r)) h') : ∀ n : Nat, (∀ (l3 : Int64) (l5 : Int64) (l7 : Int32) (g : qm_H), ((k20 l5 l7) ∧ mi g ∧ sm g ∧ zs g ∧ rw_ g ∧ am g ∧ ∀ k, (k < 41 ∨ 41 < k) → g k = h k) → (10 - l7.toInt).toNat < n → qm_PA X 224 35 [(0, .ref 39), (1, .int a), (2, .int b), (3, .long l3), (5, .long l5), (7, .int l7)] [] g Q) := by
  have hmmi : mi h := hp.1
  have ⟨⟨_, _⟩, ⟨_, _⟩, ⟨_, _⟩, ⟨_, _⟩, _, _⟩ := hmmi
  have hmsm : sm h := hp.2.1
  have ⟨⟨⟨_, _⟩, _, _⟩, _, _, _⟩ := hmsm
  have hmzs : zs h := hp.2.2.1
  have hmrw : rw_ h := hp.2.2.2
  intro n
  induction n with
  | zero => exact fun _ _ _ _ _ h0 => absurd h0 (Nat.not_lt_zero _)
  | succ n ih =>
    intro l3 l5 l7 g hi hr
    obtain ⟨hi0, hgmi, hgsm, hgzs, hgrw, hgam, hgf⟩ := hi
    have ⟨⟨_, _⟩, ⟨_, _⟩, ⟨_, _⟩, ⟨_, _⟩, _, _⟩ := hgmi
    have ⟨⟨⟨_, _⟩, _, _⟩, _, _, _⟩ := hgsm
    have ⟨⟨_, _⟩, ⟨_, _⟩, _, _, _⟩ := hgam
    have := hi0.1
    have := hi0.2.1
    refine qm_seg_ok (C := qc_224) (rt := some .long) rfl rfl (cuts := [(35, [0, 1, 2, 3, 5, 7])]) 400 _ _ _ _ ?_
    show (0 ≤ (4 : Int) ∧ (4 : Int) < 49) ∧ (((g 41 4).toInt ≤ l7.toInt → (qm_PW X 220 [.long l3, .long l5, .int b] g _)) ∧ (l7.toInt < (g 41 4).toInt → (qm_PW X 221 [.ref 39, .int l7, .int a] g _)))
    refine ⟨by decide, ?_⟩
    refine ⟨fun c1 => ?_, fun c2 => ?_⟩
    · refine sf_220 X g (l3 : Int64) (l5 : Int64) b (k20_ne hi0) _ (fun r3 p4 => ?_)
      show Q (some (.long r3)) g
      exact hq r3 g ⟨hgmi, hgsm, hgzs, hgrw, (fun k hk => hgf k hk)⟩
    · refine sf_221_39 X g l7 a ⟨hgam, (by omega)⟩ _ (fun r5 p6 => ?_)
      show qm_PA X 224 35 [(0, .ref 39), (1, .int a), (2, .int b), (3, .long (l3 * (Int32.toInt64 (20 - r5)))), (5, .long (l5 * 20)), (7, .int (l7 + 1))] [] g Q
      exact ih (l3 * (Int32.toInt64 (20 - r5))) (l5 * 20) (l7 + 1) g ⟨(by show k20 (l5 * 20) (l7 + 1); exact k20_mul hi0 (by omega)), hgmi, hgsm, hgzs, hgrw, hgam, (fun k hk => hgf k hk)⟩ (by have := ti_addK l7 (1 : Int32) 1 rfl; show (10 - (l7 + 1).toInt).toNat < n; omega)
set_option maxRecDepth 100000 in
set_option maxHeartbeats 4000000 in
theorem sf_224_39 (X : qm_X) (h : qm_H) (a : Int32) (b : Int32) (hp : mi h ∧ sm h ∧ zs h ∧ rw_ h) (Q : qm_Q) (hq : ∀ r : Int64, ∀ h' : qm_H, (mi h' ∧ sm h' ∧ zs h' ∧ rw_ h' ∧ (∀ k, (k < 41 ∨ 41 < k) → h' k = h k)) → Q (some (.long r)) h') : qm_PW X 224 [.ref 39, .int a, .int b] h Q := by
  have hmmi : mi h := hp.1
  have ⟨⟨_, _⟩, ⟨_, _⟩, ⟨_, _⟩, ⟨_, _⟩, _, _⟩ := hmmi
  have hmsm : sm h := hp.2.1
  have ⟨⟨⟨_, _⟩, _, _⟩, _, _, _⟩ := hmsm
  have hmzs : zs h := hp.2.2.1
  have hmrw : rw_ h := hp.2.2.2
  refine qm_seg_ok (C := qc_224) (rt := some .long) rfl rfl (cuts := [(35, [0, 1, 2, 3, 5, 7])]) 400 _ _ _ _ ?_
  show qm_PW X 141 [.long (Int32.toInt64 a), .long 0, .long 10] h _
  refine sf_141 X h ((Int32.toInt64 a) : Int64) (0 : Int64) (10 : Int64) trivial _ (fun r1 p2 => ?_)
  show (r1 = 0 → (Q (some (.long (-1 : Int64))) h)) ∧ (¬ r1 = 0 → (qm_PW X 168 [.int b] h _))
  refine ⟨fun c3 => ?_, fun c4 => ?_⟩
  · have := p2.2.2 c3
    exact hq (-1 : Int64) h ⟨hmmi, hmsm, hmzs, hmrw, (fun k hk => rfl)⟩
  · have := p2.2.1 c4
    refine sf_168 X h b trivial _ (fun r5 p6 => ?_)
    show (¬ r5 = 0 → (qm_PW X 169 [.ref 39] h _)) ∧ (r5 = 0 → (Q (some (.long (-1 : Int64))) h))
    refine ⟨fun c7 => ?_, fun c8 => ?_⟩
    · have := p6.2 c7
      refine sf_169_39 X h  hmsm _ (fun g9 p10 => ?_)
      have f11 : ∀ k, (k < 41 ∨ 41 < k) → g9 k = h k := fun k hk => (p10.2.1 k (by omega)).trans (rfl)
      have k12 : mi g9 := by unfold mi; rw [p10.2.1 39 (by omega)]; exact hmmi
      have k13 : sm g9 := by unfold sm; rw [p10.2.1 40 (by omega)]; exact hmsm
      have k14 : zs g9 := by unfold zs; rw [p10.2.1 49 (by omega)]; exact hmzs
      have k15 : rw_ g9 := by unfold rw_; rw [p10.2.1 46 (by omega)]; exact hmrw
      show qm_PA X 224 35 [(0, .ref 39), (1, .int a), (2, .int b), (3, .long 1), (5, .long 1), (7, .int 0)] [] g9 Q
      exact (sf_224_39_c X h a b hp Q hq _) (1 : Int64) (1 : Int64) (0 : Int32) g9 ⟨(by have : (0 : Int64).toInt = 0 := rfl; have : (10 : Int64).toInt = 10 := rfl; have := i64 a; show k20 (1 : Int64) (0 : Int32); exact k20_0), k12, k13, k14, k15, p10.1, (fun k hk => f11 k hk)⟩ (Nat.lt_succ_self _)
    · exact hq (-1 : Int64) h ⟨hmmi, hmsm, hmzs, hmrw, (fun k hk => rfl)⟩
-- ThreadBankModel.kept(III)J
set_option maxRecDepth 100000 in
set_option maxHeartbeats 4000000 in
theorem sf_222_39_c (X : qm_X) (h : qm_H) (a : Int32) (b : Int32) (c : Int32) (hp : mi h ∧ sm h ∧ zs h ∧ rw_ h) (Q : qm_Q) (hq : ∀ r : Int64, ∀ h' : qm_H, (mi h' ∧ sm h' ∧ zs h' ∧ rw_ h' ∧ (∀ k, (k < 41 ∨ 41 < k) → h' k = h k)) → Q (some (.long r)) h') : ∀ n : Nat, (∀ (l4 : Int64) (l6 : Int64) (l8 : Int32) (g : qm_H), ((k20 l6 l8 ∧ 0 ≤ b.toInt ∧ b.toInt ≤ 9) ∧ mi g ∧ sm g ∧ zs g ∧ rw_ g ∧ am g ∧ ∀ k, (k < 41 ∨ 41 < k) → g k = h k) → (10 - l8.toInt).toNat < n → qm_PA X 222 44 [(0, .ref 39), (1, .int a), (2, .int b), (3, .int c), (4, .long l4), (6, .long l6), (8, .int l8)] [] g Q) := by
  have hmmi : mi h := hp.1
  have ⟨⟨_, _⟩, ⟨_, _⟩, ⟨_, _⟩, ⟨_, _⟩, _, _⟩ := hmmi
  have hmsm : sm h := hp.2.1
  have ⟨⟨⟨_, _⟩, _, _⟩, _, _, _⟩ := hmsm
  have hmzs : zs h := hp.2.2.1
  have hmrw : rw_ h := hp.2.2.2
  intro n
  induction n with
  | zero => exact fun _ _ _ _ _ h0 => absurd h0 (Nat.not_lt_zero _)
  | succ n ih =>
    intro l4 l6 l8 g hi hr
    obtain ⟨hi0, hgmi, hgsm, hgzs, hgrw, hgam, hgf⟩ := hi
    have ⟨⟨_, _⟩, ⟨_, _⟩, ⟨_, _⟩, ⟨_, _⟩, _, _⟩ := hgmi
    have ⟨⟨⟨_, _⟩, _, _⟩, _, _, _⟩ := hgsm
    have ⟨⟨_, _⟩, ⟨_, _⟩, _, _, _⟩ := hgam
    have := hi0.1.1
    have := hi0.1.2.1
    refine qm_seg_ok (C := qc_222) (rt := some .long) rfl rfl (cuts := [(44, [0, 1, 2, 3, 4, 6, 8])]) 400 _ _ _ _ ?_
    show (0 ≤ (4 : Int) ∧ (4 : Int) < 49) ∧ (((g 41 4).toInt ≤ l8.toInt → (qm_PW X 220 [.long (l6 - l4), .long l6, .int c] g _)) ∧ (l8.toInt < (g 41 4).toInt → (qm_PW X 178 [.ref 39, .int b, .int l8] g _)))
    refine ⟨by decide, ?_⟩
    refine ⟨fun c1 => ?_, fun c2 => ?_⟩
    · refine sf_220 X g ((l6 - l4) : Int64) (l6 : Int64) c (k20_ne hi0.1) _ (fun r3 p4 => ?_)
      show Q (some (.long r3)) g
      exact hq r3 g ⟨hgmi, hgsm, hgzs, hgrw, (fun k hk => hgf k hk)⟩
    · refine sf_178_39 X g b l8 ⟨hgam, (by omega)⟩ _ (fun r5 p6 => ?_)
      show (r5 = 0 → (qm_PW X 178 [.ref 39, .int b, .int l8] g _)) ∧ (¬ r5 = 0 → (qm_PW X 221 [.ref 39, .int l8, .int a] g _))
      refine ⟨fun c7 => ?_, fun c8 => ?_⟩
      · refine sf_178_39 X g b l8 ⟨hgam, (by omega)⟩ _ (fun r9 p10 => ?_)
        show (r9 = 0 → (qm_PA X 222 44 [(0, .ref 39), (1, .int a), (2, .int b), (3, .int c), (4, .long (l4 * 1)), (6, .long (l6 * 1)), (8, .int (l8 + 1))] [] g Q)) ∧ (¬ r9 = 0 → (qm_PA X 222 44 [(0, .ref 39), (1, .int a), (2, .int b), (3, .int c), (4, .long (l4 * 1)), (6, .long (l6 * 20)), (8, .int (l8 + 1))] [] g Q))
        refine ⟨fun c11 => ?_, fun c12 => ?_⟩
        · exact ih (l4 * 1) (l6 * 1) (l8 + 1) g ⟨(by show k20 (l6 * 1) (l8 + 1) ∧ 0 ≤ b.toInt ∧ b.toInt ≤ 9; exact ⟨k20_one hi0.1 (by omega), by omega, by omega⟩), hgmi, hgsm, hgzs, hgrw, hgam, (fun k hk => hgf k hk)⟩ (by have := ti_addK l8 (1 : Int32) 1 rfl; show (10 - (l8 + 1).toInt).toNat < n; omega)
        · exact ih (l4 * 1) (l6 * 20) (l8 + 1) g ⟨(by show k20 (l6 * 20) (l8 + 1) ∧ 0 ≤ b.toInt ∧ b.toInt ≤ 9; exact ⟨k20_mul hi0.1 (by omega), by omega, by omega⟩), hgmi, hgsm, hgzs, hgrw, hgam, (fun k hk => hgf k hk)⟩ (by have := ti_addK l8 (1 : Int32) 1 rfl; show (10 - (l8 + 1).toInt).toNat < n; omega)
      · refine sf_221_39 X g l8 a ⟨hgam, (by omega)⟩ _ (fun r13 p14 => ?_)
        show qm_PW X 178 [.ref 39, .int b, .int l8] g _
        refine sf_178_39 X g b l8 ⟨hgam, (by omega)⟩ _ (fun r15 p16 => ?_)
        show (r15 = 0 → (qm_PA X 222 44 [(0, .ref 39), (1, .int a), (2, .int b), (3, .int c), (4, .long (l4 * (Int32.toInt64 r13))), (6, .long (l6 * 1)), (8, .int (l8 + 1))] [] g Q)) ∧ (¬ r15 = 0 → (qm_PA X 222 44 [(0, .ref 39), (1, .int a), (2, .int b), (3, .int c), (4, .long (l4 * (Int32.toInt64 r13))), (6, .long (l6 * 20)), (8, .int (l8 + 1))] [] g Q))
        refine ⟨fun c17 => ?_, fun c18 => ?_⟩
        · exact ih (l4 * (Int32.toInt64 r13)) (l6 * 1) (l8 + 1) g ⟨(by show k20 (l6 * 1) (l8 + 1) ∧ 0 ≤ b.toInt ∧ b.toInt ≤ 9; exact ⟨k20_one hi0.1 (by omega), by omega, by omega⟩), hgmi, hgsm, hgzs, hgrw, hgam, (fun k hk => hgf k hk)⟩ (by have := ti_addK l8 (1 : Int32) 1 rfl; show (10 - (l8 + 1).toInt).toNat < n; omega)
        · exact ih (l4 * (Int32.toInt64 r13)) (l6 * 20) (l8 + 1) g ⟨(by show k20 (l6 * 20) (l8 + 1) ∧ 0 ≤ b.toInt ∧ b.toInt ≤ 9; exact ⟨k20_mul hi0.1 (by omega), by omega, by omega⟩), hgmi, hgsm, hgzs, hgrw, hgam, (fun k hk => hgf k hk)⟩ (by have := ti_addK l8 (1 : Int32) 1 rfl; show (10 - (l8 + 1).toInt).toNat < n; omega)
set_option maxRecDepth 100000 in
set_option maxHeartbeats 4000000 in
theorem sf_222_39 (X : qm_X) (h : qm_H) (a : Int32) (b : Int32) (c : Int32) (hp : mi h ∧ sm h ∧ zs h ∧ rw_ h) (Q : qm_Q) (hq : ∀ r : Int64, ∀ h' : qm_H, (mi h' ∧ sm h' ∧ zs h' ∧ rw_ h' ∧ (∀ k, (k < 41 ∨ 41 < k) → h' k = h k)) → Q (some (.long r)) h') : qm_PW X 222 [.ref 39, .int a, .int b, .int c] h Q := by
  have hmmi : mi h := hp.1
  have ⟨⟨_, _⟩, ⟨_, _⟩, ⟨_, _⟩, ⟨_, _⟩, _, _⟩ := hmmi
  have hmsm : sm h := hp.2.1
  have ⟨⟨⟨_, _⟩, _, _⟩, _, _, _⟩ := hmsm
  have hmzs : zs h := hp.2.2.1
  have hmrw : rw_ h := hp.2.2.2
  refine qm_seg_ok (C := qc_222) (rt := some .long) rfl rfl (cuts := [(44, [0, 1, 2, 3, 4, 6, 8])]) 400 _ _ _ _ ?_
  show qm_PW X 141 [.long (Int32.toInt64 a), .long 0, .long 10] h _
  refine sf_141 X h ((Int32.toInt64 a) : Int64) (0 : Int64) (10 : Int64) trivial _ (fun r1 p2 => ?_)
  show (r1 = 0 → (Q (some (.long (-1 : Int64))) h)) ∧ (¬ r1 = 0 → (qm_PW X 167 [.ref 39, .int b] h _))
  refine ⟨fun c3 => ?_, fun c4 => ?_⟩
  · have := p2.2.2 c3
    exact hq (-1 : Int64) h ⟨hmmi, hmsm, hmzs, hmrw, (fun k hk => rfl)⟩
  · have := p2.2.1 c4
    refine sf_167_39 X h b hmsm _ (fun r5 p6 => ?_)
    show (r5 = 0 → (Q (some (.long (-1 : Int64))) h)) ∧ (¬ r5 = 0 → (qm_PW X 168 [.int c] h _))
    refine ⟨fun c7 => ?_, fun c8 => ?_⟩
    · exact hq (-1 : Int64) h ⟨hmmi, hmsm, hmzs, hmrw, (fun k hk => rfl)⟩
    · have := p6.2 c8
      refine sf_168 X h c trivial _ (fun r9 p10 => ?_)
      show (¬ r9 = 0 → (qm_PW X 169 [.ref 39] h _)) ∧ (r9 = 0 → (Q (some (.long (-1 : Int64))) h))
      refine ⟨fun c11 => ?_, fun c12 => ?_⟩
      · have := p10.2 c11
        refine sf_169_39 X h  hmsm _ (fun g13 p14 => ?_)
        have f15 : ∀ k, (k < 41 ∨ 41 < k) → g13 k = h k := fun k hk => (p14.2.1 k (by omega)).trans (rfl)
        have k16 : mi g13 := by unfold mi; rw [p14.2.1 39 (by omega)]; exact hmmi
        have k17 : sm g13 := by unfold sm; rw [p14.2.1 40 (by omega)]; exact hmsm
        have k18 : zs g13 := by unfold zs; rw [p14.2.1 49 (by omega)]; exact hmzs
        have k19 : rw_ g13 := by unfold rw_; rw [p14.2.1 46 (by omega)]; exact hmrw
        show qm_PA X 222 44 [(0, .ref 39), (1, .int a), (2, .int b), (3, .int c), (4, .long 1), (6, .long 1), (8, .int 0)] [] g13 Q
        exact (sf_222_39_c X h a b c hp Q hq _) (1 : Int64) (1 : Int64) (0 : Int32) g13 ⟨(by have : (0 : Int64).toInt = 0 := rfl; have : (10 : Int64).toInt = 10 := rfl; have := i64 a; show k20 (1 : Int64) (0 : Int32) ∧ 0 ≤ b.toInt ∧ b.toInt ≤ 9; exact ⟨k20_0, by omega, by omega⟩), k16, k17, k18, k19, p14.1, (fun k hk => f15 k hk)⟩ (Nat.lt_succ_self _)
      · exact hq (-1 : Int64) h ⟨hmmi, hmsm, hmzs, hmrw, (fun k hk => rfl)⟩
-- ThreadBankModel.findOwed(I)V
set_option maxRecDepth 100000 in
set_option maxHeartbeats 4000000 in
theorem sg_180_c (X : qm_X) (h : qm_H) (a : Int32) (hp : am h) (Q : qm_Q) (hq : ∀ h' : qm_H, ((∀ k, (k < 45 ∨ 45 < k) → h' k = h k) ∧ (owb (h' 45) 90)) → Q none h') : ∀ n : Nat, (∀ (l2 : Int32) (g : qm_H), ((0 ≤ l2.toInt ∧ l2.toInt ≤ 16 ∧ owz (g 45) l2.toInt) ∧ am g ∧ ∀ k, (k < 45 ∨ 45 < k) → g k = h k) → (116 - l2.toInt).toNat < n → qm_PA X 180 2 [(0, .ref 39), (1, .int a), (2, .int l2)] [] g Q) ∧ (∀ (l2 : Int32) (g : qm_H), ((0 ≤ l2.toInt ∧ l2.toInt ≤ 10 ∧ owb (g 45) (9 * l2.toInt)) ∧ am g ∧ ∀ k, (k < 45 ∨ 45 < k) → g k = h k) → (10 - l2.toInt).toNat < n → qm_PA X 180 23 [(0, .ref 39), (1, .int a), (2, .int l2)] [] g Q) := by
  have hmam : am h := hp
  have ⟨⟨_, _⟩, ⟨_, _⟩, _, _, _⟩ := hmam
  intro n
  induction n with
  | zero => exact ⟨fun _ _ _ h0 => absurd h0 (Nat.not_lt_zero _), fun _ _ _ h0 => absurd h0 (Nat.not_lt_zero _)⟩
  | succ n ih =>
    refine ⟨?_, ?_⟩
    · intro l2 g hi hr
      obtain ⟨hi0, hgam, hgf⟩ := hi
      have ⟨⟨_, _⟩, ⟨_, _⟩, _, _, _⟩ := hgam
      refine qm_seg_ok (C := qc_180) (rt := none) rfl rfl (cuts := [(2, [0, 1, 2]), (23, [0, 1, 2])]) 400 _ _ _ _ ?_
      show (16 ≤ l2.toInt → (qm_PA X 180 23 [(0, .ref 39), (1, .int a), (2, .int 0)] [] g Q)) ∧ (l2.toInt < 16 → ((0 ≤ l2.toInt ∧ l2.toInt < 16) ∧ (qm_PA X 180 2 [(0, .ref 39), (1, .int a), (2, .int (l2 + 1))] [] (qm_row g 45 (upd (g 45) l2.toInt.toNat 0)) Q)))
      refine ⟨fun c1 => ?_, fun c2 => ?_⟩
      · exact ih.2 (0 : Int32) g ⟨(by have : (0 : Int32).toInt = 0 := rfl; first | exact ⟨by decide, by decide, owb_z hi0.2.2 (by omega) (by decide)⟩ | exact ⟨by omega, by omega, owb_add hi0.2.2 (by omega) (by first | decide | omega) (by omega) (by omega)⟩), hgam, (fun k hk => hgf k hk)⟩ (by have : (0 : Int32).toInt = 0 := rfl; show (10 - (0 : Int32).toInt).toNat < n; omega)
      · refine ⟨(by omega), ?_⟩
        exact ih.1 (l2 + 1) (qm_row g 45 (upd (g 45) l2.toInt.toNat 0)) ⟨(by have := ti_addK l2 (1 : Int32) 1 rfl; first | exact ⟨by decide, by decide, owz_0⟩ | exact ⟨by omega, by omega, owz_upd hi0.2.2 hi0.1 (by omega)⟩), (by exact hgam), (fun k hk => by simp only [qm_row]; rw [if_neg (by omega)]; exact hgf k hk)⟩ (by have := ti_addK l2 (1 : Int32) 1 rfl; show (116 - (l2 + 1).toInt).toNat < n; omega)
    · intro l2 g hi hr
      obtain ⟨hi0, hgam, hgf⟩ := hi
      have ⟨⟨_, _⟩, ⟨_, _⟩, _, _, _⟩ := hgam
      refine qm_seg_ok (C := qc_180) (rt := none) rfl rfl (cuts := [(2, [0, 1, 2]), (23, [0, 1, 2])]) 400 _ _ _ _ ?_
      show (0 ≤ (4 : Int) ∧ (4 : Int) < 49) ∧ (((g 41 4).toInt ≤ l2.toInt → (Q none g)) ∧ (l2.toInt < (g 41 4).toInt → (qm_PW X 179 [.ref 39, .int l2] g _)))
      refine ⟨by decide, ?_⟩
      refine ⟨fun c1 => ?_, fun c2 => ?_⟩
      · exact hq g ⟨(fun k hk => hgf k hk), (by exact owb_le hi0.2.2 (by omega))⟩
      · refine sf_179_39 X g l2 ⟨hgam, (by omega)⟩ _ (fun r3 p4 => ?_)
        show (¬ r3 = 0 → (qm_PW X 171 [.ref 39, .int l2, .int 1] g _)) ∧ (r3 = 0 → (qm_PW X 171 [.ref 39, .int l2, .int 2] g _))
        refine ⟨fun c5 => ?_, fun c6 => ?_⟩
        · refine sf_171_39 X g l2 (1 : Int32) ⟨hgam, (by have : (1 : Int32).toInt = 1 := rfl; omega)⟩ _ (fun r7 p8 => ?_)
          replace p8 := p8.2.1 rfl
          show ¬ (10 : Int32) = 0 ∧ (qm_PW X 171 [.ref 39, .int l2, .int 1] g _)
          refine ⟨by decide, ?_⟩
          refine sf_171_39 X g l2 (1 : Int32) ⟨hgam, (by have : (1 : Int32).toInt = 1 := rfl; omega)⟩ _ (fun r9 p10 => ?_)
          replace p10 := p10.2.1 rfl
          show ¬ (10 : Int32) = 0 ∧ ((0 ≤ ((4 * (r7 / 10)) + (r9 - r9 / 10 * 10)).toInt ∧ ((4 * (r7 / 10)) + (r9 - r9 / 10 * 10)).toInt < 16) ∧ (((0 : Int32) = 0 → ((0 ≤ ((4 * (r7 / 10)) + (r9 - r9 / 10 * 10)).toInt ∧ ((4 * (r7 / 10)) + (r9 - r9 / 10 * 10)).toInt < 16) ∧ (qm_PA X 180 23 [(0, .ref 39), (1, .int a), (2, .int (l2 + 1))] [] (qm_row g 45 (upd (g 45) ((4 * (r7 / 10)) + (r9 - r9 / 10 * 10)).toInt.toNat ((g 45 ((4 * (r7 / 10)) + (r9 - r9 / 10 * 10)).toInt.toNat) + 0))) Q))) ∧ (¬ (0 : Int32) = 0 → (qm_PW X 171 [.ref 39, .int l2, .int 2] g _))))
          refine ⟨by decide, ?_⟩
          refine ⟨(by have := ti_div (10 : Int32) 10 rfl r7 (by decide); have := ti_mulL (4 : Int32) 4 rfl (r7 / 10); have := ti_rem (10 : Int32) 10 rfl r9 (by decide); have := ti_add (4 * (r7 / 10)) (r9 - r9 / 10 * 10); omega), ?_⟩
          refine ⟨fun c11 => ?_, fun c12 => ?_⟩
          · refine ⟨(by have := ti_div (10 : Int32) 10 rfl r7 (by decide); have := ti_mulL (4 : Int32) 4 rfl (r7 / 10); have := ti_rem (10 : Int32) 10 rfl r9 (by decide); have := ti_add (4 * (r7 / 10)) (r9 - r9 / 10 * 10); omega), ?_⟩
            exact ih.2 (l2 + 1) (qm_row g 45 (upd (g 45) ((4 * (r7 / 10)) + (r9 - r9 / 10 * 10)).toInt.toNat ((g 45 ((4 * (r7 / 10)) + (r9 - r9 / 10 * 10)).toInt.toNat) + 0))) ⟨(by have := ti_addK l2 (1 : Int32) 1 rfl; have := ti_div (10 : Int32) 10 rfl r7 (by decide); have := ti_mulL (4 : Int32) 4 rfl (r7 / 10); have := ti_rem (10 : Int32) 10 rfl r9 (by decide); have := ti_add (4 * (r7 / 10)) (r9 - r9 / 10 * 10); first | exact ⟨by decide, by decide, owb_z hi0.2.2 (by omega) (by decide)⟩ | exact ⟨by omega, by omega, owb_add hi0.2.2 (by omega) (by first | decide | omega) (by omega) (by omega)⟩), (by exact hgam), (fun k hk => by simp only [qm_row]; rw [if_neg (by omega)]; exact hgf k hk)⟩ (by have := ti_addK l2 (1 : Int32) 1 rfl; show (10 - (l2 + 1).toInt).toNat < n; omega)
          · exact absurd c12 (by decide)
        · refine sf_171_39 X g l2 (2 : Int32) ⟨hgam, (by have : (2 : Int32).toInt = 2 := rfl; omega)⟩ _ (fun r15 p16 => ?_)
          replace p16 := p16.2.2 rfl
          show ¬ (10 : Int32) = 0 ∧ ((a.toInt < (r15 - r15 / 10 * 10).toInt → (qm_PW X 171 [.ref 39, .int l2, .int 1] g _)) ∧ ((r15 - r15 / 10 * 10).toInt ≤ a.toInt → (qm_PW X 171 [.ref 39, .int l2, .int 1] g _)))
          refine ⟨by decide, ?_⟩
          refine ⟨fun c17 => ?_, fun c18 => ?_⟩
          · refine sf_171_39 X g l2 (1 : Int32) ⟨hgam, (by have : (1 : Int32).toInt = 1 := rfl; have := ti_rem (10 : Int32) 10 rfl r15 (by decide); omega)⟩ _ (fun r19 p20 => ?_)
            replace p20 := p20.2.1 rfl
            show ¬ (10 : Int32) = 0 ∧ (qm_PW X 171 [.ref 39, .int l2, .int 1] g _)
            refine ⟨by decide, ?_⟩
            refine sf_171_39 X g l2 (1 : Int32) ⟨hgam, (by have : (1 : Int32).toInt = 1 := rfl; have := ti_rem (10 : Int32) 10 rfl r15 (by decide); omega)⟩ _ (fun r21 p22 => ?_)
            replace p22 := p22.2.1 rfl
            show ¬ (10 : Int32) = 0 ∧ ((0 ≤ ((4 * (r19 / 10)) + (r21 - r21 / 10 * 10)).toInt ∧ ((4 * (r19 / 10)) + (r21 - r21 / 10 * 10)).toInt < 16) ∧ (((0 : Int32) = 0 → ((0 ≤ ((4 * (r19 / 10)) + (r21 - r21 / 10 * 10)).toInt ∧ ((4 * (r19 / 10)) + (r21 - r21 / 10 * 10)).toInt < 16) ∧ (qm_PA X 180 23 [(0, .ref 39), (1, .int a), (2, .int (l2 + 1))] [] (qm_row g 45 (upd (g 45) ((4 * (r19 / 10)) + (r21 - r21 / 10 * 10)).toInt.toNat ((g 45 ((4 * (r19 / 10)) + (r21 - r21 / 10 * 10)).toInt.toNat) + 0))) Q))) ∧ (¬ (0 : Int32) = 0 → (qm_PW X 171 [.ref 39, .int l2, .int 2] g _))))
            refine ⟨by decide, ?_⟩
            refine ⟨(by have := ti_div (10 : Int32) 10 rfl r19 (by decide); have := ti_mulL (4 : Int32) 4 rfl (r19 / 10); have := ti_rem (10 : Int32) 10 rfl r21 (by decide); have := ti_add (4 * (r19 / 10)) (r21 - r21 / 10 * 10); have := ti_rem (10 : Int32) 10 rfl r15 (by decide); omega), ?_⟩
            refine ⟨fun c23 => ?_, fun c24 => ?_⟩
            · refine ⟨(by have := ti_div (10 : Int32) 10 rfl r19 (by decide); have := ti_mulL (4 : Int32) 4 rfl (r19 / 10); have := ti_rem (10 : Int32) 10 rfl r21 (by decide); have := ti_add (4 * (r19 / 10)) (r21 - r21 / 10 * 10); have := ti_rem (10 : Int32) 10 rfl r15 (by decide); omega), ?_⟩
              exact ih.2 (l2 + 1) (qm_row g 45 (upd (g 45) ((4 * (r19 / 10)) + (r21 - r21 / 10 * 10)).toInt.toNat ((g 45 ((4 * (r19 / 10)) + (r21 - r21 / 10 * 10)).toInt.toNat) + 0))) ⟨(by have := ti_addK l2 (1 : Int32) 1 rfl; have := ti_div (10 : Int32) 10 rfl r19 (by decide); have := ti_mulL (4 : Int32) 4 rfl (r19 / 10); have := ti_rem (10 : Int32) 10 rfl r21 (by decide); have := ti_add (4 * (r19 / 10)) (r21 - r21 / 10 * 10); have := ti_rem (10 : Int32) 10 rfl r15 (by decide); first | exact ⟨by decide, by decide, owb_z hi0.2.2 (by omega) (by decide)⟩ | exact ⟨by omega, by omega, owb_add hi0.2.2 (by omega) (by first | decide | omega) (by omega) (by omega)⟩), (by exact hgam), (fun k hk => by simp only [qm_row]; rw [if_neg (by omega)]; exact hgf k hk)⟩ (by have := ti_addK l2 (1 : Int32) 1 rfl; have := ti_rem (10 : Int32) 10 rfl r15 (by decide); show (10 - (l2 + 1).toInt).toNat < n; omega)
            · exact absurd c24 (by decide)
          · refine sf_171_39 X g l2 (1 : Int32) ⟨hgam, (by have : (1 : Int32).toInt = 1 := rfl; have := ti_rem (10 : Int32) 10 rfl r15 (by decide); omega)⟩ _ (fun r27 p28 => ?_)
            replace p28 := p28.2.1 rfl
            show ¬ (10 : Int32) = 0 ∧ (qm_PW X 171 [.ref 39, .int l2, .int 1] g _)
            refine ⟨by decide, ?_⟩
            refine sf_171_39 X g l2 (1 : Int32) ⟨hgam, (by have : (1 : Int32).toInt = 1 := rfl; have := ti_rem (10 : Int32) 10 rfl r15 (by decide); omega)⟩ _ (fun r29 p30 => ?_)
            replace p30 := p30.2.1 rfl
            show ¬ (10 : Int32) = 0 ∧ ((0 ≤ ((4 * (r27 / 10)) + (r29 - r29 / 10 * 10)).toInt ∧ ((4 * (r27 / 10)) + (r29 - r29 / 10 * 10)).toInt < 16) ∧ (((1 : Int32) = 0 → ((0 ≤ ((4 * (r27 / 10)) + (r29 - r29 / 10 * 10)).toInt ∧ ((4 * (r27 / 10)) + (r29 - r29 / 10 * 10)).toInt < 16) ∧ (qm_PA X 180 23 [(0, .ref 39), (1, .int a), (2, .int (l2 + 1))] [] (qm_row g 45 (upd (g 45) ((4 * (r27 / 10)) + (r29 - r29 / 10 * 10)).toInt.toNat ((g 45 ((4 * (r27 / 10)) + (r29 - r29 / 10 * 10)).toInt.toNat) + 0))) Q))) ∧ (¬ (1 : Int32) = 0 → (qm_PW X 171 [.ref 39, .int l2, .int 2] g _))))
            refine ⟨by decide, ?_⟩
            refine ⟨(by have := ti_div (10 : Int32) 10 rfl r27 (by decide); have := ti_mulL (4 : Int32) 4 rfl (r27 / 10); have := ti_rem (10 : Int32) 10 rfl r29 (by decide); have := ti_add (4 * (r27 / 10)) (r29 - r29 / 10 * 10); have := ti_rem (10 : Int32) 10 rfl r15 (by decide); omega), ?_⟩
            refine ⟨fun c31 => ?_, fun c32 => ?_⟩
            · exact absurd c31 (by decide)
            · refine sf_171_39 X g l2 (2 : Int32) ⟨hgam, (by have : (2 : Int32).toInt = 2 := rfl; have := ti_rem (10 : Int32) 10 rfl r15 (by decide); omega)⟩ _ (fun r33 p34 => ?_)
              replace p34 := p34.2.2 rfl
              show ¬ (10 : Int32) = 0 ∧ ((0 ≤ ((4 * (r27 / 10)) + (r29 - r29 / 10 * 10)).toInt ∧ ((4 * (r27 / 10)) + (r29 - r29 / 10 * 10)).toInt < 16) ∧ (qm_PA X 180 23 [(0, .ref 39), (1, .int a), (2, .int (l2 + 1))] [] (qm_row g 45 (upd (g 45) ((4 * (r27 / 10)) + (r29 - r29 / 10 * 10)).toInt.toNat ((g 45 ((4 * (r27 / 10)) + (r29 - r29 / 10 * 10)).toInt.toNat) + (r33 / 10)))) Q))
              refine ⟨by decide, ?_⟩
              refine ⟨(by have := ti_div (10 : Int32) 10 rfl r27 (by decide); have := ti_mulL (4 : Int32) 4 rfl (r27 / 10); have := ti_rem (10 : Int32) 10 rfl r29 (by decide); have := ti_add (4 * (r27 / 10)) (r29 - r29 / 10 * 10); have := ti_rem (10 : Int32) 10 rfl r15 (by decide); omega), ?_⟩
              exact ih.2 (l2 + 1) (qm_row g 45 (upd (g 45) ((4 * (r27 / 10)) + (r29 - r29 / 10 * 10)).toInt.toNat ((g 45 ((4 * (r27 / 10)) + (r29 - r29 / 10 * 10)).toInt.toNat) + (r33 / 10)))) ⟨(by have := ti_addK l2 (1 : Int32) 1 rfl; have := ti_div (10 : Int32) 10 rfl r27 (by decide); have := ti_mulL (4 : Int32) 4 rfl (r27 / 10); have := ti_rem (10 : Int32) 10 rfl r29 (by decide); have := ti_add (4 * (r27 / 10)) (r29 - r29 / 10 * 10); have := ti_div (10 : Int32) 10 rfl r33 (by decide); have := ti_rem (10 : Int32) 10 rfl r15 (by decide); first | exact ⟨by decide, by decide, owb_z hi0.2.2 (by omega) (by decide)⟩ | exact ⟨by omega, by omega, owb_add hi0.2.2 (by omega) (by first | decide | omega) (by omega) (by omega)⟩), (by exact hgam), (fun k hk => by simp only [qm_row]; rw [if_neg (by omega)]; exact hgf k hk)⟩ (by have := ti_addK l2 (1 : Int32) 1 rfl; have := ti_rem (10 : Int32) 10 rfl r15 (by decide); show (10 - (l2 + 1).toInt).toNat < n; omega)
set_option maxRecDepth 100000 in
set_option maxHeartbeats 4000000 in
theorem sg_180 (X : qm_X) (h : qm_H) (a : Int32) (hp : am h) (Q : qm_Q) (hq : ∀ h' : qm_H, ((∀ k, (k < 45 ∨ 45 < k) → h' k = h k) ∧ (owb (h' 45) 90)) → Q none h') : qm_PW X 180 [.ref 39, .int a] h Q := by
  have hmam : am h := hp
  have ⟨⟨_, _⟩, ⟨_, _⟩, _, _, _⟩ := hmam
  refine qm_seg_ok (C := qc_180) (rt := none) rfl rfl (cuts := [(2, [0, 1, 2]), (23, [0, 1, 2])]) 400 _ _ _ _ ?_
  show qm_PA X 180 2 [(0, .ref 39), (1, .int a), (2, .int 0)] [] h Q
  exact (sg_180_c X h a hp Q hq _).1 (0 : Int32) h ⟨(by have : (0 : Int32).toInt = 0 := rfl; first | exact ⟨by decide, by decide, owz_0⟩ | exact ⟨by omega, by omega, owz_upd hi0.2.2 hi0.1 (by omega)⟩), hmam, (fun k hk => rfl)⟩ (Nat.lt_succ_self _)
-- ThreadBankModel.startsOwed()V
set_option maxRecDepth 100000 in
set_option maxHeartbeats 4000000 in
theorem sg_202 (X : qm_X) (h : qm_H) (hp : mi h ∧ sm h ∧ zs h ∧ rw_ h) (Q : qm_Q) (hq : ∀ h' : qm_H, (mi h' ∧ sm h' ∧ zs h' ∧ rw_ h' ∧ (∀ k, (k < 41 ∨ 45 < k ∨ k = 42 ∨ k = 43 ∨ k = 44) → h' k = h k) ∧ (owb (h' 45) 90)) → Q none h') : qm_PW X 202 [.ref 39] h Q := by
  have hmmi : mi h := hp.1
  have ⟨⟨_, _⟩, ⟨_, _⟩, ⟨_, _⟩, ⟨_, _⟩, _, _⟩ := hmmi
  have hmsm : sm h := hp.2.1
  have ⟨⟨⟨_, _⟩, _, _⟩, _, _, _⟩ := hmsm
  have hmzs : zs h := hp.2.2.1
  have hmrw : rw_ h := hp.2.2.2
  refine qm_seg_ok (C := qc_202) (rt := none) rfl rfl (cuts := []) 400 _ _ _ _ ?_
  show qm_PW X 169 [.ref 39] h _
  refine sf_169_39 X h  hmsm _ (fun g1 p2 => ?_)
  have f3 : ∀ k, (k < 41 ∨ 45 < k ∨ k = 42 ∨ k = 43 ∨ k = 44) → g1 k = h k := fun k hk => (p2.2.1 k (by omega)).trans (rfl)
  have k4 : mi g1 := by unfold mi; rw [p2.2.1 39 (by omega)]; exact hmmi
  have k5 : sm g1 := by unfold sm; rw [p2.2.1 40 (by omega)]; exact hmsm
  have k6 : zs g1 := by unfold zs; rw [p2.2.1 49 (by omega)]; exact hmzs
  have k7 : rw_ g1 := by unfold rw_; rw [p2.2.1 46 (by omega)]; exact hmrw
  show qm_PW X 180 [.ref 39, .int 9] g1 _
  refine sg_180 X g1 (9 : Int32) p2.1 _ (fun g8 p9 => ?_)
  have f10 : ∀ k, (k < 41 ∨ 45 < k ∨ k = 42 ∨ k = 43 ∨ k = 44) → g8 k = h k := fun k hk => (p9.1 k (by omega)).trans (f3 k hk)
  have k11 : mi g8 := by unfold mi; rw [p9.1 39 (by omega)]; exact k4
  have k12 : sm g8 := by unfold sm; rw [p9.1 40 (by omega)]; exact k5
  have k13 : zs g8 := by unfold zs; rw [p9.1 49 (by omega)]; exact k6
  have k14 : rw_ g8 := by unfold rw_; rw [p9.1 46 (by omega)]; exact k7
  have k15 : am g8 := by unfold am; rw [p9.1 41 (by omega)]; exact p2.1
  show Q none g8
  exact hq g8 ⟨k11, k12, k13, k14, (fun k hk => f10 k hk), (by exact p9.2)⟩
set_option maxRecDepth 100000 in
set_option maxHeartbeats 4000000 in
theorem sf_204_39 (X : qm_X) (h : qm_H) (hp : mi h ∧ sm h ∧ zs h ∧ rw_ h) (Q : qm_Q) (hq : ∀ (r : Int32) (h' : qm_H), (mi h' ∧ sm h' ∧ zs h' ∧ rw_ h' ∧ (h' 39 3 = h 39 3) ∧ (∀ k, (k < 39 ∨ 46 < k ∨ k = 40 ∨ k = 42 ∨ k = 43 ∨ k = 44) → h' k = h k) ∧ ((h' 39 9).toInt = (h 39 9).toInt ∧ (h' 39 14).toInt = (h 39 14).toInt)) → Q (some (.int r)) h') : qm_PW X 204 [.ref 39] h Q := by
  refine qm_seg_ok (C := qc_204) (rt := some .int) rfl rfl (cuts := [(6, [0, 1]), (38, [0, 1, 2, 3])]) 400 _ _ _ _ ?_
  show qm_PW X 202 [.ref 39] h _
  refine sg_202 X h hp _ (fun g p => ?_)
  show qm_PA X 204 6 [(0, .ref 39), (1, .int 0)] [] g Q
  exact (sg_204_c X h Q (fun r h' p => hq r h' ⟨p.1, p.2.1, p.2.2.1, p.2.2.2.1, p.2.2.2.2.2.2.2, p.2.2.2.2.1, p.2.2.2.2.2.1, p.2.2.2.2.2.2.1⟩) _).1 0 g ⟨p.1, p.2.1, p.2.2.1, p.2.2.2.1, owb_le p.2.2.2.2.2 (by decide), fun k hk => p.2.2.2.2.1 k (by omega), congrArg (fun f : Nat → Int32 => (f 9).toInt) (p.2.2.2.2.1 39 (by omega)), congrArg (fun f : Nat → Int32 => (f 14).toInt) (p.2.2.2.2.1 39 (by omega)), congrFun (p.2.2.2.2.1 39 (by omega)) 3⟩ (Nat.lt_succ_self _)
-- ThreadBankModel.clear(I)I
set_option maxRecDepth 100000 in
set_option maxHeartbeats 4000000 in
theorem sf_205_39 (X : qm_X) (h : qm_H) (a : Int32) (hp : mi h ∧ sm h ∧ zs h ∧ rw_ h) (Q : qm_Q) (hq : ∀ r : Int32, ∀ h' : qm_H, (mi h' ∧ sm h' ∧ zs h' ∧ rw_ h' ∧ (h' 39 3 = h 39 3) ∧ (∀ k, (k < 39 ∨ 46 < k ∨ k = 40 ∨ k = 42 ∨ k = 43 ∨ k = 44) → h' k = h k) ∧ (((h' 39 9).toInt = (h 39 9).toInt ∧ (h' 39 14).toInt = (h 39 14).toInt))) → Q (some (.int r)) h') : qm_PW X 205 [.ref 39, .int a] h Q := by
  have hmmi : mi h := hp.1
  have ⟨⟨_, _⟩, ⟨_, _⟩, ⟨_, _⟩, ⟨_, _⟩, _, _⟩ := hmmi
  have hmsm : sm h := hp.2.1
  have ⟨⟨⟨_, _⟩, _, _⟩, _, _, _⟩ := hmsm
  have hmzs : zs h := hp.2.2.1
  have hmrw : rw_ h := hp.2.2.2
  refine qm_seg_ok (C := qc_205) (rt := some .int) rfl rfl (cuts := []) 400 _ _ _ _ ?_
  show qm_PW X 168 [.int a] h _
  refine sf_168 X h a trivial _ (fun r1 p2 => ?_)
  show (¬ r1 = 0 → (qm_PW X 204 [.ref 39] h _)) ∧ (r1 = 0 → (Q (some (.int (-1 : Int32))) h))
  refine ⟨fun c3 => ?_, fun c4 => ?_⟩
  · have := p2.2 c3
    refine sf_204_39 X h  ⟨hmmi, hmsm, hmzs, hmrw⟩ _ (fun r5 g6 p7 => ?_)
    have k8s : (g6 39 3 = h 39 3) := (p7.2.2.2.2.1).trans rfl
    have f9 : ∀ k, (k < 39 ∨ 46 < k ∨ k = 40 ∨ k = 42 ∨ k = 43 ∨ k = 44) → g6 k = h k := fun k hk => (p7.2.2.2.2.2.1 k (by omega)).trans (rfl)
    have o10 : ((g6 39 9).toInt = (h 39 9).toInt ∧ (g6 39 14).toInt = (h 39 14).toInt) := p7.2.2.2.2.2.2
    have e23_g6 : (g6 23 2).toInt = (h 23 2).toInt := congrArg (fun f : Nat → Int32 => (f 2).toInt) (p7.2.2.2.2.2.1 23 (by omega))
    show (¬ a = 0 → (Q (some (.int r5)) g6)) ∧ (a = 0 → (qm_PW X 183 [.ref 39] g6 _))
    refine ⟨fun c11 => ?_, fun c12 => ?_⟩
    · exact hq r5 g6 ⟨p7.1, p7.2.1, p7.2.2.1, p7.2.2.2.1, k8s, (fun k hk => f9 k hk), (by show ((g6 39 9).toInt = (h 39 9).toInt ∧ (g6 39 14).toInt = (h 39 14).toInt); omega)⟩
    · refine sf_183_39 X g6  trivial _ (fun r13 p14 => ?_)
      show Q (some (.int r13)) g6
      exact hq r13 g6 ⟨p7.1, p7.2.1, p7.2.2.1, p7.2.2.2.1, k8s, (fun k hk => f9 k hk), (by show ((g6 39 9).toInt = (h 39 9).toInt ∧ (g6 39 14).toInt = (h 39 14).toInt); omega)⟩
  · exact hq (-1 : Int32) h ⟨hmmi, hmsm, hmzs, hmrw, rfl, (fun k hk => rfl), (by show ((h 39 9).toInt = (h 39 9).toInt ∧ (h 39 14).toInt = (h 39 14).toInt); omega)⟩
-- ThreadBankModel.left(I)I
set_option maxRecDepth 100000 in
set_option maxHeartbeats 4000000 in
theorem sf_206_39 (X : qm_X) (h : qm_H) (a : Int32) (hp : mi h ∧ sm h ∧ zs h ∧ rw_ h) (Q : qm_Q) (hq : ∀ r : Int32, ∀ h' : qm_H, (mi h' ∧ sm h' ∧ zs h' ∧ rw_ h' ∧ (h' 39 3 = h 39 3) ∧ (∀ k, (k < 39 ∨ 46 < k ∨ k = 40 ∨ k = 42 ∨ k = 43 ∨ k = 44) → h' k = h k) ∧ (((h' 39 9).toInt = (h 39 9).toInt ∧ (h' 39 14).toInt = (h 39 14).toInt))) → Q (some (.int r)) h') : qm_PW X 206 [.ref 39, .int a] h Q := by
  have hmmi : mi h := hp.1
  have ⟨⟨_, _⟩, ⟨_, _⟩, ⟨_, _⟩, ⟨_, _⟩, _, _⟩ := hmmi
  have hmsm : sm h := hp.2.1
  have ⟨⟨⟨_, _⟩, _, _⟩, _, _, _⟩ := hmsm
  have hmzs : zs h := hp.2.2.1
  have hmrw : rw_ h := hp.2.2.2
  refine qm_seg_ok (C := qc_206) (rt := some .int) rfl rfl (cuts := []) 400 _ _ _ _ ?_
  show qm_PW X 166 [.ref 39, .int a] h _
  refine sf_166_39 X h a hmmi _ (fun r1 p2 => ?_)
  show (¬ r1 = 0 → (qm_PW X 204 [.ref 39] h _)) ∧ (r1 = 0 → (Q (some (.int (-1 : Int32))) h))
  refine ⟨fun c3 => ?_, fun c4 => ?_⟩
  · have := p2.2 c3
    refine sf_204_39 X h  ⟨hmmi, hmsm, hmzs, hmrw⟩ _ (fun r5 g6 p7 => ?_)
    have k8s : (g6 39 3 = h 39 3) := (p7.2.2.2.2.1).trans rfl
    have f9 : ∀ k, (k < 39 ∨ 46 < k ∨ k = 40 ∨ k = 42 ∨ k = 43 ∨ k = 44) → g6 k = h k := fun k hk => (p7.2.2.2.2.2.1 k (by omega)).trans (rfl)
    have o10 : ((g6 39 9).toInt = (h 39 9).toInt ∧ (g6 39 14).toInt = (h 39 14).toInt) := p7.2.2.2.2.2.2
    have e23_g6 : (g6 23 2).toInt = (h 23 2).toInt := congrArg (fun f : Nat → Int32 => (f 2).toInt) (p7.2.2.2.2.2.1 23 (by omega))
    show qm_PW X 181 [.ref 39, .int a] g6 _
    refine sf_181_39 X g6 a (by omega) _ (fun r11 p12 => ?_)
    show Q (some (.int r11)) g6
    exact hq r11 g6 ⟨p7.1, p7.2.1, p7.2.2.1, p7.2.2.2.1, k8s, (fun k hk => f9 k hk), (by show ((g6 39 9).toInt = (h 39 9).toInt ∧ (g6 39 14).toInt = (h 39 14).toInt); omega)⟩
  · exact hq (-1 : Int32) h ⟨hmmi, hmsm, hmzs, hmrw, rfl, (fun k hk => rfl), (by show ((h 39 9).toInt = (h 39 9).toInt ∧ (h 39 14).toInt = (h 39 14).toInt); omega)⟩
theorem or_leB {x f c : Int32} (hx : 0 ≤ x.toInt ∧ x.toInt ≤ 15) (hf : f = 0 ∨ f = 1) (hc : 0 ≤ c.toInt ∧ c.toInt ≤ 3) : 0 ≤ (x ||| (f <<< (c &&& 31))).toInt ∧ (x ||| (f <<< (c &&& 31))).toInt ≤ 15 := by
  rcases hf with rfl | rfl
  · exact or_le x 0 c hx (by decide) hc
  · exact or_le x 1 c hx (by decide) hc
