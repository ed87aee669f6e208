-- ThreadBankModel.power(II)I
set_option maxRecDepth 100000 in
set_option maxHeartbeats 4000000 in
theorem ty_200_c (X : qm_X) (h : qm_H) (a : Int32) (b : Int32) (hp : a.toInt = 4 ∧ 0 ≤ b.toInt ∧ b.toInt ≤ 4) (Q : qm_Q) (hq : ∀ r : Int32, ((b.toInt = 2 ∧ r.toInt = 16) ∨ (b.toInt = 3 ∧ r.toInt = 64) ∨ (b.toInt = 4 ∧ r.toInt = 256) ∨ b.toInt < 2) → Q (some (.int r)) h) : ∀ n : Nat, (∀ (l2 : Int32) (l3 : Int32), (((l3.toInt = 0 ∧ l2.toInt = 1) ∨ (l3.toInt = 1 ∧ l2.toInt = 4) ∨ (l3.toInt = 2 ∧ l2.toInt = 16) ∨ (l3.toInt = 3 ∧ l2.toInt = 64) ∨ (l3.toInt = 4 ∧ l2.toInt = 256)) ∧ l3.toInt ≤ b.toInt) → (4 - l3.toInt).toNat < n → qm_PA X 200 4 [(0, .int a), (1, .int b), (2, .int l2), (3, .int l3)] [] h Q) := by
  have hp0 : a.toInt = 4 ∧ 0 ≤ b.toInt ∧ b.toInt ≤ 4 := hp
  intro n
  induction n with
  | zero => exact fun _ _ _ h0 => absurd h0 (Nat.not_lt_zero _)
  | succ n ih =>
    intro l2 l3 hi hr
    have := ti_mulR a 4 hp.1 l2
    refine qm_seg_ok (C := qc_200) (rt := some .int) rfl rfl (cuts := [(4, [0, 1, 2, 3])]) 400 _ _ _ _ ?_
    show (b.toInt ≤ l3.toInt → (Q (some (.int l2)) h)) ∧ (l3.toInt < b.toInt → (qm_PA X 200 4 [(0, .int a), (1, .int b), (2, .int (l2 * a)), (3, .int (l3 + 1))] [] h Q))
    refine ⟨fun c1 => ?_, fun c2 => ?_⟩
    · exact hq l2 (by omega)
    · exact ih (l2 * a) (l3 + 1) (by have := ti_addK l3 (1 : Int32) 1 rfl; omega) (by have := ti_addK l3 (1 : Int32) 1 rfl; omega)
set_option maxRecDepth 100000 in
set_option maxHeartbeats 4000000 in
theorem ty_200 (X : qm_X) (h : qm_H) (a : Int32) (b : Int32) (hp : a.toInt = 4 ∧ 0 ≤ b.toInt ∧ b.toInt ≤ 4) (Q : qm_Q) (hq : ∀ r : Int32, ((b.toInt = 2 ∧ r.toInt = 16) ∨ (b.toInt = 3 ∧ r.toInt = 64) ∨ (b.toInt = 4 ∧ r.toInt = 256) ∨ b.toInt < 2) → Q (some (.int r)) h) : qm_PW X 200 [.int a, .int b] h Q := by
  have hp0 : a.toInt = 4 ∧ 0 ≤ b.toInt ∧ b.toInt ≤ 4 := hp
  refine qm_seg_ok (C := qc_200) (rt := some .int) rfl rfl (cuts := [(4, [0, 1, 2, 3])]) 400 _ _ _ _ ?_
  show qm_PA X 200 4 [(0, .int a), (1, .int b), (2, .int 1), (3, .int 0)] [] h Q
  exact (ty_200_c X h a b hp Q hq _) (1 : Int32) (0 : Int32) (by have : (1 : Int32).toInt = 1 := rfl; have : (0 : Int32).toInt = 0 := rfl; omega) (Nat.lt_succ_self _)
/-! ===== clearing: the reference ===== -/
theorem vR_ext {cl : Int} {n c m : Nat} (h : vR cl n c m) (g : ((dg n c m : Nat) : Int) < cl) (g0 : 0 < m → dg n c 0 < dg n c m) (g1 : ∀ k : Nat, 0 < k → k < m → ¬ dg n c m = dg n c k) : vR cl n c (m + 1) := fun i hi => by
  by_cases w : i = m
  · subst w; exact ⟨g, g0, g1⟩
  · exact h i (by omega)
set_option maxRecDepth 100000 in
set_option maxHeartbeats 4000000 in
theorem sr_198_b (X : qm_X) (h : qm_H) (a b : Int32) (n c : Nat) (hn : b.toInt = ((n : Nat) : Int)) (hb : 2 ≤ n ∧ n ≤ 4) (hg : rg (h 46) n c) (Q : qm_Q) (hq : ∀ (r : Int32), ((r = 0 ∨ r = 1) ∧ (¬ r = 0 → vR (h 39 3).toInt n c n) ∧ (r = 0 → ¬ vR (h 39 3).toInt n c n)) → Q (some (.int r)) h) : ∀ m : Nat, (∀ (l3 l4 l5 : Int32), ((0 ≤ l5.toInt ∧ l5.toInt ≤ b.toInt) ∧ (l4 = 0 ∨ l4 = 1) ∧ (¬ l4 = 0 → vR (h 39 3).toInt n c l5.toInt.toNat) ∧ (l4 = 0 → ¬ vR (h 39 3).toInt n c n)) → ((4 - l5.toInt) * 100 + 50).toNat < m → qm_PA X 198 38 [(0, .ref 39), (1, .int a), (2, .int b), (3, .int l3), (4, .int l4), (5, .int l5)] [] h Q) ∧ (∀ (l3 l4 l5 l6 : Int32), ((0 ≤ l5.toInt ∧ l5.toInt < b.toInt) ∧ (1 ≤ l6.toInt ∧ l6.toInt ≤ 4) ∧ (l4 = 0 ∨ l4 = 1) ∧ (¬ l4 = 0 → vR (h 39 3).toInt n c l5.toInt.toNat ∧ ((dg n c l5.toInt.toNat : Nat) : Int) < (h 39 3).toInt ∧ (0 < l5.toInt.toNat → dg n c 0 < dg n c l5.toInt.toNat) ∧ ∀ k : Nat, 0 < k → (k : Int) < l6.toInt → (k : Int) < l5.toInt → ¬ dg n c l5.toInt.toNat = dg n c k) ∧ (l4 = 0 → ¬ vR (h 39 3).toInt n c n)) → ((4 - l5.toInt) * 100 + 40 - l6.toInt).toNat < m → qm_PA X 198 94 [(0, .ref 39), (1, .int a), (2, .int b), (3, .int l3), (4, .int l4), (5, .int l5), (6, .int l6)] [] h Q) := by
  intro m
  induction m with
  | zero => exact ⟨fun _ _ _ _ h0 => absurd h0 (Nat.not_lt_zero _), fun _ _ _ _ _ h0 => absurd h0 (Nat.not_lt_zero _)⟩
  | succ m ih =>
    refine ⟨?_, ?_⟩
    · intro l3 l4 l5 ⟨h5, h4, hD, hN⟩ hr
      refine qm_seg_ok (C := qc_198) (rt := some .boolean) rfl rfl (cuts := [(10, [0, 1, 2, 3, 4, 5]), (38, [0, 1, 2, 3, 4, 5]), (94, [0, 1, 2, 3, 4, 5, 6])]) 400 _ _ _ _ ?_
      show (b.toInt ≤ l5.toInt → ((l4 = 0 ∨ l4 = 1) ∧ Q (some (.int l4)) h)) ∧ (l5.toInt < b.toInt → ((l4 = 0 → (qm_PA X 198 94 [(0, .ref 39), (1, .int a), (2, .int b), (3, .int l3), (4, .int 0), (5, .int l5), (6, .int 1)] [] h Q)) ∧ (¬ l4 = 0 → ((0 ≤ l5.toInt ∧ l5.toInt < 4) ∧ (((h 39 3).toInt ≤ (h 46 l5.toInt.toNat).toInt → (qm_PA X 198 94 [(0, .ref 39), (1, .int a), (2, .int b), (3, .int l3), (4, .int 0), (5, .int l5), (6, .int 1)] [] h Q)) ∧ ((h 46 l5.toInt.toNat).toInt < (h 39 3).toInt → ((l5 = 0 → (qm_PA X 198 94 [(0, .ref 39), (1, .int a), (2, .int b), (3, .int l3), (4, .int 1), (5, .int l5), (6, .int 1)] [] h Q)) ∧ (¬ l5 = 0 → ((0 ≤ l5.toInt ∧ l5.toInt < 4) ∧ ((0 ≤ (0 : Int) ∧ (0 : Int) < 4) ∧ (((h 46 l5.toInt.toNat).toInt ≤ (h 46 0).toInt → (qm_PA X 198 94 [(0, .ref 39), (1, .int a), (2, .int b), (3, .int l3), (4, .int 0), (5, .int l5), (6, .int 1)] [] h Q)) ∧ ((h 46 0).toInt < (h 46 l5.toInt.toNat).toInt → (qm_PA X 198 94 [(0, .ref 39), (1, .int a), (2, .int b), (3, .int l3), (4, .int 1), (5, .int l5), (6, .int 1)] [] h Q)))))))))))))
      have e1 : (1 : Int32).toInt = 1 := rfl
      have no : ((4 - l5.toInt) * 100 + 40 - (1 : Int32).toInt).toNat < m := by rw [e1]; omega
      have d5 : l5.toInt < b.toInt → (h 46 l5.toInt.toNat).toInt = ((dg n c l5.toInt.toNat : Nat) : Int) := fun q => hg _ (by omega)
      have d0 : (h 46 0).toInt = ((dg n c 0 : Nat) : Int) := hg 0 (by omega)
      have z0 : l5.toInt < b.toInt → ¬ vR (h 39 3).toInt n c n → qm_PA X 198 94 [(0, .ref 39), (1, .int a), (2, .int b), (3, .int l3), (4, .int 0), (5, .int l5), (6, .int 1)] [] h Q := fun q hv => ih.2 l3 0 l5 1 ⟨⟨h5.1, q⟩, by decide, Or.inl rfl, fun hc => absurd rfl hc, fun _ => hv⟩ no
      have z1 : l5.toInt < b.toInt → ¬ l4 = 0 → ((dg n c l5.toInt.toNat : Nat) : Int) < (h 39 3).toInt → (0 < l5.toInt.toNat → dg n c 0 < dg n c l5.toInt.toNat) → qm_PA X 198 94 [(0, .ref 39), (1, .int a), (2, .int b), (3, .int l3), (4, .int 1), (5, .int l5), (6, .int 1)] [] h Q := fun q c4 g g0 => ih.2 l3 1 l5 1 ⟨⟨h5.1, q⟩, by decide, Or.inr rfl, fun _ => ⟨hD c4, g, g0, fun k k0 k1 _ => absurd k1 (by rw [e1]; omega)⟩, fun hc => absurd hc (by decide)⟩ no
      refine ⟨fun q => ⟨h4, hq l4 ⟨h4, fun c4 => ?_, hN⟩⟩, fun q => ⟨fun c4 => z0 q (hN c4), fun c4 => ⟨⟨h5.1, by omega⟩, fun c5 => z0 q (fun v => ?_), fun c5 => ⟨fun c6 => z1 q c4 ?_ (fun c7 => ?_), fun c6 => ⟨⟨h5.1, by omega⟩, by decide, fun c7 => z0 q (fun v => ?_), fun c7 => z1 q c4 ?_ (fun _ => ?_)⟩⟩⟩⟩⟩
      · have x := hD c4
        rw [show l5.toInt.toNat = n by omega] at x
        exact x
      · have x := (v l5.toInt.toNat (by omega)).1
        have y := d5 q
        omega
      · have y := d5 q
        omega
      · exfalso
        have x := congrArg Int32.toInt c6
        have x0 : (0 : Int32).toInt = 0 := rfl
        omega
      · have x1 : ¬ l5.toInt = 0 := fun z => c6 (Int32.toInt_inj.mp (z.trans (show (0 : Int) = (0 : Int32).toInt from rfl)))
        have x := (v l5.toInt.toNat (by omega)).2.1 (by omega)
        have y := d5 q
        omega
      · have y := d5 q
        omega
      · have y := d5 q
        omega
    · intro l3 l4 l5 l6 ⟨h5, h6, h4, hD, hN⟩ hr
      refine qm_seg_ok (C := qc_198) (rt := some .boolean) rfl rfl (cuts := [(10, [0, 1, 2, 3, 4, 5]), (38, [0, 1, 2, 3, 4, 5]), (94, [0, 1, 2, 3, 4, 5, 6])]) 400 _ _ _ _ ?_
      show (l5.toInt ≤ l6.toInt → (qm_PA X 198 38 [(0, .ref 39), (1, .int a), (2, .int b), (3, .int l3), (4, .int l4), (5, .int (l5 + 1))] [] h Q)) ∧ (l6.toInt < l5.toInt → ((l4 = 0 → (qm_PA X 198 94 [(0, .ref 39), (1, .int a), (2, .int b), (3, .int l3), (4, .int 0), (5, .int l5), (6, .int (l6 + 1))] [] h Q)) ∧ (¬ l4 = 0 → ((0 ≤ l5.toInt ∧ l5.toInt < 4) ∧ ((0 ≤ l6.toInt ∧ l6.toInt < 4) ∧ (((h 46 l5.toInt.toNat) = (h 46 l6.toInt.toNat) → (qm_PA X 198 94 [(0, .ref 39), (1, .int a), (2, .int b), (3, .int l3), (4, .int 0), (5, .int l5), (6, .int (l6 + 1))] [] h Q)) ∧ (¬ (h 46 l5.toInt.toNat) = (h 46 l6.toInt.toNat) → (qm_PA X 198 94 [(0, .ref 39), (1, .int a), (2, .int b), (3, .int l3), (4, .int 1), (5, .int l5), (6, .int (l6 + 1))] [] h Q))))))))
      have e5 := ti_addK l5 (1 : Int32) 1 rfl (by omega)
      have e6 := ti_addK l6 (1 : Int32) 1 rfl (by omega)
      have n5 : (l5 + 1).toInt.toNat = l5.toInt.toNat + 1 := by omega
      have d5 : (h 46 l5.toInt.toNat).toInt = ((dg n c l5.toInt.toNat : Nat) : Int) := hg _ (by omega)
      refine ⟨fun q => ih.1 l3 l4 (l5 + 1) ⟨by omega, h4, fun c4 => ?_, hN⟩ (by omega), fun q => ⟨fun c4 => ih.2 l3 0 l5 (l6 + 1) ⟨h5, by omega, Or.inl rfl, fun hc => absurd rfl hc, fun _ => hN c4⟩ (by omega), fun c4 => ⟨by omega, by omega, fun c7 => ih.2 l3 0 l5 (l6 + 1) ⟨h5, by omega, Or.inl rfl, fun hc => absurd rfl hc, fun _ v => ?_⟩ (by omega), fun c7 => ih.2 l3 1 l5 (l6 + 1) ⟨h5, by omega, Or.inr rfl, fun _ => ⟨(hD c4).1, (hD c4).2.1, (hD c4).2.2.1, fun k k0 k1 k2 => ?_⟩, fun hc => absurd hc (by decide)⟩ (by omega)⟩⟩⟩
      · obtain ⟨x1, x2, x3, x4⟩ := hD c4
        rw [n5]
        exact vR_ext x1 x2 x3 (fun k k0 k1 => x4 k k0 (by omega) (by omega))
      · have x := (v l5.toInt.toNat (by omega)).2.2 l6.toInt.toNat (by omega) (by omega)
        have y := congrArg Int32.toInt c7
        have d6 : (h 46 l6.toInt.toNat).toInt = ((dg n c l6.toInt.toNat : Nat) : Int) := hg _ (by omega)
        omega
      · by_cases hk : (k : Int) < l6.toInt
        · exact (hD c4).2.2.2 k k0 hk k2
        · have ek : k = l6.toInt.toNat := by omega
          have d6 : (h 46 l6.toInt.toNat).toInt = ((dg n c l6.toInt.toNat : Nat) : Int) := hg _ (by omega)
          rw [ek]
          intro z
          exact c7 (Int32.toInt_inj.mp (by omega))
set_option maxRecDepth 100000 in
set_option maxHeartbeats 4000000 in
theorem sr_198_a (X : qm_X) (h : qm_H) (a b : Int32) (ha : 0 ≤ a.toInt) (hb : 2 ≤ b.toInt ∧ b.toInt ≤ 4) (Q : qm_Q) (hq : ∀ (r : Int32) (h' : qm_H), (rw_ h' ∧ (∀ k, k ≠ 46 → h' k = h k) ∧ rg (h' 46) b.toInt.toNat a.toInt.toNat ∧ (r = 0 ∨ r = 1) ∧ (¬ r = 0 → vR (h' 39 3).toInt b.toInt.toNat a.toInt.toNat b.toInt.toNat) ∧ (r = 0 → ¬ vR (h' 39 3).toInt b.toInt.toNat a.toInt.toNat b.toInt.toNat)) → Q (some (.int r)) h') : ∀ n : Nat, ∀ (l3 l5 : Int32) (g : qm_H), ((-1 ≤ l5.toInt ∧ l5.toInt ≤ b.toInt - 1) ∧ l3.toInt = ((a.toInt.toNat / 4 ^ (b.toInt - 1 - l5.toInt).toNat : Nat) : Int) ∧ (∀ j : Nat, l5.toInt < (j : Int) → j < b.toInt.toNat → (g 46 j).toInt = ((dg b.toInt.toNat a.toInt.toNat j : Nat) : Int)) ∧ rw_ g ∧ (∀ k, k ≠ 46 → g k = h k)) → (l5.toInt + 1).toNat < n → qm_PA X 198 10 [(0, .ref 39), (1, .int a), (2, .int b), (3, .int l3), (4, .int 1), (5, .int l5)] [] g Q := by
  intro n
  induction n with
  | zero => exact fun _ _ _ _ h0 => absurd h0 (Nat.not_lt_zero _)
  | succ n ih =>
    intro l3 l5 g ⟨h5, h3, hrow, hrw, hf⟩ hr
    refine qm_seg_ok (C := qc_198) (rt := some .boolean) rfl rfl (cuts := [(10, [0, 1, 2, 3, 4, 5]), (38, [0, 1, 2, 3, 4, 5]), (94, [0, 1, 2, 3, 4, 5, 6])]) 400 _ _ _ _ ?_
    show (l5.toInt < 0 → (qm_PA X 198 38 [(0, .ref 39), (1, .int a), (2, .int b), (3, .int l3), (4, .int 1), (5, .int 0)] [] g Q)) ∧ (0 ≤ l5.toInt → (¬ (4 : Int32) = 0 ∧ ((0 ≤ l5.toInt ∧ l5.toInt < 4) ∧ (¬ (4 : Int32) = 0 ∧ (qm_PA X 198 10 [(0, .ref 39), (1, .int a), (2, .int b), (3, .int (l3 / 4)), (4, .int 1), (5, .int (l5 + (-1 : Int32)))] [] (qm_row g 46 (upd (g 46) l5.toInt.toNat (l3 - l3 / 4 * 4))) Q)))))
    refine ⟨fun c => ?_, fun c => ⟨by decide, ⟨c, by omega⟩, by decide, ?_⟩⟩
    · have hg : rg (g 46) b.toInt.toNat a.toInt.toNat := fun i hi => hrow i (by omega) hi
      refine (sr_198_b X g a b b.toInt.toNat a.toInt.toNat (by omega) (by omega) hg Q (fun r hr => hq r g ⟨hrw, hf, hg, hr.1, hr.2.1, hr.2.2⟩) _).1 l3 1 0 ⟨⟨by decide, by show (0 : Int) ≤ b.toInt; omega⟩, Or.inr rfl, fun _ i hi => absurd hi (by show ¬ i < 0; omega), fun hc => absurd hc (by decide)⟩ (Nat.lt_succ_self _)
    · have hz := ti_addK l5 (-1 : Int32) (-1) ti_n1 (by omega)
      revert hz
      generalize l5 + (-1 : Int32) = z
      intro hz
      obtain ⟨y, hy⟩ : ∃ y, y = a.toInt.toNat / 4 ^ (b.toInt - 1 - l5.toInt).toNat := ⟨_, rfl⟩
      rw [← hy] at h3
      have e3 := ti_div (4 : Int32) 4 rfl l3 (by decide) (by omega)
      have e4 := ti_rem (4 : Int32) 4 rfl l3 (by decide) (by omega)
      have ey : a.toInt.toNat / 4 ^ (b.toInt - 1 - z.toInt).toNat = y / 4 := by
        rw [show (b.toInt - 1 - z.toInt).toNat = (b.toInt - 1 - l5.toInt).toNat + 1 by omega, Nat.pow_succ, ← Nat.div_div_eq_div_mul, ← hy]
      have ed : dg b.toInt.toNat a.toInt.toNat l5.toInt.toNat = y % 4 := by
        unfold dg
        rw [show b.toInt.toNat - 1 - l5.toInt.toNat = (b.toInt - 1 - l5.toInt).toNat by omega, ← hy]
      refine ih (l3 / 4) z _ ⟨by omega, by rw [ey]; omega, fun j j0 j1 => ?_, fun j => ?_, fun k hk => ?_⟩ (by omega)
      · show (upd (g 46) l5.toInt.toNat (l3 - l3 / 4 * 4) j).toInt = _
        unfold upd
        split
        · rename_i ej
          rw [ej, ed]; omega
        · exact hrow j (by omega) j1
      · show 0 ≤ (upd (g 46) l5.toInt.toNat (l3 - l3 / 4 * 4) j).toInt ∧ (upd (g 46) l5.toInt.toNat (l3 - l3 / 4 * 4) j).toInt ≤ 3
        unfold upd
        split
        · omega
        · exact hrw j
      · simp only [qm_row]
        rw [if_neg hk]
        exact hf k hk
set_option maxRecDepth 100000 in
set_option maxHeartbeats 4000000 in
theorem sr_198 (X : qm_X) (h : qm_H) (a b : Int32) (hp : rw_ h ∧ 0 ≤ a.toInt ∧ (2 ≤ b.toInt ∧ b.toInt ≤ 4)) (Q : qm_Q) (hq : ∀ (r : Int32) (h' : qm_H), (rw_ h' ∧ (∀ k, k ≠ 46 → h' k = h k) ∧ rg (h' 46) b.toInt.toNat a.toInt.toNat ∧ (r = 0 ∨ r = 1) ∧ (¬ r = 0 → vR (h' 39 3).toInt b.toInt.toNat a.toInt.toNat b.toInt.toNat) ∧ (r = 0 → ¬ vR (h' 39 3).toInt b.toInt.toNat a.toInt.toNat b.toInt.toNat)) → Q (some (.int r)) h') : qm_PW X 198 [.ref 39, .int a, .int b] h Q := by
  obtain ⟨h1, h2, h3⟩ := hp
  refine qm_seg_ok (C := qc_198) (rt := some .boolean) rfl rfl (cuts := [(10, [0, 1, 2, 3, 4, 5]), (38, [0, 1, 2, 3, 4, 5]), (94, [0, 1, 2, 3, 4, 5, 6])]) 400 _ _ _ _ ?_
  show qm_PA X 198 10 [(0, .ref 39), (1, .int a), (2, .int b), (3, .int a), (4, .int 1), (5, .int (b - 1))] [] h Q
  have e := ti_subK b (1 : Int32) 1 rfl (by omega)
  refine sr_198_a X h a b h2 h3 Q hq _ a (b - 1) h ⟨by omega, ?_, fun j j0 j1 => by omega, h1, fun _ _ => rfl⟩ (Nat.lt_succ_self _)
  rw [show (b.toInt - 1 - (b - 1).toInt).toNat = 0 by omega, Nat.pow_zero, Nat.div_one]
  omega
set_option maxRecDepth 100000 in
set_option maxHeartbeats 4000000 in
theorem sr_199_c (X : qm_X) (h : qm_H) (a : Int32) (n c : Nat) (hn : a.toInt = n) (h2 : 2 ≤ n) (h4 : n ≤ 4) (hg : rg (h 46) n c) (ho : owb (h 45) 100) (Q : qm_Q) (hq : ∀ (r : Int32), ((∀ i : Nat, i < n → r.toInt ≤ (h 45 (pz n c i)).toInt) ∧ ∃ i : Nat, i < n ∧ r.toInt = (h 45 (pz n c i)).toInt) → Q (some (.int r)) h) : ∀ k : Nat, ∀ (l2 l3 : Int32), ((0 ≤ l3.toInt ∧ l3.toInt ≤ n) ∧ ((l3.toInt = 0 ∧ l2.toInt = 1000000) ∨ ∃ i : Nat, (i : Int) < l3.toInt ∧ l2.toInt = (h 45 (pz n c i)).toInt) ∧ ∀ i : Nat, (i : Int) < l3.toInt → l2.toInt ≤ (h 45 (pz n c i)).toInt) → (4 - l3.toInt).toNat < k → qm_PA X 199 5 [(0, .ref 39), (1, .int a), (2, .int l2), (3, .int l3)] [] h Q := by
  intro k
  induction k with
  | zero => exact fun _ _ _ h0 => absurd h0 (Nat.not_lt_zero _)
  | succ k ih =>
    intro l2 l3 ⟨h3, hl, hm⟩ hr
    refine qm_seg_ok (C := qc_199) (rt := some .int) rfl rfl (cuts := [(5, [0, 1, 2, 3])]) 400 _ _ _ _ ?_
    show (a.toInt ≤ l3.toInt → (Q (some (.int l2)) h)) ∧ (l3.toInt < a.toInt → ((0 ≤ l3.toInt ∧ l3.toInt < 4) ∧ (¬ a = 0 ∧ ((0 ≤ ((l3 + 1) - (l3 + 1) / a * a).toInt ∧ ((l3 + 1) - (l3 + 1) / a * a).toInt < 4) ∧ ((0 ≤ ((4 * (h 46 l3.toInt.toNat)) + (h 46 ((l3 + 1) - (l3 + 1) / a * a).toInt.toNat)).toInt ∧ ((4 * (h 46 l3.toInt.toNat)) + (h 46 ((l3 + 1) - (l3 + 1) / a * a).toInt.toNat)).toInt < 16) ∧ ((l2.toInt ≤ (h 45 ((4 * (h 46 l3.toInt.toNat)) + (h 46 ((l3 + 1) - (l3 + 1) / a * a).toInt.toNat)).toInt.toNat).toInt → (qm_PA X 199 5 [(0, .ref 39), (1, .int a), (2, .int l2), (3, .int (l3 + 1))] [] h Q)) ∧ ((h 45 ((4 * (h 46 l3.toInt.toNat)) + (h 46 ((l3 + 1) - (l3 + 1) / a * a).toInt.toNat)).toInt.toNat).toInt < l2.toInt → (qm_PA X 199 5 [(0, .ref 39), (1, .int a), (2, .int (h 45 ((4 * (h 46 l3.toInt.toNat)) + (h 46 ((l3 + 1) - (l3 + 1) / a * a).toInt.toNat)).toInt.toNat)), (3, .int (l3 + 1))] [] h Q))))))))
    refine ⟨fun c => hq l2 ⟨fun i hi => hm i (by omega), hl.elim (fun q => absurd q.1 (by omega)) (fun q => Exists.elim q (fun i z => ⟨i, by have := z.1; omega, z.2⟩))⟩, fun cc => ?_⟩
    have e1 := ti_addK l3 (1 : Int32) 1 rfl (by omega)
    obtain ⟨⟨r1, r2⟩, r3⟩ := rg_at (i := l3) (m := a) hg hn h2 h4 h3.1 (by omega)
    refine ⟨by omega, fun e => by rw [e] at hn; have : (0 : Int32).toInt = 0 := rfl; omega, r1, r2, ?_⟩
    rw [r3]
    have o1 := ho (pz n c l3.toInt.toNat) (pz_lt _ _ _)
    refine ⟨fun q => ih l2 (l3 + 1) ⟨by omega, ?_, fun i hi => ?_⟩ (by omega), fun q => ih _ (l3 + 1) ⟨by omega, Or.inr ⟨l3.toInt.toNat, by omega, rfl⟩, fun i hi => ?_⟩ (by omega)⟩
    · obtain z | ⟨i, z1, z2⟩ := hl
      · exfalso; omega
      · exact Or.inr ⟨i, by omega, z2⟩
    · by_cases hi2 : (i : Int) < l3.toInt
      · exact hm i hi2
      · have ei : i = l3.toInt.toNat := by omega
        rw [ei]; exact q
    · by_cases hi2 : (i : Int) < l3.toInt
      · have := hm i hi2; omega
      · have ei : i = l3.toInt.toNat := by omega
        rw [ei]; exact Int.le_refl _
set_option maxRecDepth 100000 in
set_option maxHeartbeats 4000000 in
theorem sr_199 (X : qm_X) (h : qm_H) (a : Int32) (n c : Nat) (hn : a.toInt = n) (h2 : 2 ≤ n) (h4 : n ≤ 4) (hg : rg (h 46) n c) (ho : owb (h 45) 100) (Q : qm_Q) (hq : ∀ (r : Int32), ((∀ i : Nat, i < n → r.toInt ≤ (h 45 (pz n c i)).toInt) ∧ ∃ i : Nat, i < n ∧ r.toInt = (h 45 (pz n c i)).toInt) → Q (some (.int r)) h) : qm_PW X 199 [.ref 39, .int a] h Q := by
  refine qm_seg_ok (C := qc_199) (rt := some .int) rfl rfl (cuts := [(5, [0, 1, 2, 3])]) 400 _ _ _ _ ?_
  show qm_PA X 199 5 [(0, .ref 39), (1, .int a), (2, .int 1000000), (3, .int 0)] [] h Q
  refine sr_199_c X h a n c hn h2 h4 hg ho Q hq _ 1000000 0 ⟨⟨by decide, by show (0 : Int) ≤ n; omega⟩, Or.inl ⟨rfl, rfl⟩, fun i hi => absurd hi (by have : (0 : Int32).toInt = 0 := rfl; omega)⟩ (Nat.lt_succ_self _)
/-! the best ring -/
noncomputable def cJ (S : Nat → Int) (h g : qm_H) : Prop := mi g ∧ rw_ g ∧ (∀ j : Nat, j < 16 → (g 45 j).toInt = S j) ∧ (∀ k, k ≠ 39 → k ≠ 46 → g k = h k) ∧ (∀ j, j ≠ 18 → j ≠ 19 → j ≠ 20 → g 39 j = h 39 j)
noncomputable def cF (S : Nat → Int) (g : qm_H) (k : Nat) : Prop := (g 39 18).toInt = (bgT S k).2 ∧ (0 < (bgT S k).2 → okT (g 39 19).toInt.toNat (g 39 20).toInt.toNat (bgT S k).1 = true)
theorem cJ_46 {S : Nat → Int} {h g g1 : qm_H} (hi : cJ S h g) (hw : rw_ g1) (hf : ∀ k, k ≠ 46 → g1 k = g k) : cJ S h g1 := by
  obtain ⟨h1, h2, h3, h5, h6⟩ := hi
  refine ⟨?_, hw, ?_, fun k k1 k2 => (hf k k2).trans (h5 k k1 k2), fun j j1 j2 j3 => ?_⟩
  · unfold mi; rw [hf 39 (by decide)]; exact h1
  · rw [hf 45 (by decide)]; exact h3
  · rw [hf 39 (by decide)]; exact h6 j j1 j2 j3
theorem cF_46 {S : Nat → Int} {g g1 : qm_H} {k : Nat} (hi : cF S g k) (hf : ∀ k, k ≠ 46 → g1 k = g k) : cF S g1 k := by
  unfold cF
  rw [hf 39 (by decide)]
  exact hi
theorem cs_same {g : qm_H} : qm_row (qm_row (qm_row g 39 (upd (g 39) 19 (g 39 19))) 39 (upd (upd (g 39) 19 (g 39 19)) 20 (g 39 20))) 39 (upd (upd (upd (g 39) 19 (g 39 19)) 20 (g 39 20)) 18 (g 39 18)) = g := by
  funext k
  simp only [qm_row]
  split
  · rename_i hk
    subst hk
    funext j
    unfold upd
    split
    · rename_i e; rw [e]
    · split
      · rename_i e; rw [e]
      · split
        · rename_i e; rw [e]
        · rfl
  · rfl
theorem cJ_new {S : Nat → Int} {h g : qm_H} (hi : cJ S h g) {l1 l2 l3 : Int32} (h1 : 2 ≤ l1.toInt ∧ l1.toInt ≤ 4) (h2 : 0 ≤ l2.toInt ∧ l2.toInt ≤ 255) : cJ S h (qm_row (qm_row (qm_row g 39 (upd (g 39) 19 l1)) 39 (upd (upd (g 39) 19 l1) 20 l2)) 39 (upd (upd (upd (g 39) 19 l1) 20 l2) 18 l3)) := by
  obtain ⟨a1, a2, a3, a5, a6⟩ := hi
  refine ⟨⟨a1.1, a1.2.1, ?_, ?_, a1.2.2.2.2⟩, a2, a3, fun k k1 k2 => ?_, fun j j1 j2 j3 => ?_⟩
  · show 0 ≤ l1.toInt ∧ l1.toInt ≤ 4; omega
  · exact h2
  · simp only [qm_row]
    rw [if_neg k1, if_neg k1, if_neg k1]
    exact a5 k k1 k2
  · show upd (upd (upd (g 39) 19 l1) 20 l2) 18 l3 j = h 39 j
    unfold upd
    rw [if_neg j1, if_neg j3, if_neg j2]
    exact a6 j j1 j2 j3
theorem p4_at {n : Nat} (h : 2 ≤ n ∧ n ≤ 4) : (n = 2 ∧ 4 ^ n = 16) ∨ (n = 3 ∧ 4 ^ n = 64) ∨ (n = 4 ∧ 4 ^ n = 256) := by
  have hn : n = 2 ∨ n = 3 ∨ n = 4 := by omega
  rcases hn with e | e | e
  · subst e; exact Or.inl ⟨rfl, rfl⟩
  · subst e; exact Or.inr (Or.inl ⟨rfl, rfl⟩)
  · subst e; exact Or.inr (Or.inr ⟨rfl, rfl⟩)
/-- what a code's round knows -/
noncomputable def cC (S : Nat → Int) (g : qm_H) (n c : Nat) (x : Int) : Prop := ∃ f k k2 : Nat, f + (c + 1) = 4 ^ n ∧ cF S g k ∧ chT n (stT (n + 1)) f (c + 1) k2 = true ∧ ((k2 = k ∧ x = 0) ∨ (k2 = k + 1 ∧ okT n c k = true ∧ ((x = gnT S k) ∨ (x = 0 ∧ gnT S k = 0))))
noncomputable def cB (S : Nat → Int) (g : qm_H) (n c : Nat) : Prop := ∃ f k : Nat, f + c = 4 ^ n ∧ cF S g k ∧ chT n (stT (n + 1)) f c k = true
theorem cB_end {S : Nat → Int} {g : qm_H} {n c : Nat} (h : cB S g n c) (hc : 4 ^ n ≤ c) : cF S g (stT (n + 1)) := by
  obtain ⟨f, k, a, b, d⟩ := h
  have e : f = 0 := by omega
  subst e
  have q : k = stT (n + 1) := of_decide_eq_true d
  rw [← q]; exact b
theorem cB_0 {S : Nat → Int} {g : qm_H} {n : Nat} (hn : 2 ≤ n ∧ n ≤ 4) (h : cF S g (stT n)) : cB S g n 0 := ⟨4 ^ n, stT n, rfl, h, ch_at hn⟩
theorem cC_of {S : Nat → Int} {cl : Int} {g g1 : qm_H} {n c : Nat} {x : Int} (o : okS S) (z : zrS S cl) (h : cB S g n c) (hc : c < 4 ^ n) (hf : ∀ k, k ≠ 46 → g1 k = g k) (hx : (vR cl n c n ∧ ∃ y : Int, x = y * ((n : Nat) : Int) ∧ (∀ i : Nat, i < n → y ≤ S (pz n c i)) ∧ ∃ i : Nat, i < n ∧ y = S (pz n c i)) ∨ (¬ vR cl n c n ∧ x = 0)) : cC S g1 n c x := by
  obtain ⟨f, k, a, b, d⟩ := h
  obtain ⟨f, rfl⟩ : ∃ f2, f = f2 + 1 := ⟨f - 1, by omega⟩
  obtain ⟨k2, e1, e2⟩ := ch_step o z d hx
  exact ⟨f, k, k2, by omega, cF_46 b hf, e1, e2⟩
theorem cC_no {S : Nat → Int} {g : qm_H} {n c : Nat} {x : Int} (h : cC S g n c x) (hx : x ≤ (g 39 18).toInt) : cB S g n (c + 1) := by
  obtain ⟨f, k, k2, a, b, d, e⟩ := h
  refine ⟨f, k2, a, ?_, d⟩
  obtain ⟨e1, _⟩ | ⟨e1, e2, e3⟩ := e
  · rw [e1]; exact b
  · have w := bgT_nn (S := S) k
    have q : bgT S (k + 1) = bgT S k := bgT_n (by have := b.1; omega)
    rw [e1]
    unfold cF
    rw [q]; exact b
theorem cC_yes {S : Nat → Int} {g g1 : qm_H} {n c : Nat} {x : Int} (h : cC S g n c x) (hx : (g 39 18).toInt < x) (h1 : (g1 39 18).toInt = x) (h2 : (g1 39 19).toInt.toNat = n) (h3 : (g1 39 20).toInt.toNat = c) : cB S g1 n (c + 1) := by
  obtain ⟨f, k, k2, a, b, d, e⟩ := h
  refine ⟨f, k2, a, ?_, d⟩
  obtain ⟨e1, e4⟩ | ⟨e1, e2, e3⟩ := e
  · have w := b.1
    have v := bgT_nn (S := S) k
    exfalso; omega
  · have w := bgT_nn (S := S) k
    have y := b.1
    have q : bgT S (k + 1) = (k, gnT S k) := bgT_y (by omega)
    rw [e1]
    unfold cF
    rw [q, h2, h3]
    exact ⟨by show (g1 39 18).toInt = gnT S k; omega, fun _ => e2⟩
set_option maxRecDepth 100000 in
set_option maxHeartbeats 4000000 in
theorem sr_201_c (X : qm_X) (h : qm_H) (S : Nat → Int) (o : okS S) (z : zrS S (h 39 3).toInt) (Q : qm_Q) (hq : ∀ (r : Int32) (h' : qm_H), (cJ S h h' ∧ cF S h' 20 ∧ (r = 0 ∨ r = 1) ∧ (¬ r = 0 → 0 < (bgT S 20).2) ∧ (r = 0 → ¬ 0 < (bgT S 20).2)) → Q (some (.int r)) h') : ∀ n : Nat, (∀ (l1 : Int32) (g : qm_H), ((2 ≤ l1.toInt ∧ l1.toInt ≤ 5) ∧ cJ S h g ∧ cF S g (stT l1.toInt.toNat)) → ((5 - l1.toInt) * 10000 + 9000).toNat < n → qm_PA X 201 12 [(0, .ref 39), (1, .int l1)] [] g Q) ∧ (∀ (l1 l2 : Int32) (g : qm_H), ((2 ≤ l1.toInt ∧ l1.toInt ≤ 4) ∧ (0 ≤ l2.toInt ∧ l2.toInt ≤ 256) ∧ cJ S h g ∧ cB S g l1.toInt.toNat l2.toInt.toNat) → ((5 - l1.toInt) * 10000 + (256 - l2.toInt) * 10 + 5).toNat < n → qm_PA X 201 19 [(0, .ref 39), (1, .int l1), (2, .int l2)] [] g Q) ∧ (∀ (l1 l2 l3 : Int32) (g : qm_H), ((2 ≤ l1.toInt ∧ l1.toInt ≤ 4) ∧ (0 ≤ l2.toInt ∧ l2.toInt ≤ 255) ∧ cC S g l1.toInt.toNat l2.toInt.toNat l3.toInt ∧ cJ S h g) → ((5 - l1.toInt) * 10000 + (256 - l2.toInt) * 10 + 4).toNat < n → qm_PA X 201 49 [(0, .ref 39), (1, .int l1), (2, .int l2), (3, .int l3)] [] g Q) := by
  intro n
  induction n with
  | zero => exact ⟨fun _ _ _ h0 => absurd h0 (Nat.not_lt_zero _), fun _ _ _ _ h0 => absurd h0 (Nat.not_lt_zero _), fun _ _ _ _ _ h0 => absurd h0 (Nat.not_lt_zero _)⟩
  | succ n ih =>
    refine ⟨?_, ?_, ?_⟩
    · intro l1 g ⟨h1, hi, hF⟩ hr
      refine qm_seg_ok (C := qc_201) (rt := some .boolean) rfl rfl (cuts := [(12, [0, 1]), (19, [0, 1, 2]), (49, [0, 1, 2, 3])]) 400 _ _ _ _ ?_
      show (4 < l1.toInt → (((g 39 18).toInt ≤ 0 → (((0 : Int32) = 0 ∨ (0 : Int32) = 1) ∧ Q (some (.int 0)) g)) ∧ (0 < (g 39 18).toInt → (((1 : Int32) = 0 ∨ (1 : Int32) = 1) ∧ Q (some (.int 1)) g)))) ∧ (l1.toInt ≤ 4 → (qm_PA X 201 19 [(0, .ref 39), (1, .int l1), (2, .int 0)] [] g Q))
      have eF : 4 < l1.toInt → cF S g 20 := fun q => by
        rw [show l1.toInt.toNat = 5 by omega, show stT 5 = 20 by decide] at hF
        exact hF
      refine ⟨fun q => ⟨fun c => ⟨Or.inl rfl, hq 0 g ⟨hi, eF q, Or.inl rfl, fun hc => absurd rfl hc, fun _ => by have := (eF q).1; omega⟩⟩, fun c => ⟨Or.inr rfl, hq 1 g ⟨hi, eF q, Or.inr rfl, fun _ => by have := (eF q).1; omega, fun hc => absurd hc (by decide)⟩⟩⟩, fun c => ih.2.1 l1 0 g ⟨⟨h1.1, c⟩, by decide, hi, by rw [show (0 : Int32).toInt.toNat = 0 from rfl]; exact cB_0 (by omega) hF⟩ ?_⟩
      have : (0 : Int32).toInt = 0 := rfl
      omega
    · intro l1 l2 g ⟨h1, h2, hi, hB⟩ hr
      refine qm_seg_ok (C := qc_201) (rt := some .boolean) rfl rfl (cuts := [(12, [0, 1]), (19, [0, 1, 2]), (49, [0, 1, 2, 3])]) 400 _ _ _ _ ?_
      show qm_PW X 200 [.int 4, .int l1] g _
      refine ty_200 X g 4 l1 ⟨rfl, by omega⟩ _ (fun r pr0 => ?_)
      show (r.toInt ≤ l2.toInt → (qm_PA X 201 12 [(0, .ref 39), (1, .int (l1 + 1))] [] g Q)) ∧ (l2.toInt < r.toInt → (qm_PW X 198 [.ref 39, .int l2, .int l1] g _))
      have e1 := ti_addK l1 (1 : Int32) 1 rfl (by omega)
      have n1 : (l1 + 1).toInt.toNat = l1.toInt.toNat + 1 := by omega
      have p4 := p4_at (n := l1.toInt.toNat) (by omega)
      refine ⟨fun c => ih.1 (l1 + 1) g ⟨by omega, hi, by rw [n1]; exact cB_end hB (by omega)⟩ (by omega), fun c => ?_⟩
      refine sr_198 X g l2 l1 ⟨hi.2.1, h2.1, h1⟩ _ (fun r1 g1 p1 => ?_)
      obtain ⟨w1, w2, w3, w4, w5, w6⟩ := p1
      have hi1 := cJ_46 hi w1 w2
      have e3 : g1 39 3 = h 39 3 := hi1.2.2.2.2 3 (by decide) (by decide) (by decide)
      rw [e3] at w5 w6
      show (r1 = 0 → (qm_PA X 201 49 [(0, .ref 39), (1, .int l1), (2, .int l2), (3, .int 0)] [] g1 Q)) ∧ (¬ r1 = 0 → (qm_PW X 199 [.ref 39, .int l1] g1 _))
      refine ⟨fun c1 => ih.2.2 l1 l2 0 g1 ⟨h1, by omega, cC_of o z hB (by omega) w2 (Or.inr ⟨w6 c1, rfl⟩), hi1⟩ (by omega), fun c1 => ?_⟩
      have ob : owb (g1 45) 100 := fun j hj => by
        have := o j hj
        have := hi1.2.2.1 j hj
        omega
      refine sr_199 X g1 l1 l1.toInt.toNat l2.toInt.toNat (by omega) (by omega) (by omega) w3 ob _ (fun r2 p2 => ?_)
      show qm_PA X 201 49 [(0, .ref 39), (1, .int l1), (2, .int l2), (3, .int (l1 * r2))] [] g1 Q
      obtain ⟨q1, i, q2, q3⟩ := p2
      have ei := hi1.2.2.1 _ (pz_lt l1.toInt.toNat l2.toInt.toNat i)
      have oi := o _ (pz_lt l1.toInt.toNat l2.toInt.toNat i)
      refine ih.2.2 l1 l2 (l1 * r2) g1 ⟨h1, by omega, cC_of o z hB (by omega) w2 (Or.inl ⟨w5 c1, r2.toInt, ?_, fun j hj => ?_, i, q2, q3.trans ei⟩), hi1⟩ (by omega)
      · have hn : l1.toInt = 2 ∨ l1.toInt = 3 ∨ l1.toInt = 4 := by omega
        rcases hn with e | e | e
        · rw [ti_mulL l1 2 e r2 (by omega), e]; exact Int.mul_comm _ _
        · rw [ti_mulL l1 3 e r2 (by omega), e]; exact Int.mul_comm _ _
        · rw [ti_mulL l1 4 e r2 (by omega), e]; exact Int.mul_comm _ _
      · rw [← hi1.2.2.1 _ (pz_lt l1.toInt.toNat l2.toInt.toNat j)]
        exact q1 j hj
    · intro l1 l2 l3 g ⟨h1, h2, hC, hi⟩ hr
      refine qm_seg_ok (C := qc_201) (rt := some .boolean) rfl rfl (cuts := [(12, [0, 1]), (19, [0, 1, 2]), (49, [0, 1, 2, 3])]) 400 _ _ _ _ ?_
      show (l3.toInt ≤ (g 39 18).toInt → ((l3.toInt ≤ (g 39 18).toInt → ((l3.toInt ≤ (g 39 18).toInt → (qm_PA X 201 19 [(0, .ref 39), (1, .int l1), (2, .int (l2 + 1))] [] (qm_row (qm_row (qm_row g 39 (upd (g 39) 19 (g 39 19))) 39 (upd (upd (g 39) 19 (g 39 19)) 20 (g 39 20))) 39 (upd (upd (upd (g 39) 19 (g 39 19)) 20 (g 39 20)) 18 (g 39 18))) Q)) ∧ ((g 39 18).toInt < l3.toInt → (qm_PA X 201 19 [(0, .ref 39), (1, .int l1), (2, .int (l2 + 1))] [] (qm_row (qm_row (qm_row g 39 (upd (g 39) 19 (g 39 19))) 39 (upd (upd (g 39) 19 (g 39 19)) 20 (g 39 20))) 39 (upd (upd (upd (g 39) 19 (g 39 19)) 20 (g 39 20)) 18 l3)) Q)))) ∧ ((g 39 18).toInt < l3.toInt → ((l3.toInt ≤ (g 39 18).toInt → (qm_PA X 201 19 [(0, .ref 39), (1, .int l1), (2, .int (l2 + 1))] [] (qm_row (qm_row (qm_row g 39 (upd (g 39) 19 (g 39 19))) 39 (upd (upd (g 39) 19 (g 39 19)) 20 l2)) 39 (upd (upd (upd (g 39) 19 (g 39 19)) 20 l2) 18 (g 39 18))) Q)) ∧ ((g 39 18).toInt < l3.toInt → (qm_PA X 201 19 [(0, .ref 39), (1, .int l1), (2, .int (l2 + 1))] [] (qm_row (qm_row (qm_row g 39 (upd (g 39) 19 (g 39 19))) 39 (upd (upd (g 39) 19 (g 39 19)) 20 l2)) 39 (upd (upd (upd (g 39) 19 (g 39 19)) 20 l2) 18 l3)) Q)))))) ∧ ((g 39 18).toInt < l3.toInt → ((l3.toInt ≤ (g 39 18).toInt → ((l3.toInt ≤ (g 39 18).toInt → (qm_PA X 201 19 [(0, .ref 39), (1, .int l1), (2, .int (l2 + 1))] [] (qm_row (qm_row (qm_row g 39 (upd (g 39) 19 l1)) 39 (upd (upd (g 39) 19 l1) 20 (g 39 20))) 39 (upd (upd (upd (g 39) 19 l1) 20 (g 39 20)) 18 (g 39 18))) Q)) ∧ ((g 39 18).toInt < l3.toInt → (qm_PA X 201 19 [(0, .ref 39), (1, .int l1), (2, .int (l2 + 1))] [] (qm_row (qm_row (qm_row g 39 (upd (g 39) 19 l1)) 39 (upd (upd (g 39) 19 l1) 20 (g 39 20))) 39 (upd (upd (upd (g 39) 19 l1) 20 (g 39 20)) 18 l3)) Q)))) ∧ ((g 39 18).toInt < l3.toInt → ((l3.toInt ≤ (g 39 18).toInt → (qm_PA X 201 19 [(0, .ref 39), (1, .int l1), (2, .int (l2 + 1))] [] (qm_row (qm_row (qm_row g 39 (upd (g 39) 19 l1)) 39 (upd (upd (g 39) 19 l1) 20 l2)) 39 (upd (upd (upd (g 39) 19 l1) 20 l2) 18 (g 39 18))) Q)) ∧ ((g 39 18).toInt < l3.toInt → (qm_PA X 201 19 [(0, .ref 39), (1, .int l1), (2, .int (l2 + 1))] [] (qm_row (qm_row (qm_row g 39 (upd (g 39) 19 l1)) 39 (upd (upd (g 39) 19 l1) 20 l2)) 39 (upd (upd (upd (g 39) 19 l1) 20 l2) 18 l3)) Q))))))
      have e2 := ti_addK l2 (1 : Int32) 1 rfl (by omega)
      have n2 : (l2 + 1).toInt.toNat = l2.toInt.toNat + 1 := by omega
      have nl : ∀ {P : Prop}, l3.toInt ≤ (g 39 18).toInt → (g 39 18).toInt < l3.toInt → P := fun a b => absurd a (by omega)
      refine ⟨fun c => ⟨fun _ => ⟨fun _ => ?_, fun c' => nl c c'⟩, fun c' => nl c c'⟩, fun c => ⟨fun c' => nl c' c, fun _ => ⟨fun c' => nl c' c, fun _ => ih.2.1 l1 (l2 + 1) _ ⟨h1, by omega, cJ_new hi h1 h2, by rw [n2]; exact cC_yes hC c rfl rfl rfl⟩ (by omega)⟩⟩⟩
      rw [cs_same]
      exact ih.2.1 l1 (l2 + 1) g ⟨h1, by omega, hi, by rw [n2]; exact cC_no hC c⟩ (by omega)
set_option maxRecDepth 100000 in
set_option maxHeartbeats 4000000 in
theorem sr_201 (X : qm_X) (h : qm_H) (S : Nat → Int) (o : okS S) (z : zrS S (h 39 3).toInt) (hp : mi h ∧ rw_ h ∧ ∀ j : Nat, j < 16 → (h 45 j).toInt = S j) (Q : qm_Q) (hq : ∀ (r : Int32) (h' : qm_H), (cJ S h h' ∧ cF S h' 20 ∧ (r = 0 ∨ r = 1) ∧ (¬ r = 0 → 0 < (bgT S 20).2) ∧ (r = 0 → ¬ 0 < (bgT S 20).2)) → Q (some (.int r)) h') : qm_PW X 201 [.ref 39] h Q := by
  refine qm_seg_ok (C := qc_201) (rt := some .boolean) rfl rfl (cuts := [(12, [0, 1]), (19, [0, 1, 2]), (49, [0, 1, 2, 3])]) 400 _ _ _ _ ?_
  show qm_PA X 201 12 [(0, .ref 39), (1, .int 2)] [] (qm_row (qm_row h 39 (upd (h 39) 18 0)) 39 (upd (upd (h 39) 18 0) 19 0)) Q
  refine (sr_201_c X h S o z Q hq _).1 2 _ ⟨by decide, ⟨⟨hp.1.1, hp.1.2.1, by show 0 ≤ (0 : Int32).toInt ∧ (0 : Int32).toInt ≤ 4; decide, hp.1.2.2.2.1, hp.1.2.2.2.2⟩, hp.2.1, hp.2.2, fun k k1 k2 => ?_, fun j j1 j2 j3 => ?_⟩, by rw [show stT (2 : Int32).toInt.toNat = 0 by decide]; exact ⟨rfl, fun w => absurd w (by show ¬ (0 : Int) < 0; decide)⟩⟩ (Nat.lt_succ_self _)
  · simp only [qm_row]
    rw [if_neg k1, if_neg k1]
  · show upd (upd (h 39) 18 0) 19 0 j = h 39 j
    unfold upd
    rw [if_neg j2, if_neg j1]
/-! all rings -/
noncomputable def cK (S : Nat → Int) (h g : qm_H) : Prop := mi g ∧ sm g ∧ zs g ∧ rw_ g ∧ (∀ j : Nat, j < 16 → (g 45 j).toInt = S j) ∧ (∀ k, (k < 39 ∨ 46 < k ∨ k = 40 ∨ k = 42 ∨ k = 43 ∨ k = 44) → g k = h k) ∧ ((g 39 9).toInt = (h 39 9).toInt ∧ (g 39 14).toInt = (h 39 14).toInt ∧ g 39 3 = h 39 3)
set_option maxRecDepth 100000 in
set_option maxHeartbeats 4000000 in
theorem sr_204_c (X : qm_X) (h : qm_H) (R : Int × (Nat → Int)) (Q : qm_Q) (hq : ∀ (r : Int32) (h' : qm_H), (cK R.2 h h' ∧ r.toInt = R.1) → Q (some (.int r)) h') : ∀ n : Nat, (∀ (l1 : Int32) (g : qm_H) (S : Nat → Int) (f : Nat), (cK S h g ∧ okS S ∧ zrS S (h 39 3).toInt ∧ psT S 16 ≤ f ∧ (0 ≤ l1.toInt ∧ l1.toInt + (f : Int) ≤ 12) ∧ R.1 = (rnT f S).1 + l1.toInt ∧ R.2 = (rnT f S).2) → f * 100 + 50 < n → qm_PA X 204 6 [(0, .ref 39), (1, .int l1)] [] g Q) ∧ (∀ (l1 l2 l3 : Int32) (g : qm_H) (S : Nat → Int) (f m c k : Nat), (cK (tkT S k (lsT S k) l3.toInt.toNat) h g ∧ (okS S ∧ zrS S (h 39 3).toInt ∧ psT (tkA S) 16 ≤ f ∧ (0 ≤ l1.toInt ∧ l1.toInt + 1 + (f : Int) ≤ 12) ∧ R.1 = (rnT f (tkA S)).1 + (l1.toInt + 1) ∧ R.2 = (rnT f (tkA S)).2) ∧ (k = (bgT S 20).1 ∧ k < 20 ∧ okT m c k = true) ∧ (g 39 19).toInt = m ∧ (2 ≤ m ∧ m ≤ 4) ∧ rg (g 46) m c ∧ l2.toInt = lsT S k ∧ (0 ≤ l3.toInt ∧ l3.toInt ≤ m)) → f * 100 + 60 + (40 - 10 * l3.toInt).toNat < n → qm_PA X 204 38 [(0, .ref 39), (1, .int l1), (2, .int l2), (3, .int l3)] [] g Q) := by
  intro n
  induction n with
  | zero => exact ⟨fun _ _ _ _ _ h0 => absurd h0 (Nat.not_lt_zero _), fun _ _ _ _ _ _ _ _ _ _ h0 => absurd h0 (Nat.not_lt_zero _)⟩
  | succ n ih =>
    refine ⟨?_, ?_⟩
    · intro l1 g S f ⟨hi, o, z, hps, hl, hR1, hR2⟩ hr
      refine qm_seg_ok (C := qc_204) (rt := some .int) rfl rfl (cuts := [(6, [0, 1]), (38, [0, 1, 2, 3])]) 400 _ _ _ _ ?_
      show qm_PW X 201 [.ref 39] g _
      refine sr_201 X g S o (by rw [hi.2.2.2.2.2.2.2.2]; exact z) ⟨hi.1, hi.2.2.2.1, hi.2.2.2.2.1⟩ _ (fun r g1 p1 => ?_)
      obtain ⟨⟨a1, a2, a3, a5, a6⟩, aF, -, b2, b3⟩ := p1
      have s1 : sm g1 := by unfold sm; rw [a5 40 (by decide) (by decide)]; exact hi.2.1
      have z1 : zs g1 := by unfold zs; rw [a5 49 (by decide) (by decide)]; exact hi.2.2.1
      have f1 : ∀ k, (k < 39 ∨ 46 < k ∨ k = 40 ∨ k = 42 ∨ k = 43 ∨ k = 44) → g1 k = h k := fun k hk => (a5 k (by omega) (by omega)).trans (hi.2.2.2.2.2.1 k hk)
      have t1 : (g1 39 9).toInt = (h 39 9).toInt ∧ (g1 39 14).toInt = (h 39 14).toInt ∧ g1 39 3 = h 39 3 := ⟨by rw [a6 9 (by decide) (by decide) (by decide)]; exact hi.2.2.2.2.2.2.1, by rw [a6 14 (by decide) (by decide) (by decide)]; exact hi.2.2.2.2.2.2.2.1, by rw [a6 3 (by decide) (by decide) (by decide)]; exact hi.2.2.2.2.2.2.2.2⟩
      show (r = 0 → (Q (some (.int l1)) g1)) ∧ (¬ r = 0 → (qm_PW X 198 [.ref 39, .int (g1 39 20), .int (g1 39 19)] g1 _))
      refine ⟨fun cr => ?_, fun cr => ?_⟩
      · have e := rnT_n (b3 cr) f
        rw [e] at hR1 hR2
        exact hq l1 g1 ⟨⟨a1, s1, z1, a2, by rw [hR2]; exact a3, f1, t1⟩, by rw [hR1]; show l1.toInt = 0 + l1.toInt; omega⟩
      have hb := b2 cr
      have w := bgT_rg o 20 (Nat.le_refl _)
      have ok := aF.2 hb
      have okp := okT_p ok
      have okz := okp.1.2
      have szr := szT_r okp.1.1
      have m1 := a1.2.2.1
      have m2 := a1.2.2.2.1
      refine sr_198 X g1 (g1 39 20) (g1 39 19) ⟨a2, by omega, by omega⟩ _ (fun r1 g2 p2 => ?_)
      obtain ⟨w1, w2, w3, -, -, -⟩ := p2
      show ¬ (g2 39 19) = 0 ∧ (qm_PA X 204 38 [(0, .ref 39), (1, .int l1), (2, .int ((g2 39 18) / (g2 39 19))), (3, .int 0)] [] g2 Q)
      rw [w2 39 (by decide)]
      refine ⟨fun e => by have x := congrArg Int32.toInt e; have : (0 : Int32).toInt = 0 := rfl; omega, ?_⟩
      have g18 : (g1 39 18).toInt = lsT S (bgT S 20).1 * ((szT (bgT S 20).1 : Nat) : Int) := aF.1.trans (w.2 hb)
      have ev : ((g1 39 18) / (g1 39 19)).toInt = lsT S (bgT S 20).1 := by
        rw [ti_div (g1 39 19) ((szT (bgT S 20).1 : Nat) : Int) (by omega) (g1 39 18) (by omega) (by have := w.1.2.1; have := aF.1; omega), g18]
        exact Int.mul_ediv_cancel _ (by omega)
      have z0 : (0 : Int32).toInt = 0 := rfl
      have pst := ps_tk o hb
      obtain ⟨f2, rfl⟩ : ∃ f2, f = f2 + 1 := ⟨f - 1, by omega⟩
      have e := rnT_y (f := f2) hb
      rw [e] at hR1 hR2
      refine ih.2 l1 ((g1 39 18) / (g1 39 19)) 0 g2 S f2 (g1 39 19).toInt.toNat (g1 39 20).toInt.toNat (bgT S 20).1 ⟨⟨?_, ?_, ?_, w1, ?_, fun k hk => (w2 k (by omega)).trans (f1 k hk), by rw [w2 39 (by decide)]; exact t1⟩, ⟨o, z, by omega, by omega, ?_, hR2⟩, ⟨rfl, w.1.1, ok⟩, by rw [w2 39 (by decide)]; omega, by omega, w3, ev, by omega⟩ ?_
      · unfold mi; rw [w2 39 (by decide)]; exact a1
      · unfold sm; rw [w2 40 (by decide)]; exact s1
      · unfold zs; rw [w2 49 (by decide)]; exact z1
      · rw [w2 45 (by decide), show (0 : Int32).toInt.toNat = 0 from rfl]; exact a3
      · rw [hR1]
        show (rnT f2 (tkA S)).1 + 1 + l1.toInt = (rnT f2 (tkA S)).1 + (l1.toInt + 1)
        omega
      · omega
    · intro l1 l2 l3 g S f m c k ⟨hi, ⟨o, z, hps, hl, hR1, hR2⟩, ⟨hk, hk2, ok⟩, h19, hm, hg, h2, h3⟩ hr
      have okp := okT_p ok
      have okz := okp.1.2
      have lr := lsT_rg hk2 o
      refine qm_seg_ok (C := qc_204) (rt := some .int) rfl rfl (cuts := [(6, [0, 1]), (38, [0, 1, 2, 3])]) 400 _ _ _ _ ?_
      show ((g 39 19).toInt ≤ l3.toInt → (qm_PA X 204 6 [(0, .ref 39), (1, .int (l1 + 1))] [] g Q)) ∧ (l3.toInt < (g 39 19).toInt → ((0 ≤ l3.toInt ∧ l3.toInt < 4) ∧ (¬ (g 39 19) = 0 ∧ ((0 ≤ ((l3 + 1) - (l3 + 1) / (g 39 19) * (g 39 19)).toInt ∧ ((l3 + 1) - (l3 + 1) / (g 39 19) * (g 39 19)).toInt < 4) ∧ ((0 ≤ ((4 * (g 46 l3.toInt.toNat)) + (g 46 ((l3 + 1) - (l3 + 1) / (g 39 19) * (g 39 19)).toInt.toNat)).toInt ∧ ((4 * (g 46 l3.toInt.toNat)) + (g 46 ((l3 + 1) - (l3 + 1) / (g 39 19) * (g 39 19)).toInt.toNat)).toInt < 16) ∧ ((0 ≤ ((4 * (g 46 l3.toInt.toNat)) + (g 46 ((l3 + 1) - (l3 + 1) / (g 39 19) * (g 39 19)).toInt.toNat)).toInt ∧ ((4 * (g 46 l3.toInt.toNat)) + (g 46 ((l3 + 1) - (l3 + 1) / (g 39 19) * (g 39 19)).toInt.toNat)).toInt < 16) ∧ (qm_PA X 204 38 [(0, .ref 39), (1, .int l1), (2, .int l2), (3, .int (l3 + 1))] [] (qm_row g 45 (upd (g 45) ((4 * (g 46 l3.toInt.toNat)) + (g 46 ((l3 + 1) - (l3 + 1) / (g 39 19) * (g 39 19)).toInt.toNat)).toInt.toNat ((g 45 ((4 * (g 46 l3.toInt.toNat)) + (g 46 ((l3 + 1) - (l3 + 1) / (g 39 19) * (g 39 19)).toInt.toNat)).toInt.toNat) - l2))) Q)))))))
      have f1 := ti_addK l1 (1 : Int32) 1 rfl (by omega)
      refine ⟨fun cc => ih.1 (l1 + 1) g (tkA S) f ⟨?_, tkA_ok o, zrS_tk o z, hps, by omega, by rw [f1]; exact hR1, hR2⟩ (by omega), fun cc => ?_⟩
      · have e : tkT S k (lsT S k) l3.toInt.toNat = tkA S := by
          rw [show l3.toInt.toNat = szT k by omega, hk]; rfl
        rw [e] at hi
        exact hi
      have e1 := ti_addK l3 (1 : Int32) 1 rfl (by omega)
      have n3 : (l3 + 1).toInt.toNat = l3.toInt.toNat + 1 := by omega
      obtain ⟨⟨r1, r2⟩, r3⟩ := rg_at (i := l3) (m := g 39 19) hg h19 hm.1 hm.2 h3.1 (by omega)
      refine ⟨by omega, fun e => by rw [e] at h19; have : (0 : Int32).toInt = 0 := rfl; omega, r1, r2, r2, ?_⟩
      rw [r3, okT_pz ok (i := l3.toInt.toNat) (by omega)]
      have el := edT_lt (i := l3.toInt.toNat) hk2 (by omega)
      have x1 := hi.2.2.2.2.1 _ el
      have x2 := o _ el
      rw [tkT_fresh (n := l3.toInt.toNat) hk2 (by omega)] at x1
      have es := ti_sub (g 45 (edT k l3.toInt.toNat)) l2 (by omega)
      refine ih.2 l1 l2 (l3 + 1) _ S f m c k ⟨⟨hi.1, hi.2.1, hi.2.2.1, hi.2.2.2.1, fun j hj => ?_, fun j hk => ?_, hi.2.2.2.2.2.2⟩, ⟨o, z, hps, hl, hR1, hR2⟩, ⟨hk, hk2, ok⟩, h19, hm, hg, h2, by omega⟩ (by omega)
      · show (upd (g 45) (edT k l3.toInt.toNat) ((g 45 (edT k l3.toInt.toNat)) - l2) j).toInt = tkT S k (lsT S k) (l3 + 1).toInt.toNat j
        rw [n3]
        by_cases q : j = edT k l3.toInt.toNat
        · rw [q, tkT_at, tkT_fresh (n := l3.toInt.toNat) hk2 (by omega)]
          unfold upd
          rw [if_pos rfl, es, x1, h2]
        · rw [tkT_ne q, ← hi.2.2.2.2.1 j hj]
          unfold upd
          rw [if_neg q]
      · simp only [qm_row]
        rw [if_neg (by omega)]
        exact hi.2.2.2.2.2.1 j hk
set_option maxRecDepth 100000 in
set_option maxHeartbeats 4000000 in
theorem ty_204 (X : qm_X) (h : qm_H) (hp : mi h ∧ sm h ∧ zs h ∧ rw_ h ∧ wr h) (Q : qm_Q) (hq : ∀ (r : Int32) (h' : qm_H), (mi h' ∧ sm h' ∧ zs h' ∧ rw_ h' ∧ (h' 39 3 = h 39 3) ∧ (∀ k, (k < 39 ∨ 46 < k ∨ k = 40 ∨ k = 42 ∨ k = 43 ∨ k = 44) → h' k = h k) ∧ (((h' 39 9).toInt = (h 39 9).toInt ∧ (h' 39 14).toInt = (h 39 14).toInt) ∧ r.toInt = (rnT 12 (s0S (fun t => (h 40 (6 + 3 * t))) (fun t => (h 40 (7 + 3 * t))) (fun t => (h 40 (8 + 3 * t))) (h 40 4).toInt.toNat)).1 ∧ ∀ j : Nat, j < 16 → ((h' 45) j).toInt = (rnT 12 (s0S (fun t => (h 40 (6 + 3 * t))) (fun t => (h 40 (7 + 3 * t))) (fun t => (h 40 (8 + 3 * t))) (h 40 4).toInt.toNat)).2 j)) → Q (some (.int r)) h') : qm_PW X 204 [.ref 39] h Q := by
  have hwr : wfM (mR h) := hp.2.2.2.2
  have wp := wf_pr (show wfM (mR h) from hwr)
  have wk := wf_kn (show wfM (mR h) from hwr)
  have nr := (wf_raw (show wfM (mR h) from hwr)).1.2.1
  have o : okS (s0S (fun t => (h 40 (6 + 3 * t))) (fun t => (h 40 (7 + 3 * t))) (fun t => (h 40 (8 + 3 * t))) (h 40 4).toInt.toNat) := s0S_ok (by omega) (fun j q => wk j (by omega))
  have z : zrS (s0S (fun t => (h 40 (6 + 3 * t))) (fun t => (h 40 (7 + 3 * t))) (fun t => (h 40 (8 + 3 * t))) (h 40 4).toInt.toNat) (h 39 3).toInt := s0S_zr wp
  have p12 : psT (s0S (fun t => (h 40 (6 + 3 * t))) (fun t => (h 40 (7 + 3 * t))) (fun t => (h 40 (8 + 3 * t))) (h 40 4).toInt.toNat) 16 ≤ 12 := s0S_12 wp
  refine qm_seg_ok (C := qc_204) (rt := some .int) rfl rfl (cuts := [(6, [0, 1]), (38, [0, 1, 2, 3])]) 400 _ _ _ _ ?_
  show qm_PW X 202 [.ref 39] h _
  refine ty_202 X h ⟨hp.1, hp.2.1, hp.2.2.1, hp.2.2.2.1⟩ _ (fun g p => ?_)
  show qm_PA X 204 6 [(0, .ref 39), (1, .int 0)] [] g Q
  obtain ⟨p1, p2, p3, p4, p5, -, p7⟩ := p
  have w39 : g 39 = h 39 := p5 39 (by omega)
  have z0 : (0 : Int32).toInt = 0 := rfl
  refine (sr_204_c X h (rnT 12 (s0S (fun t => (h 40 (6 + 3 * t))) (fun t => (h 40 (7 + 3 * t))) (fun t => (h 40 (8 + 3 * t))) (h 40 4).toInt.toNat)) Q (fun r h' p => hq r h' ⟨p.1.1, p.1.2.1, p.1.2.2.1, p.1.2.2.2.1, p.1.2.2.2.2.2.2.2.2, p.1.2.2.2.2.2.1, ⟨p.1.2.2.2.2.2.2.1, p.1.2.2.2.2.2.2.2.1⟩, p.2, p.1.2.2.2.2.1⟩) _).1 0 g _ 12 ⟨⟨p1, p2, p3, p4, owI_s0 p7, fun k hk => p5 k (by omega), by rw [w39], by rw [w39], by rw [w39]⟩, o, z, p12, by omega, ?_, rfl⟩ (Nat.lt_succ_self _)
  rw [z0, Int.add_zero]
-- ThreadBankModel.clear(I)I
set_option maxRecDepth 100000 in
set_option maxHeartbeats 4000000 in
theorem ty_205 (X : qm_X) (h : qm_H) (a : Int32) (hp : mi h ∧ sm h ∧ zs h ∧ rw_ h ∧ wr h) (Q : qm_Q) (hq : ∀ r : Int32, ∀ h' : qm_H, (mi h' ∧ sm h' ∧ zs h' ∧ rw_ h' ∧ (h' 39 3 = h 39 3) ∧ (∀ k, (k < 39 ∨ 46 < k ∨ k = 40 ∨ k = 42 ∨ k = 43 ∨ k = 44) → h' k = h k) ∧ (((h' 39 9).toInt = (h 39 9).toInt ∧ (h' 39 14).toInt = (h 39 14).toInt) ∧ r.toInt = qClear a.toInt (mR h))) → Q (some (.int r)) h') : qm_PW X 205 [.ref 39, .int a] h Q := by
  have hmmi : mi h := hp.1
  have ⟨⟨_, _⟩, ⟨_, _⟩, ⟨_, _⟩, ⟨_, _⟩, _, _⟩ := hmmi
  have hmsm : sm h := hp.2.1
  have ⟨⟨⟨_, _⟩, _, _⟩, _, _, _⟩ := hmsm
  have hmzs : zs h := hp.2.2.1
  have hmrw : rw_ h := hp.2.2.2.1
  have hmwr : wr h := hp.2.2.2.2
  have hok : okS (s0S (fun t => h 40 (6 + 3 * t)) (fun t => h 40 (7 + 3 * t)) (fun t => h 40 (8 + 3 * t)) (h 40 4).toInt.toNat) := s0S_ok (by omega) (fun j q => wf_kn (show wfM (mR h) from hmwr) j (by omega))
  refine qm_seg_ok (C := qc_205) (rt := some .int) rfl rfl (cuts := []) 400 _ _ _ _ ?_
  show qm_PW X 168 [.int a] h _
  refine ty_168 X h a trivial _ (fun r1 p2 => ?_)
  have o3 : (r1 = 0 ∨ r1 = 1) ∧ ((r1.toInt = 1 ∧ 0 ≤ a.toInt ∧ a.toInt ≤ 1) ∨ (r1.toInt = 0 ∧ ¬ (0 ≤ a.toInt ∧ a.toInt ≤ 1))) := p2
  clear p2
  show (¬ r1 = 0 → (qm_PW X 204 [.ref 39] h _)) ∧ (r1 = 0 → (Q (some (.int (-1 : Int32))) h))
  refine ⟨fun c4 => ?_, fun c5 => ?_⟩
  · have := ti_neK 0 rfl c4
    refine ty_204 X h  ⟨hmmi, hmsm, hmzs, hmrw, hmwr⟩ _ (fun r6 g7 p8 => ?_)
    obtain ⟨p8_0, p8_1, p8_2, p8_3, p8_4, p8_5, p8_6⟩ := p8
    have k9s : (g7 39 3 = h 39 3) := (p8_4).trans rfl
    have f10 : ∀ k, (k < 39 ∨ 46 < k ∨ k = 40 ∨ k = 42 ∨ k = 43 ∨ k = 44) → g7 k = h k := fun k hk => (p8_5 k (by omega)).trans (rfl)
    have o11 : ((g7 39 9).toInt = (h 39 9).toInt ∧ (g7 39 14).toInt = (h 39 14).toInt) ∧ r6.toInt = (rnT 12 (s0S (fun t => (h 40 (6 + 3 * t))) (fun t => (h 40 (7 + 3 * t))) (fun t => (h 40 (8 + 3 * t))) (h 40 4).toInt.toNat)).1 ∧ ∀ j : Nat, j < 16 → ((g7 45) j).toInt = (rnT 12 (s0S (fun t => (h 40 (6 + 3 * t))) (fun t => (h 40 (7 + 3 * t))) (fun t => (h 40 (8 + 3 * t))) (h 40 4).toInt.toNat)).2 j := p8_6
    clear p8_6
    have owb_g7 : owb (g7 45) 90 := fun j hj => by have a := rnT_ok 12 _ hok j hj; have b := o11.2.2 j hj; omega
    show (¬ a = 0 → (Q (some (.int r6)) g7)) ∧ (a = 0 → (qm_PW X 183 [.ref 39] g7 _))
    refine ⟨fun c12 => ?_, fun c13 => ?_⟩
    · have := ti_neK 0 rfl c12
      exact hq r6 g7 ⟨p8_0, p8_1, p8_2, p8_3, k9s, (fun k hk => f10 k hk), (by show ((g7 39 9).toInt = (h 39 9).toInt ∧ (g7 39 14).toInt = (h 39 14).toInt) ∧ r6.toInt = qClear a.toInt (mR h); exact ⟨o11.1, o11.2.1.trans (show qClear a.toInt (mR h) = _ from clear_1 (by omega)).symm⟩)⟩
    · have := ti_eqK 0 rfl c13
      refine ty_183 X g7  owb_g7 _ (fun r14 p15 => ?_)
      have o16 : r14.toInt = all45 (g7 45) 16 := p15
      clear p15
      show Q (some (.int r14)) g7
      exact hq r14 g7 ⟨p8_0, p8_1, p8_2, p8_3, k9s, (fun k hk => f10 k hk), (by show ((g7 39 9).toInt = (h 39 9).toInt ∧ (g7 39 14).toInt = (h 39 14).toInt) ∧ r14.toInt = qClear a.toInt (mR h); exact ⟨o11.1, o16.trans ((sumI_eq (fun j q => o11.2.2 j q)).trans (show qClear a.toInt (mR h) = _ from clear_0 (by omega)).symm)⟩)⟩
  · have := ti_eqK 0 rfl c5
    exact hq (-1 : Int32) h ⟨hmmi, hmsm, hmzs, hmrw, rfl, (fun k hk => rfl), (by show ((h 39 9).toInt = (h 39 9).toInt ∧ (h 39 14).toInt = (h 39 14).toInt) ∧ (-1 : Int32).toInt = qClear a.toInt (mR h); rw [ti_n1]; exact ⟨⟨rfl, rfl⟩, (show qClear a.toInt (mR h) = _ from clear_no (by omega)).symm⟩)⟩
-- ThreadBankModel.left(I)I
set_option maxRecDepth 100000 in
set_option maxHeartbeats 4000000 in
theorem ty_206 (X : qm_X) (h : qm_H) (a : Int32) (hp : mi h ∧ sm h ∧ zs h ∧ rw_ h ∧ wr h) (Q : qm_Q) (hq : ∀ r : Int32, ∀ h' : qm_H, (mi h' ∧ sm h' ∧ zs h' ∧ rw_ h' ∧ (h' 39 3 = h 39 3) ∧ (∀ k, (k < 39 ∨ 46 < k ∨ k = 40 ∨ k = 42 ∨ k = 43 ∨ k = 44) → h' k = h k) ∧ (((h' 39 9).toInt = (h 39 9).toInt ∧ (h' 39 14).toInt = (h 39 14).toInt) ∧ r.toInt = qLeft a.toInt (mR h))) → Q (some (.int r)) h') : qm_PW X 206 [.ref 39, .int a] h Q := by
  have hmmi : mi h := hp.1
  have ⟨⟨_, _⟩, ⟨_, _⟩, ⟨_, _⟩, ⟨_, _⟩, _, _⟩ := hmmi
  have hmsm : sm h := hp.2.1
  have ⟨⟨⟨_, _⟩, _, _⟩, _, _, _⟩ := hmsm
  have hmzs : zs h := hp.2.2.1
  have hmrw : rw_ h := hp.2.2.2.1
  have hmwr : wr h := hp.2.2.2.2
  have hok : okS (s0S (fun t => h 40 (6 + 3 * t)) (fun t => h 40 (7 + 3 * t)) (fun t => h 40 (8 + 3 * t)) (h 40 4).toInt.toNat) := s0S_ok (by omega) (fun j q => wf_kn (show wfM (mR h) from hmwr) j (by omega))
  refine qm_seg_ok (C := qc_206) (rt := some .int) rfl rfl (cuts := []) 400 _ _ _ _ ?_
  show qm_PW X 166 [.ref 39, .int a] h _
  refine ty_166 X h a hmmi _ (fun r1 p2 => ?_)
  have o3 : (r1 = 0 ∨ r1 = 1) ∧ ((r1.toInt = 1 ∧ 0 ≤ a.toInt ∧ a.toInt / 10 < (h 39 3).toInt ∧ a.toInt % 10 < (h 39 3).toInt ∧ ¬ a.toInt / 10 = a.toInt % 10) ∨ (r1.toInt = 0 ∧ ¬ (0 ≤ a.toInt ∧ a.toInt / 10 < (h 39 3).toInt ∧ a.toInt % 10 < (h 39 3).toInt ∧ ¬ a.toInt / 10 = a.toInt % 10))) := p2
  clear p2
  show (¬ r1 = 0 → (qm_PW X 204 [.ref 39] h _)) ∧ (r1 = 0 → (Q (some (.int (-1 : Int32))) h))
  refine ⟨fun c4 => ?_, fun c5 => ?_⟩
  · have := ti_neK 0 rfl c4
    refine ty_204 X h  ⟨hmmi, hmsm, hmzs, hmrw, hmwr⟩ _ (fun r6 g7 p8 => ?_)
    obtain ⟨p8_0, p8_1, p8_2, p8_3, p8_4, p8_5, p8_6⟩ := p8
    have k9s : (g7 39 3 = h 39 3) := (p8_4).trans rfl
    have f10 : ∀ k, (k < 39 ∨ 46 < k ∨ k = 40 ∨ k = 42 ∨ k = 43 ∨ k = 44) → g7 k = h k := fun k hk => (p8_5 k (by omega)).trans (rfl)
    have o11 : ((g7 39 9).toInt = (h 39 9).toInt ∧ (g7 39 14).toInt = (h 39 14).toInt) ∧ r6.toInt = (rnT 12 (s0S (fun t => (h 40 (6 + 3 * t))) (fun t => (h 40 (7 + 3 * t))) (fun t => (h 40 (8 + 3 * t))) (h 40 4).toInt.toNat)).1 ∧ ∀ j : Nat, j < 16 → ((g7 45) j).toInt = (rnT 12 (s0S (fun t => (h 40 (6 + 3 * t))) (fun t => (h 40 (7 + 3 * t))) (fun t => (h 40 (8 + 3 * t))) (h 40 4).toInt.toNat)).2 j := p8_6
    clear p8_6
    have owb_g7 : owb (g7 45) 90 := fun j hj => by have a := rnT_ok 12 _ hok j hj; have b := o11.2.2 j hj; omega
    show qm_PW X 181 [.ref 39, .int a] g7 _
    refine ty_181 X g7 a (by have ⟨⟨_, _⟩, ⟨_, _⟩, ⟨_, _⟩, ⟨_, _⟩, _, _⟩ := hmmi; have := hmsm.1; have ⟨⟨_, _⟩, ⟨_, _⟩, ⟨_, _⟩, ⟨_, _⟩, _, _⟩ := p8_0; omega) _ (fun r12 p13 => ?_)
    have o14 : r12.toInt = (g7 45 (4 * (a.toInt / 10).toNat + (a.toInt % 10).toNat)).toInt := p13
    clear p13
    show Q (some (.int r12)) g7
    exact hq r12 g7 ⟨p8_0, p8_1, p8_2, p8_3, k9s, (fun k hk => f10 k hk), (by show ((g7 39 9).toInt = (h 39 9).toInt ∧ (g7 39 14).toInt = (h 39 14).toInt) ∧ r12.toInt = qLeft a.toInt (mR h); exact ⟨o11.1, o14.trans ((o11.2.2 _ (by omega)).trans (show qLeft a.toInt (mR h) = _ from left_ok (by omega)).symm)⟩)⟩
  · have := ti_eqK 0 rfl c5
    exact hq (-1 : Int32) h ⟨hmmi, hmsm, hmzs, hmrw, rfl, (fun k hk => rfl), (by show ((h 39 9).toInt = (h 39 9).toInt ∧ (h 39 14).toInt = (h 39 14).toInt) ∧ (-1 : Int32).toInt = qLeft a.toInt (mR h); rw [ti_n1]; exact ⟨⟨rfl, rfl⟩, (show qLeft a.toInt (mR h) = _ from left_no (by omega)).symm⟩)⟩
