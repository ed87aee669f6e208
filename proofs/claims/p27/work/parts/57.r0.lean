/-! ===== rings: the digits of a code, what is owed along them ===== -/
noncomputable def dg (n c i : Nat) : Nat := c / 4 ^ (n - 1 - i) % 4
theorem dg_lt (n c i : Nat) : dg n c i < 4 := Nat.mod_lt _ (by decide)
noncomputable def rg (f : Nat → Int32) (n c : Nat) : Prop := ∀ i : Nat, i < n → (f i).toInt = ((dg n c i : Nat) : Int)
noncomputable def dst (n c : Nat) : Prop := ∀ i j : Nat, i < j → j < n → dg n c i ≠ dg n c j
/-- the place of a debt along a ring -/
noncomputable def pz (n c i : Nat) : Nat := 4 * dg n c i + dg n c ((i + 1) % n)
theorem pz_lt (n c i : Nat) : pz n c i < 16 := by
  have h1 := dg_lt n c i
  have h2 := dg_lt n c ((i + 1) % n)
  unfold pz
  omega
theorem pz_ne {n c i j : Nat} (hd : dst n c) (hi : i < j) (hj : j < n) : pz n c i ≠ pz n c j := by
  have h0 := hd i j hi hj
  have h1 := dg_lt n c ((i + 1) % n)
  have h2 := dg_lt n c ((j + 1) % n)
  unfold pz
  omega
noncomputable def owz (f : Nat → Int32) (n : Int) : Prop := ∀ j : Nat, (j : Int) < n → f j = 0
noncomputable def owb (f : Nat → Int32) (K : Int) : Prop := ∀ j : Nat, j < 16 → 0 ≤ (f j).toInt ∧ (f j).toInt ≤ K
theorem owz_0 {f : Nat → Int32} : owz f 0 := fun j hj => by omega
theorem owz_upd {f : Nat → Int32} {i i' : Int32} (h : owz f i.toInt) (h0 : 0 ≤ i.toInt) (hi : i'.toInt = i.toInt + 1) : owz (upd f i.toInt.toNat 0) i'.toInt := by
  intro j hj
  unfold upd
  split
  · rfl
  · exact h j (by omega)
theorem owb_z {f : Nat → Int32} {n K : Int} (h : owz f n) (hn : 16 ≤ n) (hK : 0 ≤ K) : owb f K := by
  intro j hj
  rw [h j (by omega)]
  exact ⟨by decide, by show (0 : Int) ≤ K; exact hK⟩
theorem owb_le {f : Nat → Int32} {K K' : Int} (h : owb f K) (hK : K ≤ K') : owb f K' := fun j hj => by
  have := h j hj
  omega
theorem owb_add {f : Nat → Int32} {K K' : Int} {i : Nat} {x : Int32} (h : owb f K) (hi : i < 16) (hx : 0 ≤ x.toInt ∧ x.toInt ≤ 9) (hk : K ≤ 1000) (hK : K + 9 ≤ K') : owb (upd f i (f i + x)) K' := by
  intro j hj
  have h1 := h i hi
  have h2 := h j hj
  have e := ti_add (f i) x (by omega)
  unfold upd
  split
  · omega
  · omega
-- ThreadBankModel.isRow(II)Z: the digits, and that they are apart
noncomputable def rD (f : Nat → Int32) (i : Int) : Prop := ∀ j : Nat, 0 < j → (j : Int) < i → (f 0).toInt < (f j).toInt ∧ ∀ k : Nat, 0 < k → k < j → ¬ f j = f k
theorem rD_dst {f : Nat → Int32} {n c : Nat} {i : Int} (h : rD f i) (hg : rg f n c) (hi : (n : Int) ≤ i) : dst n c := by
  intro x y hx hy e
  have h1 := h y (by omega) (by omega)
  have g1 := hg x (by omega)
  have g2 := hg y hy
  by_cases h0 : x = 0
  · subst h0
    omega
  · refine h1.2 x (by omega) hx (Int32.toInt_inj.mp ?_)
    omega
set_option maxRecDepth 100000 in
set_option maxHeartbeats 4000000 in
theorem sg_198_b (X : qm_X) (h : qm_H) (a b : Int32) (hb : 2 ≤ b.toInt ∧ b.toInt ≤ 4) (Q : qm_Q) (hq : ∀ (r : Int32), ((r = 0 ∨ r = 1) ∧ (¬ r = 0 → rD (h 46) b.toInt)) → Q (some (.int r)) h) : ∀ n : Nat, (∀ (l3 l4 l5 : Int32), ((0 ≤ l5.toInt ∧ l5.toInt ≤ b.toInt) ∧ (l4 = 0 ∨ l4 = 1) ∧ (¬ l4 = 0 → rD (h 46) l5.toInt)) → ((4 - l5.toInt) * 100 + 50).toNat < n → qm_PA X 198 38 [(0, .ref 39), (1, .int a), (2, .int b), (3, .int l3), (4, .int l4), (5, .int l5)] [] h Q) ∧ (∀ (l3 l4 l5 l6 : Int32), ((0 ≤ l5.toInt ∧ l5.toInt < b.toInt) ∧ (1 ≤ l6.toInt ∧ l6.toInt ≤ 4) ∧ (l4 = 0 ∨ l4 = 1) ∧ (¬ l4 = 0 → rD (h 46) l5.toInt ∧ (0 < l5.toInt → (h 46 0).toInt < (h 46 l5.toInt.toNat).toInt) ∧ ∀ k : Nat, 0 < k → (k : Int) < l6.toInt → (k : Int) < l5.toInt → ¬ h 46 l5.toInt.toNat = h 46 k)) → ((4 - l5.toInt) * 100 + 40 - l6.toInt).toNat < n → qm_PA X 198 94 [(0, .ref 39), (1, .int a), (2, .int b), (3, .int l3), (4, .int l4), (5, .int l5), (6, .int l6)] [] h Q) := by
  intro n
  induction n with
  | zero => exact ⟨fun _ _ _ _ h0 => absurd h0 (Nat.not_lt_zero _), fun _ _ _ _ _ h0 => absurd h0 (Nat.not_lt_zero _)⟩
  | succ n ih =>
    refine ⟨?_, ?_⟩
    · intro l3 l4 l5 ⟨h5, h4, hD⟩ hr
      refine qm_seg_ok (C := qc_198) (rt := some .boolean) rfl rfl (cuts := [(10, [0, 1, 2, 3, 4, 5]), (38, [0, 1, 2, 3, 4, 5]), (94, [0, 1, 2, 3, 4, 5, 6])]) 400 _ _ _ _ ?_
      show (b.toInt ≤ l5.toInt → ((l4 = 0 ∨ l4 = 1) ∧ Q (some (.int l4)) h)) ∧ (l5.toInt < b.toInt → ((l4 = 0 → (qm_PA X 198 94 [(0, .ref 39), (1, .int a), (2, .int b), (3, .int l3), (4, .int 0), (5, .int l5), (6, .int 1)] [] h Q)) ∧ (¬ l4 = 0 → ((0 ≤ l5.toInt ∧ l5.toInt < 4) ∧ (((h 39 3).toInt ≤ (h 46 l5.toInt.toNat).toInt → (qm_PA X 198 94 [(0, .ref 39), (1, .int a), (2, .int b), (3, .int l3), (4, .int 0), (5, .int l5), (6, .int 1)] [] h Q)) ∧ ((h 46 l5.toInt.toNat).toInt < (h 39 3).toInt → ((l5 = 0 → (qm_PA X 198 94 [(0, .ref 39), (1, .int a), (2, .int b), (3, .int l3), (4, .int 1), (5, .int l5), (6, .int 1)] [] h Q)) ∧ (¬ l5 = 0 → ((0 ≤ l5.toInt ∧ l5.toInt < 4) ∧ ((0 ≤ (0 : Int) ∧ (0 : Int) < 4) ∧ (((h 46 l5.toInt.toNat).toInt ≤ (h 46 0).toInt → (qm_PA X 198 94 [(0, .ref 39), (1, .int a), (2, .int b), (3, .int l3), (4, .int 0), (5, .int l5), (6, .int 1)] [] h Q)) ∧ ((h 46 0).toInt < (h 46 l5.toInt.toNat).toInt → (qm_PA X 198 94 [(0, .ref 39), (1, .int a), (2, .int b), (3, .int l3), (4, .int 1), (5, .int l5), (6, .int 1)] [] h Q)))))))))))))
      have e1 : (1 : Int32).toInt = 1 := rfl
      have no : ((4 - l5.toInt) * 100 + 40 - (1 : Int32).toInt).toNat < n := by rw [e1]; omega
      have z0 : l5.toInt < b.toInt → qm_PA X 198 94 [(0, .ref 39), (1, .int a), (2, .int b), (3, .int l3), (4, .int 0), (5, .int l5), (6, .int 1)] [] h Q := fun c => ih.2 l3 0 l5 1 ⟨⟨h5.1, c⟩, by decide, Or.inl rfl, fun hc => absurd rfl hc⟩ no
      have z1 : l5.toInt < b.toInt → ¬ l4 = 0 → (0 < l5.toInt → (h 46 0).toInt < (h 46 l5.toInt.toNat).toInt) → qm_PA X 198 94 [(0, .ref 39), (1, .int a), (2, .int b), (3, .int l3), (4, .int 1), (5, .int l5), (6, .int 1)] [] h Q := fun c c4 c0 => ih.2 l3 1 l5 1 ⟨⟨h5.1, c⟩, by decide, Or.inr rfl, fun _ => ⟨hD c4, c0, fun k k0 k1 _ => absurd k1 (by rw [e1]; omega)⟩⟩ no
      refine ⟨fun c => ⟨h4, hq l4 ⟨h4, fun c4 j j0 j1 => hD c4 j j0 (by omega)⟩⟩, fun c => ⟨fun _ => z0 c, fun c4 => ⟨⟨h5.1, by omega⟩, fun _ => z0 c, fun _ => ⟨fun c5 => z1 c c4 (fun hc => absurd hc (by rw [c5]; decide)), fun _ => ⟨⟨h5.1, by omega⟩, by decide, fun _ => z0 c, fun c6 => z1 c c4 (fun _ => c6)⟩⟩⟩⟩⟩
    · intro l3 l4 l5 l6 ⟨h5, h6, h4, hD⟩ hr
      refine qm_seg_ok (C := qc_198) (rt := some .boolean) rfl rfl (cuts := [(10, [0, 1, 2, 3, 4, 5]), (38, [0, 1, 2, 3, 4, 5]), (94, [0, 1, 2, 3, 4, 5, 6])]) 400 _ _ _ _ ?_
      show (l5.toInt ≤ l6.toInt → (qm_PA X 198 38 [(0, .ref 39), (1, .int a), (2, .int b), (3, .int l3), (4, .int l4), (5, .int (l5 + 1))] [] h Q)) ∧ (l6.toInt < l5.toInt → ((l4 = 0 → (qm_PA X 198 94 [(0, .ref 39), (1, .int a), (2, .int b), (3, .int l3), (4, .int 0), (5, .int l5), (6, .int (l6 + 1))] [] h Q)) ∧ (¬ l4 = 0 → ((0 ≤ l5.toInt ∧ l5.toInt < 4) ∧ ((0 ≤ l6.toInt ∧ l6.toInt < 4) ∧ (((h 46 l5.toInt.toNat) = (h 46 l6.toInt.toNat) → (qm_PA X 198 94 [(0, .ref 39), (1, .int a), (2, .int b), (3, .int l3), (4, .int 0), (5, .int l5), (6, .int (l6 + 1))] [] h Q)) ∧ (¬ (h 46 l5.toInt.toNat) = (h 46 l6.toInt.toNat) → (qm_PA X 198 94 [(0, .ref 39), (1, .int a), (2, .int b), (3, .int l3), (4, .int 1), (5, .int l5), (6, .int (l6 + 1))] [] h Q))))))))
      have e5 := ti_addK l5 (1 : Int32) 1 rfl (by omega)
      have e6 := ti_addK l6 (1 : Int32) 1 rfl (by omega)
      refine ⟨fun c => ih.1 l3 l4 (l5 + 1) ⟨by omega, h4, fun c4 => ?_⟩ (by omega), fun c => ⟨fun _ => ih.2 l3 0 l5 (l6 + 1) ⟨h5, by omega, Or.inl rfl, fun hc => absurd rfl hc⟩ (by omega), fun c4 => ⟨by omega, by omega, fun _ => ih.2 l3 0 l5 (l6 + 1) ⟨h5, by omega, Or.inl rfl, fun hc => absurd rfl hc⟩ (by omega), fun c7 => ih.2 l3 1 l5 (l6 + 1) ⟨h5, by omega, Or.inr rfl, fun _ => ⟨(hD c4).1, (hD c4).2.1, fun k k0 k1 k2 => ?_⟩⟩ (by omega)⟩⟩⟩
      · obtain ⟨d1, d2, d3⟩ := hD c4
        intro j j0 j1
        by_cases hj : (j : Int) < l5.toInt
        · exact d1 j j0 hj
        · have ej : j = l5.toInt.toNat := by omega
          subst ej
          exact ⟨d2 (by omega), fun k k0 k1 => d3 k k0 (by omega) (by omega)⟩
      · by_cases hk : (k : Int) < l6.toInt
        · exact (hD c4).2.2 k k0 hk k2
        · have ek : k = l6.toInt.toNat := by omega
          rw [ek]; exact c7
set_option maxRecDepth 100000 in
set_option maxHeartbeats 4000000 in
theorem sg_198_a (X : qm_X) (h : qm_H) (a b : Int32) (ha : 0 ≤ a.toInt) (hb : 2 ≤ b.toInt ∧ b.toInt ≤ 4) (Q : qm_Q) (hq : ∀ (r : Int32) (h' : qm_H), (rw_ h' ∧ (∀ k, k ≠ 46 → h' k = h k) ∧ rg (h' 46) b.toInt.toNat a.toInt.toNat ∧ (r = 0 ∨ r = 1) ∧ (¬ r = 0 → dst b.toInt.toNat a.toInt.toNat)) → Q (some (.int r)) h') : ∀ n : Nat, ∀ (l3 l5 : Int32) (g : qm_H), ((-1 ≤ l5.toInt ∧ l5.toInt ≤ b.toInt - 1) ∧ l3.toInt = ((a.toInt.toNat / 4 ^ (b.toInt - 1 - l5.toInt).toNat : Nat) : Int) ∧ (∀ j : Nat, l5.toInt < (j : Int) → j < b.toInt.toNat → (g 46 j).toInt = ((dg b.toInt.toNat a.toInt.toNat j : Nat) : Int)) ∧ rw_ g ∧ (∀ k, k ≠ 46 → g k = h k)) → (l5.toInt + 1).toNat < n → qm_PA X 198 10 [(0, .ref 39), (1, .int a), (2, .int b), (3, .int l3), (4, .int 1), (5, .int l5)] [] g Q := by
  intro n
  induction n with
  | zero => exact fun _ _ _ _ h0 => absurd h0 (Nat.not_lt_zero _)
  | succ n ih =>
    intro l3 l5 g ⟨h5, h3, hrow, hrw, hf⟩ hr
    refine qm_seg_ok (C := qc_198) (rt := some .boolean) rfl rfl (cuts := [(10, [0, 1, 2, 3, 4, 5]), (38, [0, 1, 2, 3, 4, 5]), (94, [0, 1, 2, 3, 4, 5, 6])]) 400 _ _ _ _ ?_
    show (l5.toInt < 0 → (qm_PA X 198 38 [(0, .ref 39), (1, .int a), (2, .int b), (3, .int l3), (4, .int 1), (5, .int 0)] [] g Q)) ∧ (0 ≤ l5.toInt → (¬ (4 : Int32) = 0 ∧ ((0 ≤ l5.toInt ∧ l5.toInt < 4) ∧ (¬ (4 : Int32) = 0 ∧ (qm_PA X 198 10 [(0, .ref 39), (1, .int a), (2, .int b), (3, .int (l3 / 4)), (4, .int 1), (5, .int (l5 + (-1 : Int32)))] [] (qm_row g 46 (upd (g 46) l5.toInt.toNat (l3 - l3 / 4 * 4))) Q)))))
    refine ⟨fun c => ?_, fun c => ⟨by decide, ⟨c, by omega⟩, by decide, ?_⟩⟩
    · have hg : rg (g 46) b.toInt.toNat a.toInt.toNat := fun i hi => hrow i (by omega) hi
      exact (sg_198_b X g a b hb Q (fun r hr => hq r g ⟨hrw, hf, hg, hr.1, fun c => rD_dst (hr.2 c) hg (by omega)⟩) _).1 l3 1 0 ⟨⟨by decide, by show (0 : Int) ≤ b.toInt; omega⟩, Or.inr rfl, fun _ j j0 j1 => absurd j1 (by have : (0 : Int32).toInt = 0 := rfl; omega)⟩ (Nat.lt_succ_self _)
    · have hz := ti_addK l5 (-1 : Int32) (-1) ti_n1 (by omega)
      revert hz
      generalize l5 + (-1 : Int32) = z
      intro hz
      obtain ⟨y, hy⟩ : ∃ y, y = a.toInt.toNat / 4 ^ (b.toInt - 1 - l5.toInt).toNat := ⟨_, rfl⟩
      rw [← hy] at h3
      have e3 := ti_div (4 : Int32) 4 rfl l3 (by decide) (by omega)
      have e4 := ti_rem (4 : Int32) 4 rfl l3 (by decide) (by omega)
      have ey : a.toInt.toNat / 4 ^ (b.toInt - 1 - z.toInt).toNat = y / 4 := by
        rw [show (b.toInt - 1 - z.toInt).toNat = (b.toInt - 1 - l5.toInt).toNat + 1 by omega, Nat.pow_succ, ← Nat.div_div_eq_div_mul, ← hy]
      have ed : dg b.toInt.toNat a.toInt.toNat l5.toInt.toNat = y % 4 := by
        unfold dg
        rw [show b.toInt.toNat - 1 - l5.toInt.toNat = (b.toInt - 1 - l5.toInt).toNat by omega, ← hy]
      refine ih (l3 / 4) z _ ⟨by omega, by rw [ey]; omega, fun j j0 j1 => ?_, fun j => ?_, fun k hk => ?_⟩ (by omega)
      · show (upd (g 46) l5.toInt.toNat (l3 - l3 / 4 * 4) j).toInt = _
        unfold upd
        split
        · rename_i ej
          rw [ej, ed]; omega
        · exact hrow j (by omega) j1
      · show 0 ≤ (upd (g 46) l5.toInt.toNat (l3 - l3 / 4 * 4) j).toInt ∧ (upd (g 46) l5.toInt.toNat (l3 - l3 / 4 * 4) j).toInt ≤ 3
        unfold upd
        split
        · omega
        · exact hrw j
      · simp only [qm_row]
        rw [if_neg hk]
        exact hf k hk
set_option maxRecDepth 100000 in
set_option maxHeartbeats 4000000 in
theorem sg_198 (X : qm_X) (h : qm_H) (a b : Int32) (hp : rw_ h ∧ 0 ≤ a.toInt ∧ (2 ≤ b.toInt ∧ b.toInt ≤ 4)) (Q : qm_Q) (hq : ∀ (r : Int32) (h' : qm_H), (rw_ h' ∧ (∀ k, k ≠ 46 → h' k = h k) ∧ rg (h' 46) b.toInt.toNat a.toInt.toNat ∧ (r = 0 ∨ r = 1) ∧ (¬ r = 0 → dst b.toInt.toNat a.toInt.toNat)) → Q (some (.int r)) h') : qm_PW X 198 [.ref 39, .int a, .int b] h Q := by
  obtain ⟨h1, h2, h3⟩ := hp
  refine qm_seg_ok (C := qc_198) (rt := some .boolean) rfl rfl (cuts := [(10, [0, 1, 2, 3, 4, 5]), (38, [0, 1, 2, 3, 4, 5]), (94, [0, 1, 2, 3, 4, 5, 6])]) 400 _ _ _ _ ?_
  show qm_PA X 198 10 [(0, .ref 39), (1, .int a), (2, .int b), (3, .int a), (4, .int 1), (5, .int (b - 1))] [] h Q
  have e := ti_subK b (1 : Int32) 1 rfl (by omega)
  refine sg_198_a X h a b h2 h3 Q hq _ a (b - 1) h ⟨by omega, ?_, fun j j0 j1 => by omega, h1, fun _ _ => rfl⟩ (Nat.lt_succ_self _)
  rw [show (b.toInt - 1 - (b - 1).toInt).toNat = 0 by omega, Nat.pow_zero, Nat.div_one]
  omega
-- ThreadBankModel.leastIn(I)I
/-- the next place of a ring -/
theorem rg_at {f : Nat → Int32} {n c : Nat} {i : Int32} {m : Int32} (hg : rg f n c) (hn : m.toInt = n) (h2 : 2 ≤ n) (h4 : n ≤ 4) (h0 : 0 ≤ i.toInt) (h1 : i.toInt < n) : ((0 ≤ ((i + 1) - (i + 1) / m * m).toInt ∧ ((i + 1) - (i + 1) / m * m).toInt < 4) ∧ (0 ≤ ((4 * (f i.toInt.toNat)) + (f ((i + 1) - (i + 1) / m * m).toInt.toNat)).toInt ∧ ((4 * (f i.toInt.toNat)) + (f ((i + 1) - (i + 1) / m * m).toInt.toNat)).toInt < 16)) ∧ ((4 * (f i.toInt.toNat)) + (f ((i + 1) - (i + 1) / m * m).toInt.toNat)).toInt.toNat = pz n c i.toInt.toNat := by
  have e1 := ti_addK i (1 : Int32) 1 rfl (by omega)
  have e2 := ti_rem m n hn (i + 1) (by omega) (by omega)
  have e3 : ((i + 1) - (i + 1) / m * m).toInt.toNat = (i.toInt.toNat + 1) % n := by
    rw [e2, e1, show i.toInt + 1 = ((i.toInt.toNat + 1 : Nat) : Int) by omega, ← Int.natCast_emod, Int.toNat_natCast]
  have l1 : (i.toInt.toNat + 1) % n < n := Nat.mod_lt _ (by omega)
  have g1 := hg i.toInt.toNat (by omega)
  have g2 := hg ((i.toInt.toNat + 1) % n) l1
  have d1 := dg_lt n c i.toInt.toNat
  have d2 := dg_lt n c ((i.toInt.toNat + 1) % n)
  have e0 : ((i + 1) - (i + 1) / m * m).toInt = ((((i.toInt.toNat + 1) % n : Nat)) : Int) := by
    rw [e2, e1, show i.toInt + 1 = ((i.toInt.toNat + 1 : Nat) : Int) by omega, ← Int.natCast_emod]
  have e4 : 0 ≤ ((i + 1) - (i + 1) / m * m).toInt ∧ ((i + 1) - (i + 1) / m * m).toInt < 4 := by
    rw [e0]; omega
  rw [e3]
  have e5 := ti_mulL (4 : Int32) 4 rfl (f i.toInt.toNat) (by omega)
  have e6 := ti_add (4 * (f i.toInt.toNat)) (f ((i.toInt.toNat + 1) % n)) (by omega)
  refine ⟨⟨e4, by omega⟩, ?_⟩
  unfold pz
  omega
set_option maxRecDepth 100000 in
set_option maxHeartbeats 4000000 in
theorem sg_199_c (X : qm_X) (h : qm_H) (a : Int32) (n c : Nat) (hn : a.toInt = n) (h2 : 2 ≤ n) (h4 : n ≤ 4) (hg : rg (h 46) n c) (ho : owb (h 45) 100) (Q : qm_Q) (hq : ∀ (r : Int32), ((0 ≤ r.toInt ∧ r.toInt ≤ 1000000) ∧ ∀ i : Nat, i < n → r.toInt ≤ (h 45 (pz n c i)).toInt) → Q (some (.int r)) h) : ∀ k : Nat, ∀ (l2 l3 : Int32), ((0 ≤ l3.toInt ∧ l3.toInt ≤ n) ∧ (0 ≤ l2.toInt ∧ l2.toInt ≤ 1000000) ∧ ∀ i : Nat, (i : Int) < l3.toInt → l2.toInt ≤ (h 45 (pz n c i)).toInt) → (4 - l3.toInt).toNat < k → qm_PA X 199 5 [(0, .ref 39), (1, .int a), (2, .int l2), (3, .int l3)] [] h Q := by
  intro k
  induction k with
  | zero => exact fun _ _ _ h0 => absurd h0 (Nat.not_lt_zero _)
  | succ k ih =>
    intro l2 l3 ⟨h3, hl, hm⟩ hr
    refine qm_seg_ok (C := qc_199) (rt := some .int) rfl rfl (cuts := [(5, [0, 1, 2, 3])]) 400 _ _ _ _ ?_
    show (a.toInt ≤ l3.toInt → (Q (some (.int l2)) h)) ∧ (l3.toInt < a.toInt → ((0 ≤ l3.toInt ∧ l3.toInt < 4) ∧ (¬ a = 0 ∧ ((0 ≤ ((l3 + 1) - (l3 + 1) / a * a).toInt ∧ ((l3 + 1) - (l3 + 1) / a * a).toInt < 4) ∧ ((0 ≤ ((4 * (h 46 l3.toInt.toNat)) + (h 46 ((l3 + 1) - (l3 + 1) / a * a).toInt.toNat)).toInt ∧ ((4 * (h 46 l3.toInt.toNat)) + (h 46 ((l3 + 1) - (l3 + 1) / a * a).toInt.toNat)).toInt < 16) ∧ ((l2.toInt ≤ (h 45 ((4 * (h 46 l3.toInt.toNat)) + (h 46 ((l3 + 1) - (l3 + 1) / a * a).toInt.toNat)).toInt.toNat).toInt → (qm_PA X 199 5 [(0, .ref 39), (1, .int a), (2, .int l2), (3, .int (l3 + 1))] [] h Q)) ∧ ((h 45 ((4 * (h 46 l3.toInt.toNat)) + (h 46 ((l3 + 1) - (l3 + 1) / a * a).toInt.toNat)).toInt.toNat).toInt < l2.toInt → (qm_PA X 199 5 [(0, .ref 39), (1, .int a), (2, .int (h 45 ((4 * (h 46 l3.toInt.toNat)) + (h 46 ((l3 + 1) - (l3 + 1) / a * a).toInt.toNat)).toInt.toNat)), (3, .int (l3 + 1))] [] h Q))))))))
    refine ⟨fun c => hq l2 ⟨hl, fun i hi => hm i (by omega)⟩, fun cc => ?_⟩
    have e1 := ti_addK l3 (1 : Int32) 1 rfl (by omega)
    obtain ⟨⟨r1, r2⟩, r3⟩ := rg_at (i := l3) (m := a) hg hn h2 h4 h3.1 (by omega)
    refine ⟨by omega, fun e => by rw [e] at hn; have : (0 : Int32).toInt = 0 := rfl; omega, r1, r2, ?_⟩
    rw [r3]
    have o1 := ho (pz n c l3.toInt.toNat) (pz_lt _ _ _)
    refine ⟨fun q => ih l2 (l3 + 1) ⟨by omega, hl, fun i hi => ?_⟩ (by omega), fun q => ih _ (l3 + 1) ⟨by omega, by omega, fun i hi => ?_⟩ (by omega)⟩
    · by_cases hi2 : (i : Int) < l3.toInt
      · exact hm i hi2
      · have ei : i = l3.toInt.toNat := by omega
        rw [ei]; exact q
    · by_cases hi2 : (i : Int) < l3.toInt
      · have := hm i hi2; omega
      · have ei : i = l3.toInt.toNat := by omega
        rw [ei]; exact Int.le_refl _
set_option maxRecDepth 100000 in
set_option maxHeartbeats 4000000 in
theorem sg_199 (X : qm_X) (h : qm_H) (a : Int32) (n c : Nat) (hn : a.toInt = n) (h2 : 2 ≤ n) (h4 : n ≤ 4) (hg : rg (h 46) n c) (ho : owb (h 45) 100) (Q : qm_Q) (hq : ∀ (r : Int32), ((0 ≤ r.toInt ∧ r.toInt ≤ 1000000) ∧ ∀ i : Nat, i < n → r.toInt ≤ (h 45 (pz n c i)).toInt) → Q (some (.int r)) h) : qm_PW X 199 [.ref 39, .int a] h Q := by
  refine qm_seg_ok (C := qc_199) (rt := some .int) rfl rfl (cuts := [(5, [0, 1, 2, 3])]) 400 _ _ _ _ ?_
  show qm_PA X 199 5 [(0, .ref 39), (1, .int a), (2, .int 1000000), (3, .int 0)] [] h Q
  refine sg_199_c X h a n c hn h2 h4 hg ho Q hq _ 1000000 0 ⟨⟨by decide, by show (0 : Int) ≤ n; omega⟩, by decide, fun i hi => absurd hi (by have : (0 : Int32).toInt = 0 := rfl; omega)⟩ (Nat.lt_succ_self _)
