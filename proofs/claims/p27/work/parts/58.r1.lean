/-! ===== findRing() and clears() ===== -/
/-- what the ring found so far is: its size, its code, that each debt along it is at least v -/
noncomputable def rp (h : qm_H) : Prop := 0 ≤ (h 39 18).toInt ∧ (0 < (h 39 18).toInt → ∃ (n c : Nat) (v : Int), (h 39 19).toInt = n ∧ (h 39 20).toInt = c ∧ 2 ≤ n ∧ n ≤ 4 ∧ dst n c ∧ 1 ≤ v ∧ (h 39 18).toInt = n * v ∧ ∀ i : Nat, i < n → v ≤ (h 45 (pz n c i)).toInt)
noncomputable def rI (h g : qm_H) : Prop := mi g ∧ rw_ g ∧ owb (g 45) 100 ∧ rp g ∧ (∀ k, k ≠ 39 → k ≠ 46 → g k = h k) ∧ (∀ j, j ≠ 18 → j ≠ 19 → j ≠ 20 → g 39 j = h 39 j)
theorem rI_46 {h g g1 : qm_H} (hi : rI h g) (hw : rw_ g1) (hf : ∀ k, k ≠ 46 → g1 k = g k) : rI h g1 := by
  obtain ⟨h1, h2, h3, h4, h5, h6⟩ := hi
  refine ⟨?_, hw, ?_, ?_, fun k k1 k2 => (hf k k2).trans (h5 k k1 k2), fun j j1 j2 j3 => ?_⟩
  · unfold mi; rw [hf 39 (by decide)]; exact h1
  · rw [hf 45 (by decide)]; exact h3
  · unfold rp; rw [hf 39 (by decide), hf 45 (by decide)]; exact h4
  · rw [hf 39 (by decide)]; exact h6 j j1 j2 j3
/-- the same ring stays -/
theorem rI_same {h g : qm_H} (hi : rI h g) : rI h (qm_row (qm_row (qm_row g 39 (upd (g 39) 19 (g 39 19))) 39 (upd (upd (g 39) 19 (g 39 19)) 20 (g 39 20))) 39 (upd (upd (upd (g 39) 19 (g 39 19)) 20 (g 39 20)) 18 (g 39 18))) := by
  have e : qm_row (qm_row (qm_row g 39 (upd (g 39) 19 (g 39 19))) 39 (upd (upd (g 39) 19 (g 39 19)) 20 (g 39 20))) 39 (upd (upd (upd (g 39) 19 (g 39 19)) 20 (g 39 20)) 18 (g 39 18)) = g := by
    funext k
    simp only [qm_row]
    split
    · rename_i hk
      subst hk
      funext j
      unfold upd
      split
      · rename_i e; rw [e]
      · split
        · rename_i e; rw [e]
        · split
          · rename_i e; rw [e]
          · rfl
    · rfl
  rw [e]; exact hi
/-- a better ring -/
theorem rI_new {h g : qm_H} (hi : rI h g) {l1 l2 l3 : Int32} (h1 : 2 ≤ l1.toInt ∧ l1.toInt ≤ 4) (h2 : 0 ≤ l2.toInt ∧ l2.toInt ≤ 255) (h0 : 0 < l3.toInt) (hv : ∃ v : Int, dst l1.toInt.toNat l2.toInt.toNat ∧ l3.toInt = (l1.toInt.toNat : Int) * v ∧ ∀ i : Nat, i < l1.toInt.toNat → v ≤ (g 45 (pz l1.toInt.toNat l2.toInt.toNat i)).toInt) : rI h (qm_row (qm_row (qm_row g 39 (upd (g 39) 19 l1)) 39 (upd (upd (g 39) 19 l1) 20 l2)) 39 (upd (upd (upd (g 39) 19 l1) 20 l2) 18 l3)) := by
  obtain ⟨a1, a2, a3, a4, a5, a6⟩ := hi
  obtain ⟨v, b1, b2, b3⟩ := hv
  refine ⟨⟨a1.1, a1.2.1, ?_, ?_, a1.2.2.2.2⟩, a2, a3, ⟨?_, fun _ => ⟨l1.toInt.toNat, l2.toInt.toNat, v, ?_, ?_, by omega, by omega, b1, ?_, b2, b3⟩⟩, fun k k1 k2 => ?_, fun j j1 j2 j3 => ?_⟩
  · show 0 ≤ l1.toInt ∧ l1.toInt ≤ 4; omega
  · exact h2
  · show 0 ≤ l3.toInt; omega
  · show l1.toInt = (l1.toInt.toNat : Int); omega
  · show l2.toInt = (l2.toInt.toNat : Int); omega
  · have hn : l1.toInt.toNat = 2 ∨ l1.toInt.toNat = 3 ∨ l1.toInt.toNat = 4 := by omega
    rcases hn with e | e | e <;> rw [e] at b2 <;> omega
  · simp only [qm_row]
    rw [if_neg k1, if_neg k1, if_neg k1]
    exact a5 k k1 k2
  · show upd (upd (upd (g 39) 19 l1) 20 l2) 18 l3 j = h 39 j
    unfold upd
    rw [if_neg j1, if_neg j3, if_neg j2]
    exact a6 j j1 j2 j3
set_option maxRecDepth 100000 in
set_option maxHeartbeats 4000000 in
theorem sg_201_c (X : qm_X) (h : qm_H) (Q : qm_Q) (hq : ∀ (r : Int32) (h' : qm_H), (rI h h' ∧ (r = 0 ∨ r = 1) ∧ (¬ r = 0 → 0 < (h' 39 18).toInt)) → Q (some (.int r)) h') : ∀ n : Nat, (∀ (l1 : Int32) (g : qm_H), ((2 ≤ l1.toInt ∧ l1.toInt ≤ 5) ∧ rI h g) → ((5 - l1.toInt) * 10000 + 9000).toNat < n → qm_PA X 201 12 [(0, .ref 39), (1, .int l1)] [] g Q) ∧ (∀ (l1 l2 : Int32) (g : qm_H), ((2 ≤ l1.toInt ∧ l1.toInt ≤ 4) ∧ (0 ≤ l2.toInt ∧ l2.toInt ≤ 256) ∧ rI h g) → ((5 - l1.toInt) * 10000 + (256 - l2.toInt) * 10 + 5).toNat < n → qm_PA X 201 19 [(0, .ref 39), (1, .int l1), (2, .int l2)] [] g Q) ∧ (∀ (l1 l2 l3 : Int32) (g : qm_H), ((2 ≤ l1.toInt ∧ l1.toInt ≤ 4) ∧ (0 ≤ l2.toInt ∧ l2.toInt ≤ 255) ∧ (0 < l3.toInt → ∃ v : Int, dst l1.toInt.toNat l2.toInt.toNat ∧ l3.toInt = (l1.toInt.toNat : Int) * v ∧ ∀ i : Nat, i < l1.toInt.toNat → v ≤ (g 45 (pz l1.toInt.toNat l2.toInt.toNat i)).toInt) ∧ rI h g) → ((5 - l1.toInt) * 10000 + (256 - l2.toInt) * 10 + 4).toNat < n → qm_PA X 201 49 [(0, .ref 39), (1, .int l1), (2, .int l2), (3, .int l3)] [] g Q) := by
  intro n
  induction n with
  | zero => exact ⟨fun _ _ _ h0 => absurd h0 (Nat.not_lt_zero _), fun _ _ _ _ h0 => absurd h0 (Nat.not_lt_zero _), fun _ _ _ _ _ h0 => absurd h0 (Nat.not_lt_zero _)⟩
  | succ n ih =>
    refine ⟨?_, ?_, ?_⟩
    · intro l1 g ⟨h1, hi⟩ hr
      refine qm_seg_ok (C := qc_201) (rt := some .boolean) rfl rfl (cuts := [(12, [0, 1]), (19, [0, 1, 2]), (49, [0, 1, 2, 3])]) 400 _ _ _ _ ?_
      show (4 < l1.toInt → (((g 39 18).toInt ≤ 0 → (((0 : Int32) = 0 ∨ (0 : Int32) = 1) ∧ Q (some (.int 0)) g)) ∧ (0 < (g 39 18).toInt → (((1 : Int32) = 0 ∨ (1 : Int32) = 1) ∧ Q (some (.int 1)) g)))) ∧ (l1.toInt ≤ 4 → (qm_PA X 201 19 [(0, .ref 39), (1, .int l1), (2, .int 0)] [] g Q))
      refine ⟨fun _ => ⟨fun _ => ⟨Or.inl rfl, hq 0 g ⟨hi, Or.inl rfl, fun hc => absurd rfl hc⟩⟩, fun c => ⟨Or.inr rfl, hq 1 g ⟨hi, Or.inr rfl, fun _ => c⟩⟩⟩, fun c => ih.2.1 l1 0 g ⟨⟨h1.1, c⟩, by decide, hi⟩ ?_⟩
      have : (0 : Int32).toInt = 0 := rfl
      omega
    · intro l1 l2 g ⟨h1, h2, hi⟩ hr
      refine qm_seg_ok (C := qc_201) (rt := some .boolean) rfl rfl (cuts := [(12, [0, 1]), (19, [0, 1, 2]), (49, [0, 1, 2, 3])]) 400 _ _ _ _ ?_
      show qm_PW X 200 [.int 4, .int l1] g _
      refine sf_200 X g 4 l1 ⟨rfl, by omega⟩ _ (fun r pr0 => ?_)
      show (r.toInt ≤ l2.toInt → (qm_PA X 201 12 [(0, .ref 39), (1, .int (l1 + 1))] [] g Q)) ∧ (l2.toInt < r.toInt → (qm_PW X 198 [.ref 39, .int l2, .int l1] g _))
      have e1 := ti_addK l1 (1 : Int32) 1 rfl (by omega)
      refine ⟨fun _ => ih.1 (l1 + 1) g ⟨by omega, hi⟩ (by omega), fun c => ?_⟩
      refine sg_198 X g l2 l1 ⟨hi.2.1, h2.1, h1⟩ _ (fun r1 g1 p1 => ?_)
      obtain ⟨w1, w2, w3, w4, w5⟩ := p1
      have hi1 := rI_46 hi w1 w2
      show (r1 = 0 → (qm_PA X 201 49 [(0, .ref 39), (1, .int l1), (2, .int l2), (3, .int 0)] [] g1 Q)) ∧ (¬ r1 = 0 → (qm_PW X 199 [.ref 39, .int l1] g1 _))
      refine ⟨fun _ => ih.2.2 l1 l2 0 g1 ⟨h1, by omega, fun hc => absurd hc (by decide), hi1⟩ (by omega), fun c1 => ?_⟩
      refine sg_199 X g1 l1 l1.toInt.toNat l2.toInt.toNat (by omega) (by omega) (by omega) w3 hi1.2.2.1 _ (fun r2 p2 => ?_)
      show qm_PA X 201 49 [(0, .ref 39), (1, .int l1), (2, .int l2), (3, .int (l1 * r2))] [] g1 Q
      refine ih.2.2 l1 l2 (l1 * r2) g1 ⟨h1, by omega, fun _ => ⟨r2.toInt, w5 c1, ?_, p2.2⟩, hi1⟩ (by omega)
      have hn : l1.toInt = 2 ∨ l1.toInt = 3 ∨ l1.toInt = 4 := by omega
      rcases hn with e | e | e
      · rw [ti_mulL l1 2 e r2 (by omega), e]; rfl
      · rw [ti_mulL l1 3 e r2 (by omega), e]; rfl
      · rw [ti_mulL l1 4 e r2 (by omega), e]; rfl
    · intro l1 l2 l3 g ⟨h1, h2, hv, hi⟩ hr
      refine qm_seg_ok (C := qc_201) (rt := some .boolean) rfl rfl (cuts := [(12, [0, 1]), (19, [0, 1, 2]), (49, [0, 1, 2, 3])]) 400 _ _ _ _ ?_
      show (l3.toInt ≤ (g 39 18).toInt → ((l3.toInt ≤ (g 39 18).toInt → ((l3.toInt ≤ (g 39 18).toInt → (qm_PA X 201 19 [(0, .ref 39), (1, .int l1), (2, .int (l2 + 1))] [] (qm_row (qm_row (qm_row g 39 (upd (g 39) 19 (g 39 19))) 39 (upd (upd (g 39) 19 (g 39 19)) 20 (g 39 20))) 39 (upd (upd (upd (g 39) 19 (g 39 19)) 20 (g 39 20)) 18 (g 39 18))) Q)) ∧ ((g 39 18).toInt < l3.toInt → (qm_PA X 201 19 [(0, .ref 39), (1, .int l1), (2, .int (l2 + 1))] [] (qm_row (qm_row (qm_row g 39 (upd (g 39) 19 (g 39 19))) 39 (upd (upd (g 39) 19 (g 39 19)) 20 (g 39 20))) 39 (upd (upd (upd (g 39) 19 (g 39 19)) 20 (g 39 20)) 18 l3)) Q)))) ∧ ((g 39 18).toInt < l3.toInt → ((l3.toInt ≤ (g 39 18).toInt → (qm_PA X 201 19 [(0, .ref 39), (1, .int l1), (2, .int (l2 + 1))] [] (qm_row (qm_row (qm_row g 39 (upd (g 39) 19 (g 39 19))) 39 (upd (upd (g 39) 19 (g 39 19)) 20 l2)) 39 (upd (upd (upd (g 39) 19 (g 39 19)) 20 l2) 18 (g 39 18))) Q)) ∧ ((g 39 18).toInt < l3.toInt → (qm_PA X 201 19 [(0, .ref 39), (1, .int l1), (2, .int (l2 + 1))] [] (qm_row (qm_row (qm_row g 39 (upd (g 39) 19 (g 39 19))) 39 (upd (upd (g 39) 19 (g 39 19)) 20 l2)) 39 (upd (upd (upd (g 39) 19 (g 39 19)) 20 l2) 18 l3)) Q)))))) ∧ ((g 39 18).toInt < l3.toInt → ((l3.toInt ≤ (g 39 18).toInt → ((l3.toInt ≤ (g 39 18).toInt → (qm_PA X 201 19 [(0, .ref 39), (1, .int l1), (2, .int (l2 + 1))] [] (qm_row (qm_row (qm_row g 39 (upd (g 39) 19 l1)) 39 (upd (upd (g 39) 19 l1) 20 (g 39 20))) 39 (upd (upd (upd (g 39) 19 l1) 20 (g 39 20)) 18 (g 39 18))) Q)) ∧ ((g 39 18).toInt < l3.toInt → (qm_PA X 201 19 [(0, .ref 39), (1, .int l1), (2, .int (l2 + 1))] [] (qm_row (qm_row (qm_row g 39 (upd (g 39) 19 l1)) 39 (upd (upd (g 39) 19 l1) 20 (g 39 20))) 39 (upd (upd (upd (g 39) 19 l1) 20 (g 39 20)) 18 l3)) Q)))) ∧ ((g 39 18).toInt < l3.toInt → ((l3.toInt ≤ (g 39 18).toInt → (qm_PA X 201 19 [(0, .ref 39), (1, .int l1), (2, .int (l2 + 1))] [] (qm_row (qm_row (qm_row g 39 (upd (g 39) 19 l1)) 39 (upd (upd (g 39) 19 l1) 20 l2)) 39 (upd (upd (upd (g 39) 19 l1) 20 l2) 18 (g 39 18))) Q)) ∧ ((g 39 18).toInt < l3.toInt → (qm_PA X 201 19 [(0, .ref 39), (1, .int l1), (2, .int (l2 + 1))] [] (qm_row (qm_row (qm_row g 39 (upd (g 39) 19 l1)) 39 (upd (upd (g 39) 19 l1) 20 l2)) 39 (upd (upd (upd (g 39) 19 l1) 20 l2) 18 l3)) Q))))))
      have e2 := ti_addK l2 (1 : Int32) 1 rfl (by omega)
      have hp18 := hi.2.2.2.1.1
      have nl : ∀ {P : Prop}, l3.toInt ≤ (g 39 18).toInt → (g 39 18).toInt < l3.toInt → P := fun a b => absurd a (by omega)
      refine ⟨fun c => ⟨fun _ => ⟨fun _ => ih.2.1 l1 (l2 + 1) _ ⟨h1, by omega, rI_same hi⟩ (by omega), fun c' => nl c c'⟩, fun c' => nl c c'⟩, fun c => ⟨fun c' => nl c' c, fun _ => ⟨fun c' => nl c' c, fun _ => ih.2.1 l1 (l2 + 1) _ ⟨h1, by omega, rI_new hi h1 h2 (by omega) (hv (by omega))⟩ (by omega)⟩⟩⟩
set_option maxRecDepth 100000 in
set_option maxHeartbeats 4000000 in
theorem sg_201 (X : qm_X) (h : qm_H) (hp : mi h ∧ rw_ h ∧ owb (h 45) 100) (Q : qm_Q) (hq : ∀ (r : Int32) (h' : qm_H), (rI h h' ∧ (r = 0 ∨ r = 1) ∧ (¬ r = 0 → 0 < (h' 39 18).toInt)) → Q (some (.int r)) h') : qm_PW X 201 [.ref 39] h Q := by
  refine qm_seg_ok (C := qc_201) (rt := some .boolean) rfl rfl (cuts := [(12, [0, 1]), (19, [0, 1, 2]), (49, [0, 1, 2, 3])]) 400 _ _ _ _ ?_
  show qm_PA X 201 12 [(0, .ref 39), (1, .int 2)] [] (qm_row (qm_row h 39 (upd (h 39) 18 0)) 39 (upd (upd (h 39) 18 0) 19 0)) Q
  refine (sg_201_c X h Q hq _).1 2 _ ⟨by decide, ⟨⟨hp.1.1, hp.1.2.1, by show 0 ≤ (0 : Int32).toInt ∧ (0 : Int32).toInt ≤ 4; decide, hp.1.2.2.2.1, hp.1.2.2.2.2⟩, hp.2.1, hp.2.2, ⟨by show 0 ≤ (0 : Int32).toInt; decide, fun hc => absurd hc (by show ¬ 0 < (0 : Int32).toInt; decide)⟩, fun k k1 k2 => ?_, fun j j1 j2 j3 => ?_⟩⟩ (Nat.lt_succ_self _)
  · simp only [qm_row]
    rw [if_neg k1, if_neg k1]
  · show upd (upd (h 39) 18 0) 19 0 j = h 39 j
    unfold upd
    rw [if_neg j2, if_neg j1]
/-! what is owed in all falls -/
noncomputable def s16 (f : Nat → Int32) : Nat → Int
  | 0 => 0
  | k + 1 => s16 f k + (f k).toInt
theorem s16_pos {f : Nat → Int32} : ∀ k : Nat, (∀ j : Nat, j < k → 0 ≤ (f j).toInt) → 0 ≤ s16 f k
  | 0, _ => Int.le_refl _
  | k + 1, h => by
    have h1 := s16_pos k (fun j hj => h j (by omega))
    have h2 := h k (by omega)
    show 0 ≤ s16 f k + (f k).toInt
    omega
theorem s16_out {f : Nat → Int32} {j : Nat} {x : Int32} : ∀ k : Nat, k ≤ j → s16 (upd f j x) k = s16 f k
  | 0, _ => rfl
  | k + 1, h => by
    have h1 := s16_out (f := f) (j := j) (x := x) k (by omega)
    show s16 (upd f j x) k + (upd f j x k).toInt = s16 f k + (f k).toInt
    rw [h1]
    unfold upd
    rw [if_neg (by omega)]
theorem s16_upd {f : Nat → Int32} {j : Nat} {x : Int32} : ∀ k : Nat, j < k → s16 (upd f j x) k = s16 f k + (x.toInt - (f j).toInt)
  | 0, h => absurd h (Nat.not_lt_zero _)
  | k + 1, h => by
    show s16 (upd f j x) k + (upd f j x k).toInt = s16 f k + (f k).toInt + (x.toInt - (f j).toInt)
    by_cases e : j = k
    · subst e
      rw [s16_out j (Nat.le_refl _)]
      have : upd f j x j = x := by unfold upd; rw [if_pos rfl]
      rw [this]
      omega
    · rw [s16_upd k (by omega)]
      have : upd f j x k = f k := by unfold upd; rw [if_neg (fun q => e q.symm)]
      rw [this]
      omega
noncomputable def cI (h g : qm_H) : Prop := mi g ∧ sm g ∧ zs g ∧ rw_ g ∧ owb (g 45) 100 ∧ (∀ k, (k < 39 ∨ 46 < k ∨ k = 40 ∨ k = 42 ∨ k = 43 ∨ k = 44) → g k = h k) ∧ ((g 39 9).toInt = (h 39 9).toInt ∧ (g 39 14).toInt = (h 39 14).toInt ∧ g 39 3 = h 39 3)
set_option maxRecDepth 100000 in
set_option maxHeartbeats 4000000 in
theorem sg_204_c (X : qm_X) (h : qm_H) (Q : qm_Q) (hq : ∀ (r : Int32) (h' : qm_H), (mi h' ∧ sm h' ∧ zs h' ∧ rw_ h' ∧ (∀ k, (k < 39 ∨ 46 < k ∨ k = 40 ∨ k = 42 ∨ k = 43 ∨ k = 44) → h' k = h k) ∧ ((h' 39 9).toInt = (h 39 9).toInt ∧ (h' 39 14).toInt = (h 39 14).toInt ∧ h' 39 3 = h 39 3)) → Q (some (.int r)) h') : ∀ n : Nat, (∀ (l1 : Int32) (g : qm_H), cI h g → ((s16 (g 45) 16) * 100 + 50).toNat < n → qm_PA X 204 6 [(0, .ref 39), (1, .int l1)] [] g Q) ∧ (∀ (l1 l2 l3 : Int32) (g : qm_H) (m c : Nat), (cI h g ∧ (g 39 19).toInt = m ∧ (2 ≤ m ∧ m ≤ 4) ∧ rg (g 46) m c ∧ dst m c ∧ (1 ≤ l2.toInt ∧ l2.toInt ≤ 100) ∧ (0 ≤ l3.toInt ∧ l3.toInt ≤ m) ∧ ∀ j : Nat, l3.toInt ≤ (j : Int) → j < m → l2.toInt ≤ (g 45 (pz m c j)).toInt) → ((s16 (g 45) 16) * 100 + 40 + 20 * l3.toInt).toNat < n → qm_PA X 204 38 [(0, .ref 39), (1, .int l1), (2, .int l2), (3, .int l3)] [] g Q) := by
  intro n
  induction n with
  | zero => exact ⟨fun _ _ _ h0 => absurd h0 (Nat.not_lt_zero _), fun _ _ _ _ _ _ _ h0 => absurd h0 (Nat.not_lt_zero _)⟩
  | succ n ih =>
    refine ⟨?_, ?_⟩
    · intro l1 g hi hr
      have hs0 := s16_pos (f := g 45) 16 (fun j hj => (hi.2.2.2.2.1 j hj).1)
      refine qm_seg_ok (C := qc_204) (rt := some .int) rfl rfl (cuts := [(6, [0, 1]), (38, [0, 1, 2, 3])]) 400 _ _ _ _ ?_
      show qm_PW X 201 [.ref 39] g _
      refine sg_201 X g ⟨hi.1, hi.2.2.2.1, hi.2.2.2.2.1⟩ _ (fun r g1 p1 => ?_)
      obtain ⟨⟨a1, a2, a3, a4, a5, a6⟩, b1, b2⟩ := p1
      have s1 : sm g1 := by unfold sm; rw [a5 40 (by decide) (by decide)]; exact hi.2.1
      have z1 : zs g1 := by unfold zs; rw [a5 49 (by decide) (by decide)]; exact hi.2.2.1
      have f1 : ∀ k, (k < 39 ∨ 46 < k ∨ k = 40 ∨ k = 42 ∨ k = 43 ∨ k = 44) → g1 k = h k := fun k hk => (a5 k (by omega) (by omega)).trans (hi.2.2.2.2.2.1 k hk)
      have t1 : (g1 39 9).toInt = (h 39 9).toInt ∧ (g1 39 14).toInt = (h 39 14).toInt ∧ g1 39 3 = h 39 3 := ⟨by rw [a6 9 (by decide) (by decide) (by decide)]; exact hi.2.2.2.2.2.2.1, by rw [a6 14 (by decide) (by decide) (by decide)]; exact hi.2.2.2.2.2.2.2.1, by rw [a6 3 (by decide) (by decide) (by decide)]; exact hi.2.2.2.2.2.2.2.2⟩
      show (r = 0 → (Q (some (.int l1)) g1)) ∧ (¬ r = 0 → (qm_PW X 198 [.ref 39, .int (g1 39 20), .int (g1 39 19)] g1 _))
      refine ⟨fun _ => hq l1 g1 ⟨a1, s1, z1, a2, f1, t1⟩, fun cr => ?_⟩
      obtain ⟨m, c, v, c1, c2, c3, c4, c5, c6, c7, c8⟩ := a4.2 (b2 cr)
      refine sg_198 X g1 (g1 39 20) (g1 39 19) ⟨a2, by omega, by omega⟩ _ (fun r1 g2 p2 => ?_)
      obtain ⟨w1, w2, w3, -, -⟩ := p2
      have em : (g1 39 19).toInt.toNat = m := by omega
      have ec : (g1 39 20).toInt.toNat = c := by omega
      rw [em, ec] at w3
      show ¬ (g2 39 19) = 0 ∧ (qm_PA X 204 38 [(0, .ref 39), (1, .int l1), (2, .int ((g2 39 18) / (g2 39 19))), (3, .int 0)] [] g2 Q)
      rw [w2 39 (by decide)]
      refine ⟨fun e => by rw [e] at c1; have : (0 : Int32).toInt = 0 := rfl; omega, ?_⟩
      have ev : ((g1 39 18) / (g1 39 19)).toInt = v := by
        rw [ti_div (g1 39 19) m c1 (g1 39 18) (by omega) a4.1, c7]
        exact Int.mul_ediv_cancel_left v (by omega)
      have o0 := c8 0 (by omega)
      have o1 := a3 (pz m c 0) (pz_lt _ _ _)
      have e45 : g2 45 = g 45 := (w2 45 (by decide)).trans (a5 45 (by decide) (by decide))
      have e45' : g1 45 = g 45 := a5 45 (by decide) (by decide)
      have z0 : (0 : Int32).toInt = 0 := rfl
      refine ih.2 l1 ((g1 39 18) / (g1 39 19)) 0 g2 m c ⟨⟨?_, ?_, ?_, w1, ?_, fun k hk => (w2 k (by omega)).trans (f1 k hk), by rw [w2 39 (by decide)]; exact t1⟩, by rw [w2 39 (by decide)]; exact c1, ⟨c3, c4⟩, w3, c5, by omega, by omega, fun j j0 j1 => ?_⟩ ?_
      · unfold mi; rw [w2 39 (by decide)]; exact a1
      · unfold sm; rw [w2 40 (by decide)]; exact s1
      · unfold zs; rw [w2 49 (by decide)]; exact z1
      · rw [w2 45 (by decide)]; exact a3
      · rw [ev, w2 45 (by decide)]; exact c8 j j1
      · rw [e45]; omega
    · intro l1 l2 l3 g m c ⟨hi, h19, hm, hg, hd, h2, h3, ho⟩ hr
      have hb := hi.2.2.2.2.1
      have hs0 := s16_pos (f := g 45) 16 (fun j hj => (hb j hj).1)
      refine qm_seg_ok (C := qc_204) (rt := some .int) rfl rfl (cuts := [(6, [0, 1]), (38, [0, 1, 2, 3])]) 400 _ _ _ _ ?_
      show ((g 39 19).toInt ≤ l3.toInt → (qm_PA X 204 6 [(0, .ref 39), (1, .int (l1 + 1))] [] g Q)) ∧ (l3.toInt < (g 39 19).toInt → ((0 ≤ l3.toInt ∧ l3.toInt < 4) ∧ (¬ (g 39 19) = 0 ∧ ((0 ≤ ((l3 + 1) - (l3 + 1) / (g 39 19) * (g 39 19)).toInt ∧ ((l3 + 1) - (l3 + 1) / (g 39 19) * (g 39 19)).toInt < 4) ∧ ((0 ≤ ((4 * (g 46 l3.toInt.toNat)) + (g 46 ((l3 + 1) - (l3 + 1) / (g 39 19) * (g 39 19)).toInt.toNat)).toInt ∧ ((4 * (g 46 l3.toInt.toNat)) + (g 46 ((l3 + 1) - (l3 + 1) / (g 39 19) * (g 39 19)).toInt.toNat)).toInt < 16) ∧ ((0 ≤ ((4 * (g 46 l3.toInt.toNat)) + (g 46 ((l3 + 1) - (l3 + 1) / (g 39 19) * (g 39 19)).toInt.toNat)).toInt ∧ ((4 * (g 46 l3.toInt.toNat)) + (g 46 ((l3 + 1) - (l3 + 1) / (g 39 19) * (g 39 19)).toInt.toNat)).toInt < 16) ∧ (qm_PA X 204 38 [(0, .ref 39), (1, .int l1), (2, .int l2), (3, .int (l3 + 1))] [] (qm_row g 45 (upd (g 45) ((4 * (g 46 l3.toInt.toNat)) + (g 46 ((l3 + 1) - (l3 + 1) / (g 39 19) * (g 39 19)).toInt.toNat)).toInt.toNat ((g 45 ((4 * (g 46 l3.toInt.toNat)) + (g 46 ((l3 + 1) - (l3 + 1) / (g 39 19) * (g 39 19)).toInt.toNat)).toInt.toNat) - l2))) Q)))))))
      refine ⟨fun _ => ih.1 (l1 + 1) g hi (by omega), fun cc => ?_⟩
      have e1 := ti_addK l3 (1 : Int32) 1 rfl (by omega)
      obtain ⟨⟨r1, r2⟩, r3⟩ := rg_at (i := l3) (m := g 39 19) hg h19 hm.1 hm.2 h3.1 (by omega)
      refine ⟨by omega, fun e => by rw [e] at h19; have : (0 : Int32).toInt = 0 := rfl; omega, r1, r2, r2, ?_⟩
      rw [r3]
      have hl := pz_lt m c l3.toInt.toNat
      have o1 := ho l3.toInt.toNat (by omega) (by omega)
      have o2 := hb _ hl
      have es := ti_sub (g 45 (pz m c l3.toInt.toNat)) l2 (by omega)
      have eS := s16_upd (f := g 45) (x := (g 45 (pz m c l3.toInt.toNat)) - l2) 16 hl
      refine ih.2 l1 l2 (l3 + 1) _ m c ⟨⟨hi.1, hi.2.1, hi.2.2.1, hi.2.2.2.1, fun j hj => ?_, fun k hk => ?_, hi.2.2.2.2.2.2⟩, h19, hm, hg, hd, h2, by omega, fun j j0 j1 => ?_⟩ ?_
      · show 0 ≤ (upd (g 45) (pz m c l3.toInt.toNat) ((g 45 (pz m c l3.toInt.toNat)) - l2) j).toInt ∧ (upd (g 45) (pz m c l3.toInt.toNat) ((g 45 (pz m c l3.toInt.toNat)) - l2) j).toInt ≤ 100
        have := hb j hj
        unfold upd
        split
        · omega
        · omega
      · simp only [qm_row]
        rw [if_neg (by omega)]
        exact hi.2.2.2.2.2.1 k hk
      · show l2.toInt ≤ (upd (g 45) (pz m c l3.toInt.toNat) ((g 45 (pz m c l3.toInt.toNat)) - l2) (pz m c j)).toInt
        have hne := pz_ne (i := l3.toInt.toNat) (j := j) hd (by omega) j1
        unfold upd
        rw [if_neg (fun q => hne q.symm)]
        exact ho j (by omega) j1
      · show ((s16 (upd (g 45) (pz m c l3.toInt.toNat) ((g 45 (pz m c l3.toInt.toNat)) - l2)) 16) * 100 + 40 + 20 * (l3 + 1).toInt).toNat < n
        rw [eS]
        have hs1 : 0 ≤ s16 (g 45) 16 - l2.toInt := by
          have := s16_pos (f := upd (g 45) (pz m c l3.toInt.toNat) ((g 45 (pz m c l3.toInt.toNat)) - l2)) 16 (fun j hj => by
            have := hb j hj
            unfold upd
            split
            · omega
            · omega)
          rw [eS] at this
          omega
        omega
