-- ThreadBankModel.pays()I
set_option maxRecDepth 100000 in
set_option maxHeartbeats 4000000 in
theorem sf_209_39_c (X : qm_X) (h : qm_H) (hp : mi h ∧ sm h ∧ zs h ∧ rw_ h) (Q : qm_Q) (hq : ∀ r : Int32, ∀ h' : qm_H, (mi h' ∧ sm h' ∧ zs h' ∧ rw_ h' ∧ (∀ k, (k < 41 ∨ 47 < k ∨ k = 42 ∨ k = 43 ∨ k = 44) → h' k = h k)) → Q (some (.int r)) h') : ∀ n : Nat, (∀ (l1 : Int32) (l2 : Int32) (g : qm_H), (((0 ≤ l1.toInt ∧ l1.toInt ≤ 15) ∧ 0 ≤ l2.toInt ∧ l2.toInt ≤ 4) ∧ mi g ∧ sm g ∧ zs g ∧ rw_ g ∧ ∀ k, (k < 41 ∨ 47 < k ∨ k = 42 ∨ k = 43 ∨ k = 44) → g k = h k) → (100104 - l2.toInt).toNat < n → qm_PA X 209 8 [(0, .ref 39), (1, .int l1), (2, .int l2)] [] g Q) ∧ (∀ (l1 : Int32) (l2 : Int32) (g : qm_H), (((0 ≤ l1.toInt ∧ l1.toInt ≤ 15) ∧ 0 ≤ l2.toInt ∧ l2.toInt ≤ 16) ∧ mi g ∧ sm g ∧ zs g ∧ rw_ g ∧ ∀ k, (k < 41 ∨ 47 < k ∨ k = 42 ∨ k = 43 ∨ k = 44) → g k = h k) → ((16 - l2.toInt) * 1000 + 500).toNat < n → qm_PA X 209 45 [(0, .ref 39), (1, .int l1), (2, .int l2)] [] g Q) ∧ (∀ (l1 : Int32) (l2 : Int32) (l3 : Int32) (g : qm_H), (((0 ≤ l1.toInt ∧ l1.toInt ≤ 15) ∧ (0 ≤ l2.toInt ∧ l2.toInt ≤ 15) ∧ 1 ≤ l3.toInt ∧ l3.toInt ≤ 16) ∧ mi g ∧ sm g ∧ zs g ∧ rw_ g ∧ ∀ k, (k < 41 ∨ 47 < k ∨ k = 42 ∨ k = 43 ∨ k = 44) → g k = h k) → ((16 - l2.toInt) * 1000 + 400 - l3.toInt).toNat < n → qm_PA X 209 69 [(0, .ref 39), (1, .int l1), (2, .int l2), (3, .int l3)] [] g Q) := by
  have hmmi : mi h := hp.1
  have ⟨⟨_, _⟩, ⟨_, _⟩, ⟨_, _⟩, ⟨_, _⟩, _, _⟩ := hmmi
  have hmsm : sm h := hp.2.1
  have ⟨⟨⟨_, _⟩, _, _⟩, _, _, _⟩ := hmsm
  have hmzs : zs h := hp.2.2.1
  have hmrw : rw_ h := hp.2.2.2
  intro n
  induction n with
  | zero => exact ⟨fun _ _ _ _ h0 => absurd h0 (Nat.not_lt_zero _), fun _ _ _ _ h0 => absurd h0 (Nat.not_lt_zero _), fun _ _ _ _ _ h0 => absurd h0 (Nat.not_lt_zero _)⟩
  | succ n ih =>
    refine ⟨?_, ?_, ?_⟩
    · intro l1 l2 g hi hr
      obtain ⟨hi0, hgmi, hgsm, hgzs, hgrw, hgf⟩ := hi
      have ⟨⟨_, _⟩, ⟨_, _⟩, ⟨_, _⟩, ⟨_, _⟩, _, _⟩ := hgmi
      have ⟨⟨⟨_, _⟩, _, _⟩, _, _, _⟩ := hgsm
      refine qm_seg_ok (C := qc_209) (rt := some .int) rfl rfl (cuts := [(8, [0, 1, 2]), (45, [0, 1, 2]), (69, [0, 1, 2, 3])]) 400 _ _ _ _ ?_
      show ((g 39 3).toInt ≤ l2.toInt → (qm_PA X 209 45 [(0, .ref 39), (1, .int l1), (2, .int 0)] [] g Q)) ∧ (l2.toInt < (g 39 3).toInt → (qm_PW X 182 [.ref 39, .int l2] g _))
      refine ⟨fun c1 => ?_, fun c2 => ?_⟩
      · exact ih.2.1 l1 (0 : Int32) g ⟨(by have : (0 : Int32).toInt = 0 := rfl; show (0 ≤ l1.toInt ∧ l1.toInt ≤ 15) ∧ 0 ≤ (0 : Int32).toInt ∧ (0 : Int32).toInt ≤ 16; omega), hgmi, hgsm, hgzs, hgrw, (fun k hk => hgf k hk)⟩ (by have : (0 : Int32).toInt = 0 := rfl; show ((16 - (0 : Int32).toInt) * 1000 + 500).toNat < n; omega)
      · refine sf_182_39 X g l2 (by omega) _ (fun r3 p4 => ?_)
        show (r3 = 0 → (qm_PW X 142 [.int 0] g _)) ∧ (¬ r3 = 0 → (qm_PW X 142 [.int 1] g _))
        refine ⟨fun c5 => ?_, fun c6 => ?_⟩
        · refine sf_142 X g (0 : Int32) trivial _ (fun r7 p8 => ?_)
          show qm_PA X 209 8 [(0, .ref 39), (1, .int (l1 ||| (r7 <<< (l2 &&& 31)))), (2, .int (l2 + 1))] [] g Q
          exact ih.1 (l1 ||| (r7 <<< (l2 &&& 31))) (l2 + 1) g ⟨(by have := ti_addK l2 (1 : Int32) 1 rfl; first | decide | (refine ⟨or_leB hi0.1 (by assumption) (by omega), ?_⟩; omega)), hgmi, hgsm, hgzs, hgrw, (fun k hk => hgf k hk)⟩ (by have := ti_addK l2 (1 : Int32) 1 rfl; show (100104 - (l2 + 1).toInt).toNat < n; omega)
        · refine sf_142 X g (1 : Int32) trivial _ (fun r9 p10 => ?_)
          show qm_PA X 209 8 [(0, .ref 39), (1, .int (l1 ||| (r9 <<< (l2 &&& 31)))), (2, .int (l2 + 1))] [] g Q
          exact ih.1 (l1 ||| (r9 <<< (l2 &&& 31))) (l2 + 1) g ⟨(by have := ti_addK l2 (1 : Int32) 1 rfl; first | decide | (refine ⟨or_leB hi0.1 (by assumption) (by omega), ?_⟩; omega)), hgmi, hgsm, hgzs, hgrw, (fun k hk => hgf k hk)⟩ (by have := ti_addK l2 (1 : Int32) 1 rfl; show (100104 - (l2 + 1).toInt).toNat < n; omega)
    · intro l1 l2 g hi hr
      obtain ⟨hi0, hgmi, hgsm, hgzs, hgrw, hgf⟩ := hi
      have ⟨⟨_, _⟩, ⟨_, _⟩, ⟨_, _⟩, ⟨_, _⟩, _, _⟩ := hgmi
      have ⟨⟨⟨_, _⟩, _, _⟩, _, _, _⟩ := hgsm
      refine qm_seg_ok (C := qc_209) (rt := some .int) rfl rfl (cuts := [(8, [0, 1, 2]), (45, [0, 1, 2]), (69, [0, 1, 2, 3])]) 400 _ _ _ _ ?_
      show (16 ≤ l2.toInt → (qm_PW X 207 [.int l1] g _)) ∧ (l2.toInt < 16 → ((¬ l2 = 0 → ((0 ≤ l2.toInt ∧ l2.toInt < 16) ∧ (qm_PA X 209 69 [(0, .ref 39), (1, .int l1), (2, .int l2), (3, .int 1)] [] (qm_row g 47 (upd (g 47) l2.toInt.toNat (-4 : Int32))) Q))) ∧ (l2 = 0 → ((0 ≤ l2.toInt ∧ l2.toInt < 16) ∧ (qm_PA X 209 69 [(0, .ref 39), (1, .int l1), (2, .int l2), (3, .int 1)] [] (qm_row g 47 (upd (g 47) l2.toInt.toNat 0)) Q)))))
      refine ⟨fun c1 => ?_, fun c2 => ?_⟩
      · refine sf_207 X g l1 trivial _ (fun r3 p4 => ?_)
        show (0 ≤ l1.toInt ∧ l1.toInt < 16) ∧ (Q (some (.int (r3 - (g 47 l1.toInt.toNat)))) g)
        refine ⟨(by omega), ?_⟩
        exact hq (r3 - (g 47 l1.toInt.toNat)) g ⟨hgmi, hgsm, hgzs, hgrw, (fun k hk => hgf k hk)⟩
      · refine ⟨fun c5 => ?_, fun c6 => ?_⟩
        · refine ⟨(by omega), ?_⟩
          exact ih.2.2 l1 l2 (1 : Int32) (qm_row g 47 (upd (g 47) l2.toInt.toNat (-4 : Int32))) ⟨(by have : (1 : Int32).toInt = 1 := rfl; show (0 ≤ l1.toInt ∧ l1.toInt ≤ 15) ∧ (0 ≤ l2.toInt ∧ l2.toInt ≤ 15) ∧ 1 ≤ (1 : Int32).toInt ∧ (1 : Int32).toInt ≤ 16; omega), (by exact hgmi), (by exact hgsm), (by exact hgzs), (by exact hgrw), (fun k hk => by simp only [qm_row]; rw [if_neg (by omega)]; exact hgf k hk)⟩ (by have : (1 : Int32).toInt = 1 := rfl; show ((16 - l2.toInt) * 1000 + 400 - (1 : Int32).toInt).toNat < n; omega)
        · refine ⟨(by omega), ?_⟩
          exact ih.2.2 l1 l2 (1 : Int32) (qm_row g 47 (upd (g 47) l2.toInt.toNat 0)) ⟨(by have : (1 : Int32).toInt = 1 := rfl; show (0 ≤ l1.toInt ∧ l1.toInt ≤ 15) ∧ (0 ≤ l2.toInt ∧ l2.toInt ≤ 15) ∧ 1 ≤ (1 : Int32).toInt ∧ (1 : Int32).toInt ≤ 16; omega), (by exact hgmi), (by exact hgsm), (by exact hgzs), (by exact hgrw), (fun k hk => by simp only [qm_row]; rw [if_neg (by omega)]; exact hgf k hk)⟩ (by have : (1 : Int32).toInt = 1 := rfl; show ((16 - l2.toInt) * 1000 + 400 - (1 : Int32).toInt).toNat < n; omega)
    · intro l1 l2 l3 g hi hr
      obtain ⟨hi0, hgmi, hgsm, hgzs, hgrw, hgf⟩ := hi
      have ⟨⟨_, _⟩, ⟨_, _⟩, ⟨_, _⟩, ⟨_, _⟩, _, _⟩ := hgmi
      have ⟨⟨⟨_, _⟩, _, _⟩, _, _, _⟩ := hgsm
      refine qm_seg_ok (C := qc_209) (rt := some .int) rfl rfl (cuts := [(8, [0, 1, 2]), (45, [0, 1, 2]), (69, [0, 1, 2, 3])]) 400 _ _ _ _ ?_
      show (l2.toInt < l3.toInt → (qm_PA X 209 45 [(0, .ref 39), (1, .int l1), (2, .int (l2 + 1))] [] g Q)) ∧ (l3.toInt ≤ l2.toInt → ((¬ (l3 &&& (l2 ^^^ (-1 : Int32))) = 0 → (((0 : Int32) = 0 → ((0 ≤ l2.toInt ∧ l2.toInt < 16) ∧ ((0 ≤ l2.toInt ∧ l2.toInt < 16) ∧ (qm_PA X 209 69 [(0, .ref 39), (1, .int l1), (2, .int l2), (3, .int (l3 + 1))] [] (qm_row g 47 (upd (g 47) l2.toInt.toNat (g 47 l2.toInt.toNat))) Q)))) ∧ (¬ (0 : Int32) = 0 → ((0 ≤ (l2 &&& (l3 ^^^ (-1 : Int32))).toInt ∧ (l2 &&& (l3 ^^^ (-1 : Int32))).toInt < 16) ∧ ((0 ≤ l2.toInt ∧ l2.toInt < 16) ∧ ((((g 47 (l2 &&& (l3 ^^^ (-1 : Int32))).toInt.toNat) + 1).toInt ≤ (g 47 l2.toInt.toNat).toInt → ((0 ≤ l2.toInt ∧ l2.toInt < 16) ∧ ((0 ≤ l2.toInt ∧ l2.toInt < 16) ∧ (qm_PA X 209 69 [(0, .ref 39), (1, .int l1), (2, .int l2), (3, .int (l3 + 1))] [] (qm_row g 47 (upd (g 47) l2.toInt.toNat (g 47 l2.toInt.toNat))) Q)))) ∧ ((g 47 l2.toInt.toNat).toInt < ((g 47 (l2 &&& (l3 ^^^ (-1 : Int32))).toInt.toNat) + 1).toInt → ((0 ≤ (l2 &&& (l3 ^^^ (-1 : Int32))).toInt ∧ (l2 &&& (l3 ^^^ (-1 : Int32))).toInt < 16) ∧ ((0 ≤ l2.toInt ∧ l2.toInt < 16) ∧ (qm_PA X 209 69 [(0, .ref 39), (1, .int l1), (2, .int l2), (3, .int (l3 + 1))] [] (qm_row g 47 (upd (g 47) l2.toInt.toNat ((g 47 (l2 &&& (l3 ^^^ (-1 : Int32))).toInt.toNat) + 1))) Q)))))))))) ∧ ((l3 &&& (l2 ^^^ (-1 : Int32))) = 0 → (qm_PW X 208 [.ref 39, .int l3] g _))))
      have hz9 := and_le l2 (l3 ^^^ (-1 : Int32)) hi0.2.1.1
      generalize l2 &&& (l3 ^^^ (-1 : Int32)) = z9 at hz9 ⊢
      refine ⟨fun c1 => ?_, fun c2 => ?_⟩
      · exact ih.2.1 l1 (l2 + 1) g ⟨(by have := ti_addK l2 (1 : Int32) 1 rfl; show (0 ≤ l1.toInt ∧ l1.toInt ≤ 15) ∧ 0 ≤ (l2 + 1).toInt ∧ (l2 + 1).toInt ≤ 16; omega), hgmi, hgsm, hgzs, hgrw, (fun k hk => hgf k hk)⟩ (by have := ti_addK l2 (1 : Int32) 1 rfl; show ((16 - (l2 + 1).toInt) * 1000 + 500).toNat < n; omega)
      · refine ⟨fun c3 => ?_, fun c4 => ?_⟩
        · refine ⟨fun c5 => ?_, fun c6 => ?_⟩
          · refine ⟨(by omega), ?_⟩
            refine ⟨(by omega), ?_⟩
            exact ih.2.2 l1 l2 (l3 + 1) (qm_row g 47 (upd (g 47) l2.toInt.toNat (g 47 l2.toInt.toNat))) ⟨(by have := ti_addK l3 (1 : Int32) 1 rfl; show (0 ≤ l1.toInt ∧ l1.toInt ≤ 15) ∧ (0 ≤ l2.toInt ∧ l2.toInt ≤ 15) ∧ 1 ≤ (l3 + 1).toInt ∧ (l3 + 1).toInt ≤ 16; omega), (by exact hgmi), (by exact hgsm), (by exact hgzs), (by exact hgrw), (fun k hk => by simp only [qm_row]; rw [if_neg (by omega)]; exact hgf k hk)⟩ (by have := ti_addK l3 (1 : Int32) 1 rfl; show ((16 - l2.toInt) * 1000 + 400 - (l3 + 1).toInt).toNat < n; omega)
          · exact absurd c6 (by decide)
        · refine sf_208_39 X g l3 hgmi _ (fun r9 p10 => ?_)
          show (¬ r9 = 0 → (((0 : Int32) = 0 → ((0 ≤ l2.toInt ∧ l2.toInt < 16) ∧ ((0 ≤ l2.toInt ∧ l2.toInt < 16) ∧ (qm_PA X 209 69 [(0, .ref 39), (1, .int l1), (2, .int l2), (3, .int (l3 + 1))] [] (qm_row g 47 (upd (g 47) l2.toInt.toNat (g 47 l2.toInt.toNat))) Q)))) ∧ (¬ (0 : Int32) = 0 → ((0 ≤ (l2 &&& (l3 ^^^ (-1 : Int32))).toInt ∧ (l2 &&& (l3 ^^^ (-1 : Int32))).toInt < 16) ∧ ((0 ≤ l2.toInt ∧ l2.toInt < 16) ∧ ((((g 47 (l2 &&& (l3 ^^^ (-1 : Int32))).toInt.toNat) + 1).toInt ≤ (g 47 l2.toInt.toNat).toInt → ((0 ≤ l2.toInt ∧ l2.toInt < 16) ∧ ((0 ≤ l2.toInt ∧ l2.toInt < 16) ∧ (qm_PA X 209 69 [(0, .ref 39), (1, .int l1), (2, .int l2), (3, .int (l3 + 1))] [] (qm_row g 47 (upd (g 47) l2.toInt.toNat (g 47 l2.toInt.toNat))) Q)))) ∧ ((g 47 l2.toInt.toNat).toInt < ((g 47 (l2 &&& (l3 ^^^ (-1 : Int32))).toInt.toNat) + 1).toInt → ((0 ≤ (l2 &&& (l3 ^^^ (-1 : Int32))).toInt ∧ (l2 &&& (l3 ^^^ (-1 : Int32))).toInt < 16) ∧ ((0 ≤ l2.toInt ∧ l2.toInt < 16) ∧ (qm_PA X 209 69 [(0, .ref 39), (1, .int l1), (2, .int l2), (3, .int (l3 + 1))] [] (qm_row g 47 (upd (g 47) l2.toInt.toNat ((g 47 (l2 &&& (l3 ^^^ (-1 : Int32))).toInt.toNat) + 1))) Q)))))))))) ∧ (r9 = 0 → ((0 ≤ (l2 &&& (l3 ^^^ (-1 : Int32))).toInt ∧ (l2 &&& (l3 ^^^ (-1 : Int32))).toInt < 16) ∧ (((g 47 (l2 &&& (l3 ^^^ (-1 : Int32))).toInt.toNat).toInt < 0 → (((0 : Int32) = 0 → ((0 ≤ l2.toInt ∧ l2.toInt < 16) ∧ ((0 ≤ l2.toInt ∧ l2.toInt < 16) ∧ (qm_PA X 209 69 [(0, .ref 39), (1, .int l1), (2, .int l2), (3, .int (l3 + 1))] [] (qm_row g 47 (upd (g 47) l2.toInt.toNat (g 47 l2.toInt.toNat))) Q)))) ∧ (¬ (0 : Int32) = 0 → ((0 ≤ (l2 &&& (l3 ^^^ (-1 : Int32))).toInt ∧ (l2 &&& (l3 ^^^ (-1 : Int32))).toInt < 16) ∧ ((0 ≤ l2.toInt ∧ l2.toInt < 16) ∧ ((((g 47 (l2 &&& (l3 ^^^ (-1 : Int32))).toInt.toNat) + 1).toInt ≤ (g 47 l2.toInt.toNat).toInt → ((0 ≤ l2.toInt ∧ l2.toInt < 16) ∧ ((0 ≤ l2.toInt ∧ l2.toInt < 16) ∧ (qm_PA X 209 69 [(0, .ref 39), (1, .int l1), (2, .int l2), (3, .int (l3 + 1))] [] (qm_row g 47 (upd (g 47) l2.toInt.toNat (g 47 l2.toInt.toNat))) Q)))) ∧ ((g 47 l2.toInt.toNat).toInt < ((g 47 (l2 &&& (l3 ^^^ (-1 : Int32))).toInt.toNat) + 1).toInt → ((0 ≤ (l2 &&& (l3 ^^^ (-1 : Int32))).toInt ∧ (l2 &&& (l3 ^^^ (-1 : Int32))).toInt < 16) ∧ ((0 ≤ l2.toInt ∧ l2.toInt < 16) ∧ (qm_PA X 209 69 [(0, .ref 39), (1, .int l1), (2, .int l2), (3, .int (l3 + 1))] [] (qm_row g 47 (upd (g 47) l2.toInt.toNat ((g 47 (l2 &&& (l3 ^^^ (-1 : Int32))).toInt.toNat) + 1))) Q)))))))))) ∧ (0 ≤ (g 47 (l2 &&& (l3 ^^^ (-1 : Int32))).toInt.toNat).toInt → (((1 : Int32) = 0 → ((0 ≤ l2.toInt ∧ l2.toInt < 16) ∧ ((0 ≤ l2.toInt ∧ l2.toInt < 16) ∧ (qm_PA X 209 69 [(0, .ref 39), (1, .int l1), (2, .int l2), (3, .int (l3 + 1))] [] (qm_row g 47 (upd (g 47) l2.toInt.toNat (g 47 l2.toInt.toNat))) Q)))) ∧ (¬ (1 : Int32) = 0 → ((0 ≤ (l2 &&& (l3 ^^^ (-1 : Int32))).toInt ∧ (l2 &&& (l3 ^^^ (-1 : Int32))).toInt < 16) ∧ ((0 ≤ l2.toInt ∧ l2.toInt < 16) ∧ ((((g 47 (l2 &&& (l3 ^^^ (-1 : Int32))).toInt.toNat) + 1).toInt ≤ (g 47 l2.toInt.toNat).toInt → ((0 ≤ l2.toInt ∧ l2.toInt < 16) ∧ ((0 ≤ l2.toInt ∧ l2.toInt < 16) ∧ (qm_PA X 209 69 [(0, .ref 39), (1, .int l1), (2, .int l2), (3, .int (l3 + 1))] [] (qm_row g 47 (upd (g 47) l2.toInt.toNat (g 47 l2.toInt.toNat))) Q)))) ∧ ((g 47 l2.toInt.toNat).toInt < ((g 47 (l2 &&& (l3 ^^^ (-1 : Int32))).toInt.toNat) + 1).toInt → ((0 ≤ (l2 &&& (l3 ^^^ (-1 : Int32))).toInt ∧ (l2 &&& (l3 ^^^ (-1 : Int32))).toInt < 16) ∧ ((0 ≤ l2.toInt ∧ l2.toInt < 16) ∧ (qm_PA X 209 69 [(0, .ref 39), (1, .int l1), (2, .int l2), (3, .int (l3 + 1))] [] (qm_row g 47 (upd (g 47) l2.toInt.toNat ((g 47 (l2 &&& (l3 ^^^ (-1 : Int32))).toInt.toNat) + 1))) Q)))))))))))))
          have hz9 := and_le l2 (l3 ^^^ (-1 : Int32)) hi0.2.1.1
          generalize l2 &&& (l3 ^^^ (-1 : Int32)) = z9 at hz9 ⊢
          refine ⟨fun c11 => ?_, fun c12 => ?_⟩
          · refine ⟨fun c13 => ?_, fun c14 => ?_⟩
            · refine ⟨(by omega), ?_⟩
              refine ⟨(by omega), ?_⟩
              exact ih.2.2 l1 l2 (l3 + 1) (qm_row g 47 (upd (g 47) l2.toInt.toNat (g 47 l2.toInt.toNat))) ⟨(by have := ti_addK l3 (1 : Int32) 1 rfl; show (0 ≤ l1.toInt ∧ l1.toInt ≤ 15) ∧ (0 ≤ l2.toInt ∧ l2.toInt ≤ 15) ∧ 1 ≤ (l3 + 1).toInt ∧ (l3 + 1).toInt ≤ 16; omega), (by exact hgmi), (by exact hgsm), (by exact hgzs), (by exact hgrw), (fun k hk => by simp only [qm_row]; rw [if_neg (by omega)]; exact hgf k hk)⟩ (by have := ti_addK l3 (1 : Int32) 1 rfl; show ((16 - l2.toInt) * 1000 + 400 - (l3 + 1).toInt).toNat < n; omega)
            · exact absurd c14 (by decide)
          · refine ⟨(by omega), ?_⟩
            refine ⟨fun c17 => ?_, fun c18 => ?_⟩
            · refine ⟨fun c19 => ?_, fun c20 => ?_⟩
              · refine ⟨(by omega), ?_⟩
                refine ⟨(by omega), ?_⟩
                exact ih.2.2 l1 l2 (l3 + 1) (qm_row g 47 (upd (g 47) l2.toInt.toNat (g 47 l2.toInt.toNat))) ⟨(by have := ti_addK l3 (1 : Int32) 1 rfl; show (0 ≤ l1.toInt ∧ l1.toInt ≤ 15) ∧ (0 ≤ l2.toInt ∧ l2.toInt ≤ 15) ∧ 1 ≤ (l3 + 1).toInt ∧ (l3 + 1).toInt ≤ 16; omega), (by exact hgmi), (by exact hgsm), (by exact hgzs), (by exact hgrw), (fun k hk => by simp only [qm_row]; rw [if_neg (by omega)]; exact hgf k hk)⟩ (by have := ti_addK l3 (1 : Int32) 1 rfl; show ((16 - l2.toInt) * 1000 + 400 - (l3 + 1).toInt).toNat < n; omega)
              · exact absurd c20 (by decide)
            · refine ⟨fun c23 => ?_, fun c24 => ?_⟩
              · exact absurd c23 (by decide)
              · refine ⟨(by omega), ?_⟩
                refine ⟨(by omega), ?_⟩
                refine ⟨fun c25 => ?_, fun c26 => ?_⟩
                · refine ⟨(by have := ti_addK (g 47 z9.toInt.toNat) (1 : Int32) 1 rfl; omega), ?_⟩
                  refine ⟨(by have := ti_addK (g 47 z9.toInt.toNat) (1 : Int32) 1 rfl; omega), ?_⟩
                  exact ih.2.2 l1 l2 (l3 + 1) (qm_row g 47 (upd (g 47) l2.toInt.toNat (g 47 l2.toInt.toNat))) ⟨(by have := ti_addK l3 (1 : Int32) 1 rfl; have := ti_addK (g 47 z9.toInt.toNat) (1 : Int32) 1 rfl; show (0 ≤ l1.toInt ∧ l1.toInt ≤ 15) ∧ (0 ≤ l2.toInt ∧ l2.toInt ≤ 15) ∧ 1 ≤ (l3 + 1).toInt ∧ (l3 + 1).toInt ≤ 16; omega), (by exact hgmi), (by exact hgsm), (by exact hgzs), (by exact hgrw), (fun k hk => by simp only [qm_row]; rw [if_neg (by omega)]; exact hgf k hk)⟩ (by have := ti_addK l3 (1 : Int32) 1 rfl; have := ti_addK (g 47 z9.toInt.toNat) (1 : Int32) 1 rfl; show ((16 - l2.toInt) * 1000 + 400 - (l3 + 1).toInt).toNat < n; omega)
                · refine ⟨(by have := ti_addK (g 47 z9.toInt.toNat) (1 : Int32) 1 rfl; omega), ?_⟩
                  refine ⟨(by have := ti_addK (g 47 z9.toInt.toNat) (1 : Int32) 1 rfl; omega), ?_⟩
                  exact ih.2.2 l1 l2 (l3 + 1) (qm_row g 47 (upd (g 47) l2.toInt.toNat ((g 47 z9.toInt.toNat) + 1))) ⟨(by have := ti_addK l3 (1 : Int32) 1 rfl; have := ti_addK (g 47 z9.toInt.toNat) (1 : Int32) 1 rfl; show (0 ≤ l1.toInt ∧ l1.toInt ≤ 15) ∧ (0 ≤ l2.toInt ∧ l2.toInt ≤ 15) ∧ 1 ≤ (l3 + 1).toInt ∧ (l3 + 1).toInt ≤ 16; omega), (by exact hgmi), (by exact hgsm), (by exact hgzs), (by exact hgrw), (fun k hk => by simp only [qm_row]; rw [if_neg (by omega)]; exact hgf k hk)⟩ (by have := ti_addK l3 (1 : Int32) 1 rfl; have := ti_addK (g 47 z9.toInt.toNat) (1 : Int32) 1 rfl; show ((16 - l2.toInt) * 1000 + 400 - (l3 + 1).toInt).toNat < n; omega)
set_option maxRecDepth 100000 in
set_option maxHeartbeats 4000000 in
theorem sf_209_39 (X : qm_X) (h : qm_H) (hp : mi h ∧ sm h ∧ zs h ∧ rw_ h) (Q : qm_Q) (hq : ∀ r : Int32, ∀ h' : qm_H, (mi h' ∧ sm h' ∧ zs h' ∧ rw_ h' ∧ (∀ k, (k < 41 ∨ 47 < k ∨ k = 42 ∨ k = 43 ∨ k = 44) → h' k = h k)) → Q (some (.int r)) h') : qm_PW X 209 [.ref 39] h Q := by
  have hmmi : mi h := hp.1
  have ⟨⟨_, _⟩, ⟨_, _⟩, ⟨_, _⟩, ⟨_, _⟩, _, _⟩ := hmmi
  have hmsm : sm h := hp.2.1
  have ⟨⟨⟨_, _⟩, _, _⟩, _, _, _⟩ := hmsm
  have hmzs : zs h := hp.2.2.1
  have hmrw : rw_ h := hp.2.2.2
  refine qm_seg_ok (C := qc_209) (rt := some .int) rfl rfl (cuts := [(8, [0, 1, 2]), (45, [0, 1, 2]), (69, [0, 1, 2, 3])]) 400 _ _ _ _ ?_
  show qm_PW X 202 [.ref 39] h _
  refine sf_202_39 X h  ⟨hmmi, hmsm, hmzs, hmrw⟩ _ (fun g1 p2 => ?_)
  have f3 : ∀ k, (k < 41 ∨ 47 < k ∨ k = 42 ∨ k = 43 ∨ k = 44) → g1 k = h k := fun k hk => (p2.2.2.2.2 k (by omega)).trans (rfl)
  show qm_PA X 209 8 [(0, .ref 39), (1, .int 0), (2, .int 0)] [] g1 Q
  exact (sf_209_39_c X h hp Q hq _).1 (0 : Int32) (0 : Int32) g1 ⟨(by have : (0 : Int32).toInt = 0 := rfl; first | decide | (refine ⟨or_leB hi0.1 (by assumption) (by omega), ?_⟩; omega)), p2.1, p2.2.1, p2.2.2.1, p2.2.2.2.1, (fun k hk => f3 k hk)⟩ (Nat.lt_succ_self _)
