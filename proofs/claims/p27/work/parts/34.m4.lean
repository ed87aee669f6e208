-- ThreadBankModel.torn()I
set_option maxRecDepth 100000 in
set_option maxHeartbeats 4000000 in
theorem sf_237_39 (X : qm_X) (h : qm_H) (hp : True) (Q : qm_Q) (hq : ∀ r : Int32, (True) → Q (some (.int r)) h) : qm_PW X 237 [.ref 39] h Q := by
  refine qm_seg_ok (C := qc_237) (rt := some .int) rfl rfl (cuts := []) 400 _ _ _ _ ?_
  show Q (some (.int (h 39 25))) h
  exact hq (h 39 25) trivial
-- ThreadBankModel.rule(I)I
set_option maxRecDepth 100000 in
set_option maxHeartbeats 4000000 in
theorem sf_184_39_c (X : qm_X) (h : qm_H) (a : Int32) (hp : mi h ∧ sm h ∧ zs h ∧ rw_ h) (Q : qm_Q) (hq : ∀ r : Int32, ∀ h' : qm_H, (mi h' ∧ sm h' ∧ zs h' ∧ rw_ h' ∧ (∀ k, (k < 41 ∨ 41 < k) → h' k = h k)) → Q (some (.int r)) h') : ∀ n : Nat, (∀ (l2 : Int32) (l3 : Int32) (l4 : Int32) (g : qm_H), ((0 ≤ l4.toInt ∧ l4.toInt ≤ 4) ∧ mi g ∧ sm g ∧ zs g ∧ rw_ g ∧ am g ∧ ∀ k, (k < 41 ∨ 41 < k) → g k = h k) → ((4 - l4.toInt) * 100 + 50).toNat < n → qm_PA X 184 11 [(0, .ref 39), (1, .int a), (2, .int l2), (3, .int l3), (4, .int l4)] [] g Q) ∧ (∀ (l2 : Int32) (l3 : Int32) (l4 : Int32) (l5 : Int32) (g : qm_H), ((0 ≤ l4.toInt ∧ l4.toInt ≤ 3 ∧ 0 ≤ l5.toInt ∧ l5.toInt ≤ 5) ∧ mi g ∧ sm g ∧ zs g ∧ rw_ g ∧ am g ∧ ∀ k, (k < 41 ∨ 41 < k) → g k = h k) → ((4 - l4.toInt) * 100 + 40 - l5.toInt).toNat < n → qm_PA X 184 32 [(0, .ref 39), (1, .int a), (2, .int l2), (3, .int l3), (4, .int l4), (5, .int l5)] [] g Q) := by
  have hmmi : mi h := hp.1
  have ⟨⟨_, _⟩, ⟨_, _⟩, ⟨_, _⟩, ⟨_, _⟩, _, _⟩ := hmmi
  have hmsm : sm h := hp.2.1
  have ⟨⟨⟨_, _⟩, _, _⟩, _, _, _⟩ := hmsm
  have hmzs : zs h := hp.2.2.1
  have hmrw : rw_ h := hp.2.2.2
  intro n
  induction n with
  | zero => exact ⟨fun _ _ _ _ _ h0 => absurd h0 (Nat.not_lt_zero _), fun _ _ _ _ _ _ h0 => absurd h0 (Nat.not_lt_zero _)⟩
  | succ n ih =>
    refine ⟨?_, ?_⟩
    · intro l2 l3 l4 g hi hr
      obtain ⟨hi0, hgmi, hgsm, hgzs, hgrw, hgam, hgf⟩ := hi
      have ⟨⟨_, _⟩, ⟨_, _⟩, ⟨_, _⟩, ⟨_, _⟩, _, _⟩ := hgmi
      have ⟨⟨⟨_, _⟩, _, _⟩, _, _, _⟩ := hgsm
      have ⟨⟨_, _⟩, ⟨_, _⟩, _, _, _⟩ := hgam
      refine qm_seg_ok (C := qc_184) (rt := some .int) rfl rfl (cuts := [(11, [0, 1, 2, 3, 4]), (32, [0, 1, 2, 3, 4, 5])]) 400 _ _ _ _ ?_
      show ((g 39 3).toInt ≤ l4.toInt → (((a = 0 → (Q (some (.int (g 39 3))) g)) ∧ (¬ a = 0 → ((a = 1 → ((0 ≤ (4 : Int) ∧ (4 : Int) < 147) ∧ (Q (some (.int (g 40 4))) g))) ∧ (¬ a = 1 → ((a = 2 → ((0 ≤ (5 : Int) ∧ (5 : Int) < 147) ∧ (Q (some (.int (g 40 5))) g))) ∧ (¬ a = 2 → ((a = 3 → (Q (some (.int l2)) g)) ∧ (¬ a = 3 → ((a = 4 → (Q (some (.int l3)) g)) ∧ (¬ a = 4 → (Q (some (.int (-1 : Int32))) g))))))))))))) ∧ (l4.toInt < (g 39 3).toInt → (qm_PW X 176 [.ref 39, .int l4] g _))
      refine ⟨fun c1 => ?_, fun c2 => ?_⟩
      · refine ⟨fun c3 => ?_, fun c4 => ?_⟩
        · exact hq (g 39 3) g ⟨hgmi, hgsm, hgzs, hgrw, (fun k hk => hgf k hk)⟩
        · refine ⟨fun c5 => ?_, fun c6 => ?_⟩
          · refine ⟨by decide, ?_⟩
            exact hq (g 40 4) g ⟨hgmi, hgsm, hgzs, hgrw, (fun k hk => hgf k hk)⟩
          · refine ⟨fun c7 => ?_, fun c8 => ?_⟩
            · refine ⟨by decide, ?_⟩
              exact hq (g 40 5) g ⟨hgmi, hgsm, hgzs, hgrw, (fun k hk => hgf k hk)⟩
            · refine ⟨fun c9 => ?_, fun c10 => ?_⟩
              · exact hq l2 g ⟨hgmi, hgsm, hgzs, hgrw, (fun k hk => hgf k hk)⟩
              · refine ⟨fun c11 => ?_, fun c12 => ?_⟩
                · exact hq l3 g ⟨hgmi, hgsm, hgzs, hgrw, (fun k hk => hgf k hk)⟩
                · exact hq (-1 : Int32) g ⟨hgmi, hgsm, hgzs, hgrw, (fun k hk => hgf k hk)⟩
      · refine sf_176_39 X g l4 ⟨hgam, (by omega)⟩ _ (fun r13 p14 => ?_)
        show qm_PA X 184 32 [(0, .ref 39), (1, .int a), (2, .int (l2 + r13)), (3, .int l3), (4, .int l4), (5, .int 0)] [] g Q
        exact ih.2 (l2 + r13) l3 l4 (0 : Int32) g ⟨(by have : (0 : Int32).toInt = 0 := rfl; show 0 ≤ l4.toInt ∧ l4.toInt ≤ 3 ∧ 0 ≤ (0 : Int32).toInt ∧ (0 : Int32).toInt ≤ 5; omega), hgmi, hgsm, hgzs, hgrw, hgam, (fun k hk => hgf k hk)⟩ (by have : (0 : Int32).toInt = 0 := rfl; show ((4 - l4.toInt) * 100 + 40 - (0 : Int32).toInt).toNat < n; omega)
    · intro l2 l3 l4 l5 g hi hr
      obtain ⟨hi0, hgmi, hgsm, hgzs, hgrw, hgam, hgf⟩ := hi
      have ⟨⟨_, _⟩, ⟨_, _⟩, ⟨_, _⟩, ⟨_, _⟩, _, _⟩ := hgmi
      have ⟨⟨⟨_, _⟩, _, _⟩, _, _, _⟩ := hgsm
      have ⟨⟨_, _⟩, ⟨_, _⟩, _, _, _⟩ := hgam
      refine qm_seg_ok (C := qc_184) (rt := some .int) rfl rfl (cuts := [(11, [0, 1, 2, 3, 4]), (32, [0, 1, 2, 3, 4, 5])]) 400 _ _ _ _ ?_
      show (5 ≤ l5.toInt → (qm_PA X 184 11 [(0, .ref 39), (1, .int a), (2, .int l2), (3, .int l3), (4, .int (l4 + 1))] [] g Q)) ∧ (l5.toInt < 5 → (qm_PW X 174 [.ref 39, .int ((10 * l4) + l5)] g _))
      refine ⟨fun c1 => ?_, fun c2 => ?_⟩
      · exact ih.1 l2 l3 (l4 + 1) g ⟨(by have := ti_addK l4 (1 : Int32) 1 rfl; show 0 ≤ (l4 + 1).toInt ∧ (l4 + 1).toInt ≤ 4; omega), hgmi, hgsm, hgzs, hgrw, hgam, (fun k hk => hgf k hk)⟩ (by have := ti_addK l4 (1 : Int32) 1 rfl; show ((4 - (l4 + 1).toInt) * 100 + 50).toNat < n; omega)
      · refine sf_174_39 X g ((10 * l4) + l5) hgam _ (fun r3 p4 => ?_)
        show (r3.toInt ≤ 0 → (qm_PW X 142 [.int 0] g _)) ∧ (0 < r3.toInt → (qm_PW X 142 [.int 1] g _))
        refine ⟨fun c5 => ?_, fun c6 => ?_⟩
        · refine sf_142 X g (0 : Int32) trivial _ (fun r7 p8 => ?_)
          show qm_PA X 184 32 [(0, .ref 39), (1, .int a), (2, .int l2), (3, .int (l3 + r7)), (4, .int l4), (5, .int (l5 + 1))] [] g Q
          exact ih.2 l2 (l3 + r7) l4 (l5 + 1) g ⟨(by have := ti_addK l5 (1 : Int32) 1 rfl; show 0 ≤ l4.toInt ∧ l4.toInt ≤ 3 ∧ 0 ≤ (l5 + 1).toInt ∧ (l5 + 1).toInt ≤ 5; omega), hgmi, hgsm, hgzs, hgrw, hgam, (fun k hk => hgf k hk)⟩ (by have := ti_addK l5 (1 : Int32) 1 rfl; show ((4 - l4.toInt) * 100 + 40 - (l5 + 1).toInt).toNat < n; omega)
        · refine sf_142 X g (1 : Int32) trivial _ (fun r9 p10 => ?_)
          show qm_PA X 184 32 [(0, .ref 39), (1, .int a), (2, .int l2), (3, .int (l3 + r9)), (4, .int l4), (5, .int (l5 + 1))] [] g Q
          exact ih.2 l2 (l3 + r9) l4 (l5 + 1) g ⟨(by have := ti_addK l5 (1 : Int32) 1 rfl; show 0 ≤ l4.toInt ∧ l4.toInt ≤ 3 ∧ 0 ≤ (l5 + 1).toInt ∧ (l5 + 1).toInt ≤ 5; omega), hgmi, hgsm, hgzs, hgrw, hgam, (fun k hk => hgf k hk)⟩ (by have := ti_addK l5 (1 : Int32) 1 rfl; show ((4 - l4.toInt) * 100 + 40 - (l5 + 1).toInt).toNat < n; omega)
set_option maxRecDepth 100000 in
set_option maxHeartbeats 4000000 in
theorem sf_184_39 (X : qm_X) (h : qm_H) (a : Int32) (hp : mi h ∧ sm h ∧ zs h ∧ rw_ h) (Q : qm_Q) (hq : ∀ r : Int32, ∀ h' : qm_H, (mi h' ∧ sm h' ∧ zs h' ∧ rw_ h' ∧ (∀ k, (k < 41 ∨ 41 < k) → h' k = h k)) → Q (some (.int r)) h') : qm_PW X 184 [.ref 39, .int a] h Q := by
  have hmmi : mi h := hp.1
  have ⟨⟨_, _⟩, ⟨_, _⟩, ⟨_, _⟩, ⟨_, _⟩, _, _⟩ := hmmi
  have hmsm : sm h := hp.2.1
  have ⟨⟨⟨_, _⟩, _, _⟩, _, _, _⟩ := hmsm
  have hmzs : zs h := hp.2.2.1
  have hmrw : rw_ h := hp.2.2.2
  refine qm_seg_ok (C := qc_184) (rt := some .int) rfl rfl (cuts := [(11, [0, 1, 2, 3, 4]), (32, [0, 1, 2, 3, 4, 5])]) 400 _ _ _ _ ?_
  show qm_PW X 169 [.ref 39] h _
  refine sf_169_39 X h  hmsm _ (fun g1 p2 => ?_)
  have f3 : ∀ k, (k < 41 ∨ 41 < k) → g1 k = h k := fun k hk => (p2.2.1 k (by omega)).trans (rfl)
  have k4 : mi g1 := by unfold mi; rw [p2.2.1 39 (by omega)]; exact hmmi
  have k5 : sm g1 := by unfold sm; rw [p2.2.1 40 (by omega)]; exact hmsm
  have k6 : zs g1 := by unfold zs; rw [p2.2.1 49 (by omega)]; exact hmzs
  have k7 : rw_ g1 := by unfold rw_; rw [p2.2.1 46 (by omega)]; exact hmrw
  show qm_PA X 184 11 [(0, .ref 39), (1, .int a), (2, .int 0), (3, .int 0), (4, .int 0)] [] g1 Q
  exact (sf_184_39_c X h a hp Q hq _).1 (0 : Int32) (0 : Int32) (0 : Int32) g1 ⟨(by have : (0 : Int32).toInt = 0 := rfl; show 0 ≤ (0 : Int32).toInt ∧ (0 : Int32).toInt ≤ 4; omega), k4, k5, k6, k7, p2.1, (fun k hk => f3 k hk)⟩ (Nat.lt_succ_self _)
-- ThreadBankModel.clerk(II)I
set_option maxRecDepth 100000 in
set_option maxHeartbeats 4000000 in
theorem sf_185_39 (X : qm_X) (h : qm_H) (a : Int32) (b : Int32) (hp : mi h ∧ sm h ∧ zs h ∧ rw_ h) (Q : qm_Q) (hq : ∀ r : Int32, ∀ h' : qm_H, (mi h' ∧ sm h' ∧ zs h' ∧ rw_ h' ∧ (∀ k, (k < 41 ∨ 45 < k ∨ k = 42 ∨ k = 43 ∨ k = 44) → h' k = h k)) → Q (some (.int r)) h') : qm_PW X 185 [.ref 39, .int a, .int b] h Q := by
  have hmmi : mi h := hp.1
  have ⟨⟨_, _⟩, ⟨_, _⟩, ⟨_, _⟩, ⟨_, _⟩, _, _⟩ := hmmi
  have hmsm : sm h := hp.2.1
  have ⟨⟨⟨_, _⟩, _, _⟩, _, _, _⟩ := hmsm
  have hmzs : zs h := hp.2.2.1
  have hmrw : rw_ h := hp.2.2.2
  refine qm_seg_ok (C := qc_185) (rt := some .int) rfl rfl (cuts := []) 400 _ _ _ _ ?_
  show qm_PW X 164 [.ref 39, .int a] h _
  refine sf_164_39 X h a hmmi _ (fun r1 p2 => ?_)
  show (¬ r1 = 0 → (qm_PW X 169 [.ref 39] h _)) ∧ (r1 = 0 → (Q (some (.int (-1 : Int32))) h))
  refine ⟨fun c3 => ?_, fun c4 => ?_⟩
  · have := p2.2 c3
    refine sf_169_39 X h  hmsm _ (fun g5 p6 => ?_)
    have f7 : ∀ k, (k < 41 ∨ 45 < k ∨ k = 42 ∨ k = 43 ∨ k = 44) → g5 k = h k := fun k hk => (p6.2.1 k (by omega)).trans (rfl)
    have k8 : mi g5 := by unfold mi; rw [p6.2.1 39 (by omega)]; exact hmmi
    have k9 : sm g5 := by unfold sm; rw [p6.2.1 40 (by omega)]; exact hmsm
    have k10 : zs g5 := by unfold zs; rw [p6.2.1 49 (by omega)]; exact hmzs
    have k11 : rw_ g5 := by unfold rw_; rw [p6.2.1 46 (by omega)]; exact hmrw
    show qm_PW X 180 [.ref 39, .int 9] g5 _
    refine sf_180_39 X g5 (9 : Int32) p6.1 _ (fun g12 p13 => ?_)
    have f14 : ∀ k, (k < 41 ∨ 45 < k ∨ k = 42 ∨ k = 43 ∨ k = 44) → g12 k = h k := fun k hk => (p13 k (by omega)).trans (f7 k hk)
    have k15 : mi g12 := by unfold mi; rw [p13 39 (by omega)]; exact k8
    have k16 : sm g12 := by unfold sm; rw [p13 40 (by omega)]; exact k9
    have k17 : zs g12 := by unfold zs; rw [p13 49 (by omega)]; exact k10
    have k18 : rw_ g12 := by unfold rw_; rw [p13 46 (by omega)]; exact k11
    have k19 : am g12 := by unfold am; rw [p13 41 (by omega)]; exact p6.1
    show ((b = 0 → ((0 ≤ (0 + a).toInt ∧ (0 + a).toInt < 147) ∧ (Q (some (.int (g12 40 (0 + a).toInt.toNat))) g12))) ∧ (¬ b = 0 → ((b = 1 → (qm_PW X 175 [.ref 39, .int a] g12 _)) ∧ (¬ b = 1 → ((b = 2 → (qm_PW X 176 [.ref 39, .int a] g12 _)) ∧ (¬ b = 2 → ((b = 3 → (qm_PW X 182 [.ref 39, .int a] g12 _)) ∧ (¬ b = 3 → (Q (some (.int (-1 : Int32))) g12)))))))))
    refine ⟨fun c20 => ?_, fun c21 => ?_⟩
    · refine ⟨(by have := ti_addL a (0 : Int32) 0 rfl; omega), ?_⟩
      exact hq (g12 40 (0 + a).toInt.toNat) g12 ⟨k15, k16, k17, k18, (fun k hk => f14 k hk)⟩
    · refine ⟨fun c22 => ?_, fun c23 => ?_⟩
      · refine sf_175_39 X g12 a k19 _ (fun r24 p25 => ?_)
        show Q (some (.int r24)) g12
        exact hq r24 g12 ⟨k15, k16, k17, k18, (fun k hk => f14 k hk)⟩
      · refine ⟨fun c26 => ?_, fun c27 => ?_⟩
        · refine sf_176_39 X g12 a ⟨k19, (by omega)⟩ _ (fun r28 p29 => ?_)
          show Q (some (.int r28)) g12
          exact hq r28 g12 ⟨k15, k16, k17, k18, (fun k hk => f14 k hk)⟩
        · refine ⟨fun c30 => ?_, fun c31 => ?_⟩
          · refine sf_182_39 X g12 a (by omega) _ (fun r32 p33 => ?_)
            show Q (some (.int (1000 + r32))) g12
            exact hq (1000 + r32) g12 ⟨k15, k16, k17, k18, (fun k hk => f14 k hk)⟩
          · exact hq (-1 : Int32) g12 ⟨k15, k16, k17, k18, (fun k hk => f14 k hk)⟩
  · exact hq (-1 : Int32) h ⟨hmmi, hmsm, hmzs, hmrw, (fun k hk => rfl)⟩
-- ThreadBankModel.finger(II)I
set_option maxRecDepth 100000 in
set_option maxHeartbeats 4000000 in
theorem sf_186_39 (X : qm_X) (h : qm_H) (a : Int32) (b : Int32) (hp : mi h ∧ sm h ∧ zs h ∧ rw_ h) (Q : qm_Q) (hq : ∀ r : Int32, ∀ h' : qm_H, (mi h' ∧ sm h' ∧ zs h' ∧ rw_ h' ∧ (∀ k, (k < 41 ∨ 41 < k) → h' k = h k)) → Q (some (.int r)) h') : qm_PW X 186 [.ref 39, .int a, .int b] h Q := by
  have hmmi : mi h := hp.1
  have ⟨⟨_, _⟩, ⟨_, _⟩, ⟨_, _⟩, ⟨_, _⟩, _, _⟩ := hmmi
  have hmsm : sm h := hp.2.1
  have ⟨⟨⟨_, _⟩, _, _⟩, _, _, _⟩ := hmsm
  have hmzs : zs h := hp.2.2.1
  have hmrw : rw_ h := hp.2.2.2
  refine qm_seg_ok (C := qc_186) (rt := some .int) rfl rfl (cuts := []) 400 _ _ _ _ ?_
  show qm_PW X 165 [.ref 39, .int a] h _
  refine sf_165_39 X h a hmmi _ (fun r1 p2 => ?_)
  show (r1 = 0 → (Q (some (.int (-1 : Int32))) h)) ∧ (¬ r1 = 0 → (qm_PW X 168 [.int b] h _))
  refine ⟨fun c3 => ?_, fun c4 => ?_⟩
  · exact hq (-1 : Int32) h ⟨hmmi, hmsm, hmzs, hmrw, (fun k hk => rfl)⟩
  · have := p2.2 c4
    refine sf_168 X h b trivial _ (fun r5 p6 => ?_)
    show (¬ r5 = 0 → (qm_PW X 169 [.ref 39] h _)) ∧ (r5 = 0 → (Q (some (.int (-1 : Int32))) h))
    refine ⟨fun c7 => ?_, fun c8 => ?_⟩
    · have := p6.2 c7
      refine sf_169_39 X h  hmsm _ (fun g9 p10 => ?_)
      have f11 : ∀ k, (k < 41 ∨ 41 < k) → g9 k = h k := fun k hk => (p10.2.1 k (by omega)).trans (rfl)
      have k12 : mi g9 := by unfold mi; rw [p10.2.1 39 (by omega)]; exact hmmi
      have k13 : sm g9 := by unfold sm; rw [p10.2.1 40 (by omega)]; exact hmsm
      have k14 : zs g9 := by unfold zs; rw [p10.2.1 49 (by omega)]; exact hmzs
      have k15 : rw_ g9 := by unfold rw_; rw [p10.2.1 46 (by omega)]; exact hmrw
      show (¬ b = 0 → (qm_PW X 174 [.ref 39, .int a] g9 _)) ∧ (b = 0 → (qm_PW X 173 [.ref 39, .int a] g9 _))
      refine ⟨fun c16 => ?_, fun c17 => ?_⟩
      · refine sf_174_39 X g9 a p10.1 _ (fun r18 p19 => ?_)
        show Q (some (.int r18)) g9
        exact hq r18 g9 ⟨k12, k13, k14, k15, (fun k hk => f11 k hk)⟩
      · refine sf_173_39 X g9 a ⟨p10.1, (by omega)⟩ _ (fun r20 p21 => ?_)
        show Q (some (.int r20)) g9
        exact hq r20 g9 ⟨k12, k13, k14, k15, (fun k hk => f11 k hk)⟩
    · exact hq (-1 : Int32) h ⟨hmmi, hmsm, hmzs, hmrw, (fun k hk => rfl)⟩
-- ThreadBankModel.owed(II)I
set_option maxRecDepth 100000 in
set_option maxHeartbeats 4000000 in
theorem sf_196_39 (X : qm_X) (h : qm_H) (a : Int32) (b : Int32) (hp : mi h ∧ sm h ∧ zs h ∧ rw_ h) (Q : qm_Q) (hq : ∀ r : Int32, ∀ h' : qm_H, (mi h' ∧ sm h' ∧ zs h' ∧ rw_ h' ∧ (∀ k, (k < 41 ∨ 45 < k ∨ k = 42 ∨ k = 43 ∨ k = 44) → h' k = h k)) → Q (some (.int r)) h') : qm_PW X 196 [.ref 39, .int a, .int b] h Q := by
  have hmmi : mi h := hp.1
  have ⟨⟨_, _⟩, ⟨_, _⟩, ⟨_, _⟩, ⟨_, _⟩, _, _⟩ := hmmi
  have hmsm : sm h := hp.2.1
  have ⟨⟨⟨_, _⟩, _, _⟩, _, _, _⟩ := hmsm
  have hmzs : zs h := hp.2.2.1
  have hmrw : rw_ h := hp.2.2.2
  refine qm_seg_ok (C := qc_196) (rt := some .int) rfl rfl (cuts := []) 400 _ _ _ _ ?_
  show qm_PW X 166 [.ref 39, .int a] h _
  refine sf_166_39 X h a hmmi _ (fun r1 p2 => ?_)
  show (r1 = 0 → (Q (some (.int (-1 : Int32))) h)) ∧ (¬ r1 = 0 → (qm_PW X 168 [.int b] h _))
  refine ⟨fun c3 => ?_, fun c4 => ?_⟩
  · exact hq (-1 : Int32) h ⟨hmmi, hmsm, hmzs, hmrw, (fun k hk => rfl)⟩
  · have := p2.2 c4
    refine sf_168 X h b trivial _ (fun r5 p6 => ?_)
    show (¬ r5 = 0 → (qm_PW X 169 [.ref 39] h _)) ∧ (r5 = 0 → (Q (some (.int (-1 : Int32))) h))
    refine ⟨fun c7 => ?_, fun c8 => ?_⟩
    · have := p6.2 c7
      refine sf_169_39 X h  hmsm _ (fun g9 p10 => ?_)
      have f11 : ∀ k, (k < 41 ∨ 45 < k ∨ k = 42 ∨ k = 43 ∨ k = 44) → g9 k = h k := fun k hk => (p10.2.1 k (by omega)).trans (rfl)
      have k12 : mi g9 := by unfold mi; rw [p10.2.1 39 (by omega)]; exact hmmi
      have k13 : sm g9 := by unfold sm; rw [p10.2.1 40 (by omega)]; exact hmsm
      have k14 : zs g9 := by unfold zs; rw [p10.2.1 49 (by omega)]; exact hmzs
      have k15 : rw_ g9 := by unfold rw_; rw [p10.2.1 46 (by omega)]; exact hmrw
      show (¬ b = 0 → ((0 ≤ (5 : Int) ∧ (5 : Int) < 49) ∧ (qm_PW X 180 [.ref 39, .int (g9 41 5)] g9 _))) ∧ (b = 0 → (qm_PW X 180 [.ref 39, .int 9] g9 _))
      refine ⟨fun c16 => ?_, fun c17 => ?_⟩
      · refine ⟨by decide, ?_⟩
        refine sf_180_39 X g9 (g9 41 5) p10.1 _ (fun g18 p19 => ?_)
        have f20 : ∀ k, (k < 41 ∨ 45 < k ∨ k = 42 ∨ k = 43 ∨ k = 44) → g18 k = h k := fun k hk => (p19 k (by omega)).trans (f11 k hk)
        have k21 : mi g18 := by unfold mi; rw [p19 39 (by omega)]; exact k12
        have k22 : sm g18 := by unfold sm; rw [p19 40 (by omega)]; exact k13
        have k23 : zs g18 := by unfold zs; rw [p19 49 (by omega)]; exact k14
        have k24 : rw_ g18 := by unfold rw_; rw [p19 46 (by omega)]; exact k15
        have k25 : am g18 := by unfold am; rw [p19 41 (by omega)]; exact p10.1
        show qm_PW X 181 [.ref 39, .int a] g18 _
        refine sf_181_39 X g18 a (by omega) _ (fun r26 p27 => ?_)
        show Q (some (.int r26)) g18
        exact hq r26 g18 ⟨k21, k22, k23, k24, (fun k hk => f20 k hk)⟩
      · refine sf_180_39 X g9 (9 : Int32) p10.1 _ (fun g28 p29 => ?_)
        have f30 : ∀ k, (k < 41 ∨ 45 < k ∨ k = 42 ∨ k = 43 ∨ k = 44) → g28 k = h k := fun k hk => (p29 k (by omega)).trans (f11 k hk)
        have k31 : mi g28 := by unfold mi; rw [p29 39 (by omega)]; exact k12
        have k32 : sm g28 := by unfold sm; rw [p29 40 (by omega)]; exact k13
        have k33 : zs g28 := by unfold zs; rw [p29 49 (by omega)]; exact k14
        have k34 : rw_ g28 := by unfold rw_; rw [p29 46 (by omega)]; exact k15
        have k35 : am g28 := by unfold am; rw [p29 41 (by omega)]; exact p10.1
        show qm_PW X 181 [.ref 39, .int a] g28 _
        refine sf_181_39 X g28 a (by omega) _ (fun r36 p37 => ?_)
        show Q (some (.int r36)) g28
        exact hq r36 g28 ⟨k31, k32, k33, k34, (fun k hk => f30 k hk)⟩
    · exact hq (-1 : Int32) h ⟨hmmi, hmsm, hmzs, hmrw, (fun k hk => rfl)⟩
-- ThreadBankModel.sum(I)I
set_option maxRecDepth 100000 in
set_option maxHeartbeats 4000000 in
theorem sf_197_39_c (X : qm_X) (h : qm_H) (a : Int32) (hp : mi h ∧ sm h ∧ zs h ∧ rw_ h) (Q : qm_Q) (hq : ∀ r : Int32, ∀ h' : qm_H, (mi h' ∧ sm h' ∧ zs h' ∧ rw_ h' ∧ (∀ k, (k < 41 ∨ 45 < k ∨ k = 42 ∨ k = 43 ∨ k = 44) → h' k = h k)) → Q (some (.int r)) h') : ∀ n : Nat, (∀ (l2 : Int32) (l3 : Int32) (g : qm_H), ((0 ≤ l3.toInt ∧ l3.toInt ≤ 4) ∧ mi g ∧ sm g ∧ zs g ∧ rw_ g ∧ am g ∧ ∀ k, (k < 41 ∨ 45 < k ∨ k = 42 ∨ k = 43 ∨ k = 44) → g k = h k) → (4 - l3.toInt).toNat < n → qm_PA X 197 42 [(0, .ref 39), (1, .int a), (2, .int l2), (3, .int l3)] [] g Q) := by
  have hmmi : mi h := hp.1
  have ⟨⟨_, _⟩, ⟨_, _⟩, ⟨_, _⟩, ⟨_, _⟩, _, _⟩ := hmmi
  have hmsm : sm h := hp.2.1
  have ⟨⟨⟨_, _⟩, _, _⟩, _, _, _⟩ := hmsm
  have hmzs : zs h := hp.2.2.1
  have hmrw : rw_ h := hp.2.2.2
  intro n
  induction n with
  | zero => exact fun _ _ _ _ h0 => absurd h0 (Nat.not_lt_zero _)
  | succ n ih =>
    intro l2 l3 g hi hr
    obtain ⟨hi0, hgmi, hgsm, hgzs, hgrw, hgam, hgf⟩ := hi
    have ⟨⟨_, _⟩, ⟨_, _⟩, ⟨_, _⟩, ⟨_, _⟩, _, _⟩ := hgmi
    have ⟨⟨⟨_, _⟩, _, _⟩, _, _, _⟩ := hgsm
    have ⟨⟨_, _⟩, ⟨_, _⟩, _, _, _⟩ := hgam
    refine qm_seg_ok (C := qc_197) (rt := some .int) rfl rfl (cuts := [(42, [0, 1, 2, 3])]) 400 _ _ _ _ ?_
    show ((g 39 3).toInt ≤ l3.toInt → ((¬ a = 2 → (qm_PW X 183 [.ref 39] g _)) ∧ (a = 2 → (Q (some (.int l2)) g)))) ∧ (l3.toInt < (g 39 3).toInt → (qm_PW X 182 [.ref 39, .int l3] g _))
    refine ⟨fun c1 => ?_, fun c2 => ?_⟩
    · refine ⟨fun c3 => ?_, fun c4 => ?_⟩
      · refine sf_183_39 X g  trivial _ (fun r5 p6 => ?_)
        show Q (some (.int r5)) g
        exact hq r5 g ⟨hgmi, hgsm, hgzs, hgrw, (fun k hk => hgf k hk)⟩
      · exact hq l2 g ⟨hgmi, hgsm, hgzs, hgrw, (fun k hk => hgf k hk)⟩
    · refine sf_182_39 X g l3 (by omega) _ (fun r7 p8 => ?_)
      show (r7.toInt ≤ 0 → (qm_PA X 197 42 [(0, .ref 39), (1, .int a), (2, .int (l2 + 0)), (3, .int (l3 + 1))] [] g Q)) ∧ (0 < r7.toInt → (qm_PW X 182 [.ref 39, .int l3] g _))
      refine ⟨fun c9 => ?_, fun c10 => ?_⟩
      · exact ih (l2 + 0) (l3 + 1) g ⟨(by have := ti_addK l3 (1 : Int32) 1 rfl; show 0 ≤ (l3 + 1).toInt ∧ (l3 + 1).toInt ≤ 4; omega), hgmi, hgsm, hgzs, hgrw, hgam, (fun k hk => hgf k hk)⟩ (by have := ti_addK l3 (1 : Int32) 1 rfl; show (4 - (l3 + 1).toInt).toNat < n; omega)
      · refine sf_182_39 X g l3 (by omega) _ (fun r11 p12 => ?_)
        show qm_PA X 197 42 [(0, .ref 39), (1, .int a), (2, .int (l2 + r11)), (3, .int (l3 + 1))] [] g Q
        exact ih (l2 + r11) (l3 + 1) g ⟨(by have := ti_addK l3 (1 : Int32) 1 rfl; show 0 ≤ (l3 + 1).toInt ∧ (l3 + 1).toInt ≤ 4; omega), hgmi, hgsm, hgzs, hgrw, hgam, (fun k hk => hgf k hk)⟩ (by have := ti_addK l3 (1 : Int32) 1 rfl; show (4 - (l3 + 1).toInt).toNat < n; omega)
set_option maxRecDepth 100000 in
set_option maxHeartbeats 4000000 in
theorem sf_197_39 (X : qm_X) (h : qm_H) (a : Int32) (hp : mi h ∧ sm h ∧ zs h ∧ rw_ h) (Q : qm_Q) (hq : ∀ r : Int32, ∀ h' : qm_H, (mi h' ∧ sm h' ∧ zs h' ∧ rw_ h' ∧ (∀ k, (k < 41 ∨ 45 < k ∨ k = 42 ∨ k = 43 ∨ k = 44) → h' k = h k)) → Q (some (.int r)) h') : qm_PW X 197 [.ref 39, .int a] h Q := by
  have hmmi : mi h := hp.1
  have ⟨⟨_, _⟩, ⟨_, _⟩, ⟨_, _⟩, ⟨_, _⟩, _, _⟩ := hmmi
  have hmsm : sm h := hp.2.1
  have ⟨⟨⟨_, _⟩, _, _⟩, _, _, _⟩ := hmsm
  have hmzs : zs h := hp.2.2.1
  have hmrw : rw_ h := hp.2.2.2
  refine qm_seg_ok (C := qc_197) (rt := some .int) rfl rfl (cuts := [(42, [0, 1, 2, 3])]) 400 _ _ _ _ ?_
  show qm_PW X 141 [.long (Int32.toInt64 a), .long 0, .long 2] h _
  refine sf_141 X h ((Int32.toInt64 a) : Int64) (0 : Int64) (2 : Int64) trivial _ (fun r1 p2 => ?_)
  show (¬ r1 = 0 → (qm_PW X 169 [.ref 39] h _)) ∧ (r1 = 0 → (Q (some (.int (-1 : Int32))) h))
  refine ⟨fun c3 => ?_, fun c4 => ?_⟩
  · have := p2.2.1 c3
    refine sf_169_39 X h  hmsm _ (fun g5 p6 => ?_)
    have f7 : ∀ k, (k < 41 ∨ 45 < k ∨ k = 42 ∨ k = 43 ∨ k = 44) → g5 k = h k := fun k hk => (p6.2.1 k (by omega)).trans (rfl)
    have k8 : mi g5 := by unfold mi; rw [p6.2.1 39 (by omega)]; exact hmmi
    have k9 : sm g5 := by unfold sm; rw [p6.2.1 40 (by omega)]; exact hmsm
    have k10 : zs g5 := by unfold zs; rw [p6.2.1 49 (by omega)]; exact hmzs
    have k11 : rw_ g5 := by unfold rw_; rw [p6.2.1 46 (by omega)]; exact hmrw
    show (¬ a = 1 → (qm_PW X 180 [.ref 39, .int 9] g5 _)) ∧ (a = 1 → ((0 ≤ (5 : Int) ∧ (5 : Int) < 49) ∧ (qm_PW X 180 [.ref 39, .int (g5 41 5)] g5 _)))
    refine ⟨fun c12 => ?_, fun c13 => ?_⟩
    · refine sf_180_39 X g5 (9 : Int32) p6.1 _ (fun g14 p15 => ?_)
      have f16 : ∀ k, (k < 41 ∨ 45 < k ∨ k = 42 ∨ k = 43 ∨ k = 44) → g14 k = h k := fun k hk => (p15 k (by omega)).trans (f7 k hk)
      have k17 : mi g14 := by unfold mi; rw [p15 39 (by omega)]; exact k8
      have k18 : sm g14 := by unfold sm; rw [p15 40 (by omega)]; exact k9
      have k19 : zs g14 := by unfold zs; rw [p15 49 (by omega)]; exact k10
      have k20 : rw_ g14 := by unfold rw_; rw [p15 46 (by omega)]; exact k11
      have k21 : am g14 := by unfold am; rw [p15 41 (by omega)]; exact p6.1
      show qm_PA X 197 42 [(0, .ref 39), (1, .int a), (2, .int 0), (3, .int 0)] [] g14 Q
      exact (sf_197_39_c X h a hp Q hq _) (0 : Int32) (0 : Int32) g14 ⟨(by have : (0 : Int32).toInt = 0 := rfl; have : (0 : Int64).toInt = 0 := rfl; have : (2 : Int64).toInt = 2 := rfl; have := i64 a; show 0 ≤ (0 : Int32).toInt ∧ (0 : Int32).toInt ≤ 4; omega), k17, k18, k19, k20, k21, (fun k hk => f16 k hk)⟩ (Nat.lt_succ_self _)
    · refine ⟨by decide, ?_⟩
      refine sf_180_39 X g5 (g5 41 5) p6.1 _ (fun g22 p23 => ?_)
      have f24 : ∀ k, (k < 41 ∨ 45 < k ∨ k = 42 ∨ k = 43 ∨ k = 44) → g22 k = h k := fun k hk => (p23 k (by omega)).trans (f7 k hk)
      have k25 : mi g22 := by unfold mi; rw [p23 39 (by omega)]; exact k8
      have k26 : sm g22 := by unfold sm; rw [p23 40 (by omega)]; exact k9
      have k27 : zs g22 := by unfold zs; rw [p23 49 (by omega)]; exact k10
      have k28 : rw_ g22 := by unfold rw_; rw [p23 46 (by omega)]; exact k11
      have k29 : am g22 := by unfold am; rw [p23 41 (by omega)]; exact p6.1
      show qm_PA X 197 42 [(0, .ref 39), (1, .int a), (2, .int 0), (3, .int 0)] [] g22 Q
      exact (sf_197_39_c X h a hp Q hq _) (0 : Int32) (0 : Int32) g22 ⟨(by have : (0 : Int32).toInt = 0 := rfl; have : (0 : Int64).toInt = 0 := rfl; have : (2 : Int64).toInt = 2 := rfl; have := i64 a; show 0 ≤ (0 : Int32).toInt ∧ (0 : Int32).toInt ≤ 4; omega), k25, k26, k27, k28, k29, (fun k hk => f24 k hk)⟩ (Nat.lt_succ_self _)
  · have := p2.2.2 c4
    exact hq (-1 : Int32) h ⟨hmmi, hmsm, hmzs, hmrw, (fun k hk => rfl)⟩
-- ThreadBankModel.risk(I)I
set_option maxRecDepth 100000 in
set_option maxHeartbeats 4000000 in
theorem sf_215_39 (X : qm_X) (h : qm_H) (a : Int32) (hp : mi h ∧ sm h ∧ zs h ∧ rw_ h) (Q : qm_Q) (hq : ∀ r : Int32, ∀ h' : qm_H, (mi h' ∧ sm h' ∧ zs h' ∧ rw_ h' ∧ (∀ k, (k < 41 ∨ 41 < k) → h' k = h k)) → Q (some (.int r)) h') : qm_PW X 215 [.ref 39, .int a] h Q := by
  have hmmi : mi h := hp.1
  have ⟨⟨_, _⟩, ⟨_, _⟩, ⟨_, _⟩, ⟨_, _⟩, _, _⟩ := hmmi
  have hmsm : sm h := hp.2.1
  have ⟨⟨⟨_, _⟩, _, _⟩, _, _, _⟩ := hmsm
  have hmzs : zs h := hp.2.2.1
  have hmrw : rw_ h := hp.2.2.2
  refine qm_seg_ok (C := qc_215) (rt := some .int) rfl rfl (cuts := []) 400 _ _ _ _ ?_
  show qm_PW X 164 [.ref 39, .int a] h _
  refine sf_164_39 X h a hmmi _ (fun r1 p2 => ?_)
  show (¬ r1 = 0 → (qm_PW X 169 [.ref 39] h _)) ∧ (r1 = 0 → (Q (some (.int (-1 : Int32))) h))
  refine ⟨fun c3 => ?_, fun c4 => ?_⟩
  · have := p2.2 c3
    refine sf_169_39 X h  hmsm _ (fun g5 p6 => ?_)
    have f7 : ∀ k, (k < 41 ∨ 41 < k) → g5 k = h k := fun k hk => (p6.2.1 k (by omega)).trans (rfl)
    have k8 : mi g5 := by unfold mi; rw [p6.2.1 39 (by omega)]; exact hmmi
    have k9 : sm g5 := by unfold sm; rw [p6.2.1 40 (by omega)]; exact hmsm
    have k10 : zs g5 := by unfold zs; rw [p6.2.1 49 (by omega)]; exact hmzs
    have k11 : rw_ g5 := by unfold rw_; rw [p6.2.1 46 (by omega)]; exact hmrw
    show qm_PW X 214 [.ref 39, .int a] g5 _
    refine sf_214_39 X g5 a p6.1 _ (fun r12 p13 => ?_)
    show Q (some (.int r12)) g5
    exact hq r12 g5 ⟨k8, k9, k10, k11, (fun k hk => f7 k hk)⟩
  · exact hq (-1 : Int32) h ⟨hmmi, hmsm, hmzs, hmrw, (fun k hk => rfl)⟩
-- ThreadBankModel.copies()I
set_option maxRecDepth 100000 in
set_option maxHeartbeats 4000000 in
theorem sf_216_39_c (X : qm_X) (h : qm_H) (hp : mi h ∧ sm h ∧ zs h ∧ rw_ h) (Q : qm_Q) (hq : ∀ r : Int32, ∀ h' : qm_H, (mi h' ∧ sm h' ∧ zs h' ∧ rw_ h' ∧ (∀ k, (k < 41 ∨ 41 < k) → h' k = h k)) → Q (some (.int r)) h') : ∀ n : Nat, (∀ (l1 : Int32) (l2 : Int32) (l3 : Int32) (g : qm_H), ((0 ≤ l3.toInt ∧ l3.toInt ≤ 4) ∧ mi g ∧ sm g ∧ zs g ∧ rw_ g ∧ am g ∧ ∀ k, (k < 41 ∨ 41 < k) → g k = h k) → (104 - l3.toInt).toNat < n → qm_PA X 216 10 [(0, .ref 39), (1, .int l1), (2, .int l2), (3, .int l3)] [] g Q) ∧ (∀ (l1 : Int32) (l2 : Int32) (l3 : Int32) (l4 : Int32) (g : qm_H), ((0 ≤ l4.toInt ∧ l4.toInt ≤ 4) ∧ mi g ∧ sm g ∧ zs g ∧ rw_ g ∧ am g ∧ ∀ k, (k < 41 ∨ 41 < k) → g k = h k) → (4 - l4.toInt).toNat < n → qm_PA X 216 73 [(0, .ref 39), (1, .int l1), (2, .int l2), (3, .int l3), (4, .int l4)] [] g Q) := by
  have hmmi : mi h := hp.1
  have ⟨⟨_, _⟩, ⟨_, _⟩, ⟨_, _⟩, ⟨_, _⟩, _, _⟩ := hmmi
  have hmsm : sm h := hp.2.1
  have ⟨⟨⟨_, _⟩, _, _⟩, _, _, _⟩ := hmsm
  have hmzs : zs h := hp.2.2.1
  have hmrw : rw_ h := hp.2.2.2
  intro n
  induction n with
  | zero => exact ⟨fun _ _ _ _ _ h0 => absurd h0 (Nat.not_lt_zero _), fun _ _ _ _ _ _ h0 => absurd h0 (Nat.not_lt_zero _)⟩
  | succ n ih =>
    refine ⟨?_, ?_⟩
    · intro l1 l2 l3 g hi hr
      obtain ⟨hi0, hgmi, hgsm, hgzs, hgrw, hgam, hgf⟩ := hi
      have ⟨⟨_, _⟩, ⟨_, _⟩, ⟨_, _⟩, ⟨_, _⟩, _, _⟩ := hgmi
      have ⟨⟨⟨_, _⟩, _, _⟩, _, _, _⟩ := hgsm
      have ⟨⟨_, _⟩, ⟨_, _⟩, _, _, _⟩ := hgam
      refine qm_seg_ok (C := qc_216) (rt := some .int) rfl rfl (cuts := [(10, [0, 1, 2, 3]), (73, [0, 1, 2, 3, 4])]) 400 _ _ _ _ ?_
      show ((g 39 3).toInt ≤ l3.toInt → ((l2.toInt < l1.toInt → (qm_PA X 216 73 [(0, .ref 39), (1, .int l1), (2, .int l2), (3, .int 0), (4, .int 0)] [] g Q)) ∧ (l1.toInt ≤ l2.toInt → ((0 ≤ (4 : Int) ∧ (4 : Int) < 49) ∧ ((10 < ((g 41 4) + l1).toInt → (qm_PA X 216 73 [(0, .ref 39), (1, .int l1), (2, .int l2), (3, .int 0), (4, .int 0)] [] g Q)) ∧ (((g 41 4) + l1).toInt ≤ 10 → (qm_PA X 216 73 [(0, .ref 39), (1, .int l1), (2, .int l2), (3, .int 1), (4, .int 0)] [] g Q))))))) ∧ (l3.toInt < (g 39 3).toInt → (qm_PW X 214 [.ref 39, .int l3] g _))
      refine ⟨fun c1 => ?_, fun c2 => ?_⟩
      · refine ⟨fun c3 => ?_, fun c4 => ?_⟩
        · exact ih.2 l1 l2 (0 : Int32) (0 : Int32) g ⟨(by have : (0 : Int32).toInt = 0 := rfl; show 0 ≤ (0 : Int32).toInt ∧ (0 : Int32).toInt ≤ 4; omega), hgmi, hgsm, hgzs, hgrw, hgam, (fun k hk => hgf k hk)⟩ (by have : (0 : Int32).toInt = 0 := rfl; show (4 - (0 : Int32).toInt).toNat < n; omega)
        · refine ⟨by decide, ?_⟩
          refine ⟨fun c5 => ?_, fun c6 => ?_⟩
          · exact ih.2 l1 l2 (0 : Int32) (0 : Int32) g ⟨(by have : (0 : Int32).toInt = 0 := rfl; have := ti_add (g 41 4) l1; show 0 ≤ (0 : Int32).toInt ∧ (0 : Int32).toInt ≤ 4; omega), hgmi, hgsm, hgzs, hgrw, hgam, (fun k hk => hgf k hk)⟩ (by have : (0 : Int32).toInt = 0 := rfl; have := ti_add (g 41 4) l1; show (4 - (0 : Int32).toInt).toNat < n; omega)
          · exact ih.2 l1 l2 (1 : Int32) (0 : Int32) g ⟨(by have : (0 : Int32).toInt = 0 := rfl; have := ti_add (g 41 4) l1; show 0 ≤ (0 : Int32).toInt ∧ (0 : Int32).toInt ≤ 4; omega), hgmi, hgsm, hgzs, hgrw, hgam, (fun k hk => hgf k hk)⟩ (by have : (0 : Int32).toInt = 0 := rfl; have := ti_add (g 41 4) l1; show (4 - (0 : Int32).toInt).toNat < n; omega)
      · refine sf_214_39 X g l3 hgam _ (fun r7 p8 => ?_)
        show qm_PW X 176 [.ref 39, .int l3] g _
        refine sf_176_39 X g l3 ⟨hgam, (by omega)⟩ _ (fun r9 p10 => ?_)
        show qm_PW X 175 [.ref 39, .int l3] g _
        refine sf_175_39 X g l3 hgam _ (fun r11 p12 => ?_)
        show qm_PA X 216 10 [(0, .ref 39), (1, .int (l1 + r7)), (2, .int (l2 + (r9 - r11))), (3, .int (l3 + 1))] [] g Q
        exact ih.1 (l1 + r7) (l2 + (r9 - r11)) (l3 + 1) g ⟨(by have := ti_addK l3 (1 : Int32) 1 rfl; show 0 ≤ (l3 + 1).toInt ∧ (l3 + 1).toInt ≤ 4; omega), hgmi, hgsm, hgzs, hgrw, hgam, (fun k hk => hgf k hk)⟩ (by have := ti_addK l3 (1 : Int32) 1 rfl; show (104 - (l3 + 1).toInt).toNat < n; omega)
    · intro l1 l2 l3 l4 g hi hr
      obtain ⟨hi0, hgmi, hgsm, hgzs, hgrw, hgam, hgf⟩ := hi
      have ⟨⟨_, _⟩, ⟨_, _⟩, ⟨_, _⟩, ⟨_, _⟩, _, _⟩ := hgmi
      have ⟨⟨⟨_, _⟩, _, _⟩, _, _, _⟩ := hgsm
      have ⟨⟨_, _⟩, ⟨_, _⟩, _, _, _⟩ := hgam
      refine qm_seg_ok (C := qc_216) (rt := some .int) rfl rfl (cuts := [(10, [0, 1, 2, 3]), (73, [0, 1, 2, 3, 4])]) 400 _ _ _ _ ?_
      show ((g 39 3).toInt ≤ l4.toInt → ((l3 = 0 → (Q (some (.int (-4 : Int32))) g)) ∧ (¬ l3 = 0 → (Q (some (.int l1)) g)))) ∧ (l4.toInt < (g 39 3).toInt → ((l3 = 0 → (qm_PA X 216 73 [(0, .ref 39), (1, .int l1), (2, .int l2), (3, .int 0), (4, .int (l4 + 1))] [] g Q)) ∧ (¬ l3 = 0 → (qm_PW X 214 [.ref 39, .int l4] g _))))
      refine ⟨fun c1 => ?_, fun c2 => ?_⟩
      · refine ⟨fun c3 => ?_, fun c4 => ?_⟩
        · exact hq (-4 : Int32) g ⟨hgmi, hgsm, hgzs, hgrw, (fun k hk => hgf k hk)⟩
        · exact hq l1 g ⟨hgmi, hgsm, hgzs, hgrw, (fun k hk => hgf k hk)⟩
      · refine ⟨fun c5 => ?_, fun c6 => ?_⟩
        · exact ih.2 l1 l2 (0 : Int32) (l4 + 1) g ⟨(by have := ti_addK l4 (1 : Int32) 1 rfl; show 0 ≤ (l4 + 1).toInt ∧ (l4 + 1).toInt ≤ 4; omega), hgmi, hgsm, hgzs, hgrw, hgam, (fun k hk => hgf k hk)⟩ (by have := ti_addK l4 (1 : Int32) 1 rfl; show (4 - (l4 + 1).toInt).toNat < n; omega)
        · refine sf_214_39 X g l4 hgam _ (fun r7 p8 => ?_)
          show qm_PW X 176 [.ref 39, .int l4] g _
          refine sf_176_39 X g l4 ⟨hgam, (by omega)⟩ _ (fun r9 p10 => ?_)
          show qm_PW X 175 [.ref 39, .int l4] g _
          refine sf_175_39 X g l4 hgam _ (fun r11 p12 => ?_)
          show ((l2 - (r9 - r11)).toInt < r7.toInt → (qm_PA X 216 73 [(0, .ref 39), (1, .int l1), (2, .int l2), (3, .int 0), (4, .int (l4 + 1))] [] g Q)) ∧ (r7.toInt ≤ (l2 - (r9 - r11)).toInt → (qm_PA X 216 73 [(0, .ref 39), (1, .int l1), (2, .int l2), (3, .int 1), (4, .int (l4 + 1))] [] g Q))
          refine ⟨fun c13 => ?_, fun c14 => ?_⟩
          · exact ih.2 l1 l2 (0 : Int32) (l4 + 1) g ⟨(by have := ti_addK l4 (1 : Int32) 1 rfl; have := ti_sub r9 r11; have := ti_sub l2 (r9 - r11); show 0 ≤ (l4 + 1).toInt ∧ (l4 + 1).toInt ≤ 4; omega), hgmi, hgsm, hgzs, hgrw, hgam, (fun k hk => hgf k hk)⟩ (by have := ti_addK l4 (1 : Int32) 1 rfl; have := ti_sub r9 r11; have := ti_sub l2 (r9 - r11); show (4 - (l4 + 1).toInt).toNat < n; omega)
          · exact ih.2 l1 l2 (1 : Int32) (l4 + 1) g ⟨(by have := ti_addK l4 (1 : Int32) 1 rfl; have := ti_sub r9 r11; have := ti_sub l2 (r9 - r11); show 0 ≤ (l4 + 1).toInt ∧ (l4 + 1).toInt ≤ 4; omega), hgmi, hgsm, hgzs, hgrw, hgam, (fun k hk => hgf k hk)⟩ (by have := ti_addK l4 (1 : Int32) 1 rfl; have := ti_sub r9 r11; have := ti_sub l2 (r9 - r11); show (4 - (l4 + 1).toInt).toNat < n; omega)
set_option maxRecDepth 100000 in
set_option maxHeartbeats 4000000 in
theorem sf_216_39 (X : qm_X) (h : qm_H) (hp : mi h ∧ sm h ∧ zs h ∧ rw_ h) (Q : qm_Q) (hq : ∀ r : Int32, ∀ h' : qm_H, (mi h' ∧ sm h' ∧ zs h' ∧ rw_ h' ∧ (∀ k, (k < 41 ∨ 41 < k) → h' k = h k)) → Q (some (.int r)) h') : qm_PW X 216 [.ref 39] h Q := by
  have hmmi : mi h := hp.1
  have ⟨⟨_, _⟩, ⟨_, _⟩, ⟨_, _⟩, ⟨_, _⟩, _, _⟩ := hmmi
  have hmsm : sm h := hp.2.1
  have ⟨⟨⟨_, _⟩, _, _⟩, _, _, _⟩ := hmsm
  have hmzs : zs h := hp.2.2.1
  have hmrw : rw_ h := hp.2.2.2
  refine qm_seg_ok (C := qc_216) (rt := some .int) rfl rfl (cuts := [(10, [0, 1, 2, 3]), (73, [0, 1, 2, 3, 4])]) 400 _ _ _ _ ?_
  show qm_PW X 169 [.ref 39] h _
  refine sf_169_39 X h  hmsm _ (fun g1 p2 => ?_)
  have f3 : ∀ k, (k < 41 ∨ 41 < k) → g1 k = h k := fun k hk => (p2.2.1 k (by omega)).trans (rfl)
  have k4 : mi g1 := by unfold mi; rw [p2.2.1 39 (by omega)]; exact hmmi
  have k5 : sm g1 := by unfold sm; rw [p2.2.1 40 (by omega)]; exact hmsm
  have k6 : zs g1 := by unfold zs; rw [p2.2.1 49 (by omega)]; exact hmzs
  have k7 : rw_ g1 := by unfold rw_; rw [p2.2.1 46 (by omega)]; exact hmrw
  show qm_PA X 216 10 [(0, .ref 39), (1, .int 0), (2, .int 0), (3, .int 0)] [] g1 Q
  exact (sf_216_39_c X h hp Q hq _).1 (0 : Int32) (0 : Int32) (0 : Int32) g1 ⟨(by have : (0 : Int32).toInt = 0 := rfl; show 0 ≤ (0 : Int32).toInt ∧ (0 : Int32).toInt ≤ 4; omega), k4, k5, k6, k7, p2.1, (fun k hk => f3 k hk)⟩ (Nat.lt_succ_self _)
