-- ThreadBankModel.becomes(II)I
set_option maxRecDepth 100000 in
set_option maxHeartbeats 4000000 in
theorem sf_188_39 (X : qm_X) (h : qm_H) (a : Int32) (b : Int32) (hp : sm h ∧ (0 ≤ a.toInt ∧ a.toInt < 49 ∧ pv 0 a.toInt.toNat b)) (Q : qm_Q) (hq : ∀ r : Int32, ∀ h' : qm_H, (sm h' ∧ (∀ k, (k < 40 ∨ 40 < k) → h' k = h k)) → Q (some (.int r)) h') : qm_PW X 188 [.ref 39, .int a, .int b] h Q := by
  have hmsm : sm h := hp.1
  have ⟨⟨⟨_, _⟩, _, _⟩, _, _, _⟩ := hmsm
  have hp0 : 0 ≤ a.toInt ∧ a.toInt < 49 ∧ pv 0 a.toInt.toNat b := hp.2
  refine qm_seg_ok (C := qc_188) (rt := some .int) rfl rfl (cuts := []) 400 _ _ _ _ ?_
  show (0 ≤ a.toInt ∧ a.toInt < 147) ∧ ((0 ≤ a.toInt ∧ a.toInt < 147) ∧ (Q (some (.int (h 40 a.toInt.toNat))) (qm_row h 40 (upd (h 40) a.toInt.toNat b))))
  refine ⟨(by omega), ?_⟩
  refine ⟨(by omega), ?_⟩
  exact hq (h 40 a.toInt.toNat) (qm_row h 40 (upd (h 40) a.toInt.toNat b)) ⟨(by exact sm_upd hmsm (by omega) hp0.2.2), (fun k hk => by simp only [qm_row]; rw [if_neg (by omega)])⟩
-- ThreadBankModel.day(I)I
set_option maxRecDepth 100000 in
set_option maxHeartbeats 4000000 in
theorem sf_195_39 (X : qm_X) (h : qm_H) (a : Int32) (hp : mi h ∧ sm h ∧ zs h ∧ rw_ h) (Q : qm_Q) (hq : ∀ r : Int32, ∀ h' : qm_H, (mi h' ∧ sm h' ∧ zs h' ∧ rw_ h' ∧ (∀ k, (k < 40 ∨ 40 < k) → h' k = h k)) → Q (some (.int r)) h') : qm_PW X 195 [.ref 39, .int a] h Q := by
  have hmmi : mi h := hp.1
  have ⟨⟨_, _⟩, ⟨_, _⟩, ⟨_, _⟩, ⟨_, _⟩, _, _⟩ := hmmi
  have hmsm : sm h := hp.2.1
  have ⟨⟨⟨_, _⟩, _, _⟩, _, _, _⟩ := hmsm
  have hmzs : zs h := hp.2.2.1
  have hmrw : rw_ h := hp.2.2.2
  refine qm_seg_ok (C := qc_195) (rt := some .int) rfl rfl (cuts := []) 400 _ _ _ _ ?_
  show qm_PW X 141 [.long (Int32.toInt64 a), .long 0, .long 9] h _
  refine sf_141 X h ((Int32.toInt64 a) : Int64) (0 : Int64) (9 : Int64) trivial _ (fun r1 p2 => ?_)
  show (r1 = 0 → (Q (some (.int (-1 : Int32))) h)) ∧ (¬ r1 = 0 → (qm_PW X 188 [.ref 39, .int 5, .int a] h _))
  refine ⟨fun c3 => ?_, fun c4 => ?_⟩
  · have := p2.2.2 c3
    exact hq (-1 : Int32) h ⟨hmmi, hmsm, hmzs, hmrw, (fun k hk => rfl)⟩
  · have := p2.2.1 c4
    refine sf_188_39 X h (5 : Int32) a ⟨hmsm, ⟨by decide, by decide, pv_kind (by decide)⟩⟩ _ (fun r5 g6 p7 => ?_)
    have f8 : ∀ k, (k < 40 ∨ 40 < k) → g6 k = h k := fun k hk => (p7.2 k (by omega)).trans (rfl)
    have k9 : mi g6 := by unfold mi; rw [p7.2 39 (by omega)]; exact hmmi
    have k10 : zs g6 := by unfold zs; rw [p7.2 49 (by omega)]; exact hmzs
    have k11 : rw_ g6 := by unfold rw_; rw [p7.2 46 (by omega)]; exact hmrw
    show Q (some (.int r5)) g6
    exact hq r5 g6 ⟨k9, p7.1, k10, k11, (fun k hk => f8 k hk)⟩
-- ThreadBankModel.forget(I)I
set_option maxRecDepth 100000 in
set_option maxHeartbeats 4000000 in
theorem sf_226_39 (X : qm_X) (h : qm_H) (a : Int32) (hp : mi h ∧ sm h ∧ zs h ∧ rw_ h) (Q : qm_Q) (hq : ∀ r : Int32, ∀ h' : qm_H, (mi h' ∧ sm h' ∧ zs h' ∧ rw_ h' ∧ (∀ k, (k < 40 ∨ 40 < k) → h' k = h k)) → Q (some (.int r)) h') : qm_PW X 226 [.ref 39, .int a] h Q := by
  have hmmi : mi h := hp.1
  have ⟨⟨_, _⟩, ⟨_, _⟩, ⟨_, _⟩, ⟨_, _⟩, _, _⟩ := hmmi
  have hmsm : sm h := hp.2.1
  have ⟨⟨⟨_, _⟩, _, _⟩, _, _, _⟩ := hmsm
  have hmzs : zs h := hp.2.2.1
  have hmrw : rw_ h := hp.2.2.2
  refine qm_seg_ok (C := qc_226) (rt := some .int) rfl rfl (cuts := []) 400 _ _ _ _ ?_
  show (0 ≤ (36 : Int) ∧ (36 : Int) < 147) ∧ (qm_PW X 141 [.long (Int32.toInt64 a), .long 0, .long (Int32.toInt64 (h 40 36))] h _)
  refine ⟨by decide, ?_⟩
  refine sf_141 X h ((Int32.toInt64 a) : Int64) (0 : Int64) ((Int32.toInt64 (h 40 36)) : Int64) trivial _ (fun r1 p2 => ?_)
  show (r1 = 0 → (Q (some (.int (-1 : Int32))) h)) ∧ (¬ r1 = 0 → (qm_PW X 188 [.ref 39, .int 36, .int a] h _))
  refine ⟨fun c3 => ?_, fun c4 => ?_⟩
  · have := p2.2.2 c3
    exact hq (-1 : Int32) h ⟨hmmi, hmsm, hmzs, hmrw, (fun k hk => rfl)⟩
  · have := p2.2.1 c4
    refine sf_188_39 X h (36 : Int32) a ⟨hmsm, ⟨by decide, by decide, pv_seen (by have : (0 : Int64).toInt = 0 := rfl; have := i64 a; have := i64 (h 40 36); omega)⟩⟩ _ (fun r5 g6 p7 => ?_)
    have f8 : ∀ k, (k < 40 ∨ 40 < k) → g6 k = h k := fun k hk => (p7.2 k (by omega)).trans (rfl)
    have k9 : mi g6 := by unfold mi; rw [p7.2 39 (by omega)]; exact hmmi
    have k10 : zs g6 := by unfold zs; rw [p7.2 49 (by omega)]; exact hmzs
    have k11 : rw_ g6 := by unfold rw_; rw [p7.2 46 (by omega)]; exact hmrw
    show Q (some (.int r5)) g6
    exact hq r5 g6 ⟨k9, p7.1, k10, k11, (fun k hk => f8 k hk)⟩
-- ThreadBankModel.move(II)I
set_option maxRecDepth 100000 in
set_option maxHeartbeats 4000000 in
theorem sf_191_39 (X : qm_X) (h : qm_H) (a : Int32) (b : Int32) (hp : mi h ∧ sm h ∧ zs h ∧ rw_ h) (Q : qm_Q) (hq : ∀ r : Int32, ∀ h' : qm_H, (mi h' ∧ sm h' ∧ zs h' ∧ rw_ h' ∧ (∀ k, (k < 40 ∨ 41 < k) → h' k = h k)) → Q (some (.int r)) h') : qm_PW X 191 [.ref 39, .int a, .int b] h Q := by
  have hmmi : mi h := hp.1
  have ⟨⟨_, _⟩, ⟨_, _⟩, ⟨_, _⟩, ⟨_, _⟩, _, _⟩ := hmmi
  have hmsm : sm h := hp.2.1
  have ⟨⟨⟨_, _⟩, _, _⟩, _, _, _⟩ := hmsm
  have hmzs : zs h := hp.2.2.1
  have hmrw : rw_ h := hp.2.2.2
  refine qm_seg_ok (C := qc_191) (rt := some .int) rfl rfl (cuts := []) 400 _ _ _ _ ?_
  show qm_PW X 167 [.ref 39, .int a] h _
  refine sf_167_39 X h a hmsm _ (fun r1 p2 => ?_)
  show (r1 = 0 → (Q (some (.int (-1 : Int32))) h)) ∧ (¬ r1 = 0 → (qm_PW X 165 [.ref 39, .int b] h _))
  refine ⟨fun c3 => ?_, fun c4 => ?_⟩
  · exact hq (-1 : Int32) h ⟨hmmi, hmsm, hmzs, hmrw, (fun k hk => rfl)⟩
  · have := p2.2 c4
    refine sf_165_39 X h b hmmi _ (fun r5 p6 => ?_)
    show (¬ r5 = 0 → (qm_PW X 169 [.ref 39] h _)) ∧ (r5 = 0 → (Q (some (.int (-1 : Int32))) h))
    refine ⟨fun c7 => ?_, fun c8 => ?_⟩
    · have := p6.2 c7
      refine sf_169_39 X h  hmsm _ (fun g9 p10 => ?_)
      have f11 : ∀ k, (k < 40 ∨ 41 < k) → g9 k = h k := fun k hk => (p10.2.1 k (by omega)).trans (rfl)
      have k12 : mi g9 := by unfold mi; rw [p10.2.1 39 (by omega)]; exact hmmi
      have k13 : sm g9 := by unfold sm; rw [p10.2.1 40 (by omega)]; exact hmsm
      have k14 : zs g9 := by unfold zs; rw [p10.2.1 49 (by omega)]; exact hmzs
      have k15 : rw_ g9 := by unfold rw_; rw [p10.2.1 46 (by omega)]; exact hmrw
      show qm_PW X 171 [.ref 39, .int a, .int 0] g9 _
      refine sf_171_39 X g9 a (0 : Int32) ⟨p10.1, (by have : (0 : Int32).toInt = 0 := rfl; omega)⟩ _ (fun r16 p17 => ?_)
      replace p17 := p17.1 rfl
      show (¬ r16 = b → (qm_PW X 174 [.ref 39, .int b] g9 _)) ∧ (r16 = b → (Q (some (.int (-2 : Int32))) g9))
      refine ⟨fun c18 => ?_, fun c19 => ?_⟩
      · refine sf_174_39 X g9 b p10.1 _ (fun r20 p21 => ?_)
        show qm_PW X 173 [.ref 39, .int b] g9 _
        refine sf_173_39 X g9 b ⟨p10.1, (by omega)⟩ _ (fun r22 p23 => ?_)
        show (r20.toInt < r22.toInt → (qm_PW X 188 [.ref 39, .int ((6 + (3 * a)) + 0), .int b] g9 _)) ∧ (r22.toInt ≤ r20.toInt → (Q (some (.int (-3 : Int32))) g9))
        refine ⟨fun c24 => ?_, fun c25 => ?_⟩
        · refine sf_188_39 X g9 ((6 + (3 * a)) + 0) b ⟨k13, ⟨(by have := ti_mulL (3 : Int32) 3 rfl a; have := ti_addL (3 * a) (6 : Int32) 6 rfl; have := ti_addK (6 + (3 * a)) (0 : Int32) 0 rfl; omega), (by have := ti_mulL (3 : Int32) 3 rfl a; have := ti_addL (3 * a) (6 : Int32) 6 rfl; have := ti_addK (6 + (3 * a)) (0 : Int32) 0 rfl; omega), (by have := ti_mulL (3 : Int32) 3 rfl a; have := ti_addL (3 * a) (6 : Int32) 6 rfl; have := ti_addK (6 + (3 * a)) (0 : Int32) 0 rfl; rw [show ((6 + (3 * a)) + 0).toInt.toNat = 6 + 3 * a.toInt.toNat from by omega]; exact pv_place (by omega) (by omega))⟩⟩ _ (fun r26 g27 p28 => ?_)
          have f29 : ∀ k, (k < 40 ∨ 41 < k) → g27 k = h k := fun k hk => (p28.2 k (by omega)).trans (f11 k hk)
          have k30 : mi g27 := by unfold mi; rw [p28.2 39 (by omega)]; exact k12
          have k31 : zs g27 := by unfold zs; rw [p28.2 49 (by omega)]; exact k14
          have k32 : rw_ g27 := by unfold rw_; rw [p28.2 46 (by omega)]; exact k15
          have k33 : am g27 := by unfold am; rw [p28.2 41 (by omega)]; exact p10.1
          show Q (some (.int r26)) g27
          exact hq r26 g27 ⟨k30, p28.1, k31, k32, (fun k hk => f29 k hk)⟩
        · exact hq (-3 : Int32) g9 ⟨k12, k13, k14, k15, (fun k hk => f11 k hk)⟩
      · exact hq (-2 : Int32) g9 ⟨k12, k13, k14, k15, (fun k hk => f11 k hk)⟩
    · exact hq (-1 : Int32) h ⟨hmmi, hmsm, hmzs, hmrw, (fun k hk => rfl)⟩
-- ThreadBankModel.teach(II)I
set_option maxRecDepth 100000 in
set_option maxHeartbeats 4000000 in
theorem sf_194_39_c (X : qm_X) (h : qm_H) (a : Int32) (b : Int32) (hp : mi h ∧ sm h ∧ zs h ∧ rw_ h) (Q : qm_Q) (hq : ∀ r : Int32, ∀ h' : qm_H, (mi h' ∧ sm h' ∧ zs h' ∧ rw_ h' ∧ (∀ k, (k < 40 ∨ 41 < k) → h' k = h k)) → Q (some (.int r)) h') : ∀ n : Nat, (∀ (l3 : Int32) (g : qm_H), ((0 ≤ l3.toInt ∧ l3.toInt ≤ 5 ∧ 0 ≤ a.toInt ∧ a.toInt < 4) ∧ mi g ∧ sm g ∧ zs g ∧ rw_ g ∧ am g ∧ ∀ k, (k < 40 ∨ 41 < k) → g k = h k) → (5 - l3.toInt).toNat < n → qm_PA X 194 28 [(0, .ref 39), (1, .int a), (2, .int b), (3, .int l3)] [] g Q) := by
  have hmmi : mi h := hp.1
  have ⟨⟨_, _⟩, ⟨_, _⟩, ⟨_, _⟩, ⟨_, _⟩, _, _⟩ := hmmi
  have hmsm : sm h := hp.2.1
  have ⟨⟨⟨_, _⟩, _, _⟩, _, _, _⟩ := hmsm
  have hmzs : zs h := hp.2.2.1
  have hmrw : rw_ h := hp.2.2.2
  intro n
  induction n with
  | zero => exact fun _ _ _ h0 => absurd h0 (Nat.not_lt_zero _)
  | succ n ih =>
    intro l3 g hi hr
    obtain ⟨hi0, hgmi, hgsm, hgzs, hgrw, hgam, hgf⟩ := hi
    have ⟨⟨_, _⟩, ⟨_, _⟩, ⟨_, _⟩, ⟨_, _⟩, _, _⟩ := hgmi
    have ⟨⟨⟨_, _⟩, _, _⟩, _, _, _⟩ := hgsm
    have ⟨⟨_, _⟩, ⟨_, _⟩, _, _, _⟩ := hgam
    refine qm_seg_ok (C := qc_194) (rt := some .int) rfl rfl (cuts := [(28, [0, 1, 2, 3])]) 400 _ _ _ _ ?_
    show (5 ≤ l3.toInt → (qm_PW X 188 [.ref 39, .int (0 + a), .int b] g _)) ∧ (l3.toInt < 5 → (qm_PW X 174 [.ref 39, .int ((10 * a) + l3)] g _))
    refine ⟨fun c1 => ?_, fun c2 => ?_⟩
    · refine sf_188_39 X g (0 + a) b ⟨hgsm, ⟨(by have := ti_addL a (0 : Int32) 0 rfl; omega), (by have := ti_addL a (0 : Int32) 0 rfl; omega), pv_kind (Or.inl (by have := ti_addL a (0 : Int32) 0 rfl; omega))⟩⟩ _ (fun r3 g4 p5 => ?_)
      have f6 : ∀ k, (k < 40 ∨ 41 < k) → g4 k = h k := fun k hk => (p5.2 k (by omega)).trans (hgf k hk)
      have k7 : mi g4 := by unfold mi; rw [p5.2 39 (by omega)]; exact hgmi
      have k8 : zs g4 := by unfold zs; rw [p5.2 49 (by omega)]; exact hgzs
      have k9 : rw_ g4 := by unfold rw_; rw [p5.2 46 (by omega)]; exact hgrw
      have k10 : am g4 := by unfold am; rw [p5.2 41 (by omega)]; exact hgam
      show Q (some (.int r3)) g4
      exact hq r3 g4 ⟨k7, p5.1, k8, k9, (fun k hk => f6 k hk)⟩
    · refine sf_174_39 X g ((10 * a) + l3) hgam _ (fun r11 p12 => ?_)
      show qm_PW X 160 [.int b, .int l3] g _
      refine sf_160 X g b l3 trivial _ (fun r13 p14 => ?_)
      show (r11.toInt ≤ r13.toInt → (qm_PA X 194 28 [(0, .ref 39), (1, .int a), (2, .int b), (3, .int (l3 + 1))] [] g Q)) ∧ (r13.toInt < r11.toInt → (Q (some (.int (-3 : Int32))) g))
      refine ⟨fun c15 => ?_, fun c16 => ?_⟩
      · exact ih (l3 + 1) g ⟨(by have := ti_addK l3 (1 : Int32) 1 rfl; show 0 ≤ (l3 + 1).toInt ∧ (l3 + 1).toInt ≤ 5 ∧ 0 ≤ a.toInt ∧ a.toInt < 4; omega), hgmi, hgsm, hgzs, hgrw, hgam, (fun k hk => hgf k hk)⟩ (by have := ti_addK l3 (1 : Int32) 1 rfl; show (5 - (l3 + 1).toInt).toNat < n; omega)
      · exact hq (-3 : Int32) g ⟨hgmi, hgsm, hgzs, hgrw, (fun k hk => hgf k hk)⟩
set_option maxRecDepth 100000 in
set_option maxHeartbeats 4000000 in
theorem sf_194_39 (X : qm_X) (h : qm_H) (a : Int32) (b : Int32) (hp : mi h ∧ sm h ∧ zs h ∧ rw_ h) (Q : qm_Q) (hq : ∀ r : Int32, ∀ h' : qm_H, (mi h' ∧ sm h' ∧ zs h' ∧ rw_ h' ∧ (∀ k, (k < 40 ∨ 41 < k) → h' k = h k)) → Q (some (.int r)) h') : qm_PW X 194 [.ref 39, .int a, .int b] h Q := by
  have hmmi : mi h := hp.1
  have ⟨⟨_, _⟩, ⟨_, _⟩, ⟨_, _⟩, ⟨_, _⟩, _, _⟩ := hmmi
  have hmsm : sm h := hp.2.1
  have ⟨⟨⟨_, _⟩, _, _⟩, _, _, _⟩ := hmsm
  have hmzs : zs h := hp.2.2.1
  have hmrw : rw_ h := hp.2.2.2
  refine qm_seg_ok (C := qc_194) (rt := some .int) rfl rfl (cuts := [(28, [0, 1, 2, 3])]) 400 _ _ _ _ ?_
  show qm_PW X 164 [.ref 39, .int a] h _
  refine sf_164_39 X h a hmmi _ (fun r1 p2 => ?_)
  show (r1 = 0 → (Q (some (.int (-1 : Int32))) h)) ∧ (¬ r1 = 0 → (qm_PW X 141 [.long (Int32.toInt64 b), .long 0, .long 3] h _))
  refine ⟨fun c3 => ?_, fun c4 => ?_⟩
  · exact hq (-1 : Int32) h ⟨hmmi, hmsm, hmzs, hmrw, (fun k hk => rfl)⟩
  · have := p2.2 c4
    refine sf_141 X h ((Int32.toInt64 b) : Int64) (0 : Int64) (3 : Int64) trivial _ (fun r5 p6 => ?_)
    show (¬ r5 = 0 → (qm_PW X 169 [.ref 39] h _)) ∧ (r5 = 0 → (Q (some (.int (-1 : Int32))) h))
    refine ⟨fun c7 => ?_, fun c8 => ?_⟩
    · have := p6.2.1 c7
      refine sf_169_39 X h  hmsm _ (fun g9 p10 => ?_)
      have f11 : ∀ k, (k < 40 ∨ 41 < k) → g9 k = h k := fun k hk => (p10.2.1 k (by omega)).trans (rfl)
      have k12 : mi g9 := by unfold mi; rw [p10.2.1 39 (by omega)]; exact hmmi
      have k13 : sm g9 := by unfold sm; rw [p10.2.1 40 (by omega)]; exact hmsm
      have k14 : zs g9 := by unfold zs; rw [p10.2.1 49 (by omega)]; exact hmzs
      have k15 : rw_ g9 := by unfold rw_; rw [p10.2.1 46 (by omega)]; exact hmrw
      show qm_PA X 194 28 [(0, .ref 39), (1, .int a), (2, .int b), (3, .int 0)] [] g9 Q
      exact (sf_194_39_c X h a b hp Q hq _) (0 : Int32) g9 ⟨(by have : (0 : Int32).toInt = 0 := rfl; have : (0 : Int64).toInt = 0 := rfl; have : (3 : Int64).toInt = 3 := rfl; have := i64 b; show 0 ≤ (0 : Int32).toInt ∧ (0 : Int32).toInt ≤ 5 ∧ 0 ≤ a.toInt ∧ a.toInt < 4; omega), k12, k13, k14, k15, p10.1, (fun k hk => f11 k hk)⟩ (Nat.lt_succ_self _)
    · have := p6.2.2 c8
      exact hq (-1 : Int32) h ⟨hmmi, hmsm, hmzs, hmrw, (fun k hk => rfl)⟩
-- ThreadBankModel.cut(I)I
set_option maxRecDepth 100000 in
set_option maxHeartbeats 4000000 in
theorem sf_190_39 (X : qm_X) (h : qm_H) (a : Int32) (hp : mi h ∧ sm h ∧ zs h ∧ rw_ h) (Q : qm_Q) (hq : ∀ r : Int32, ∀ h' : qm_H, (mi h' ∧ sm h' ∧ zs h' ∧ rw_ h' ∧ (∀ k, (k < 40 ∨ 41 < k) → h' k = h k)) → Q (some (.int r)) h') : qm_PW X 190 [.ref 39, .int a] h Q := by
  have hmmi : mi h := hp.1
  have ⟨⟨_, _⟩, ⟨_, _⟩, ⟨_, _⟩, ⟨_, _⟩, _, _⟩ := hmmi
  have hmsm : sm h := hp.2.1
  have ⟨⟨⟨_, _⟩, _, _⟩, _, _, _⟩ := hmsm
  have hmzs : zs h := hp.2.2.1
  have hmrw : rw_ h := hp.2.2.2
  refine qm_seg_ok (C := qc_190) (rt := some .int) rfl rfl (cuts := []) 400 _ _ _ _ ?_
  show qm_PW X 167 [.ref 39, .int a] h _
  refine sf_167_39 X h a hmsm _ (fun r1 p2 => ?_)
  show (¬ r1 = 0 → (qm_PW X 169 [.ref 39] h _)) ∧ (r1 = 0 → (Q (some (.int (-1 : Int32))) h))
  refine ⟨fun c3 => ?_, fun c4 => ?_⟩
  · have := p2.2 c3
    refine sf_169_39 X h  hmsm _ (fun g5 p6 => ?_)
    have f7 : ∀ k, (k < 40 ∨ 41 < k) → g5 k = h k := fun k hk => (p6.2.1 k (by omega)).trans (rfl)
    have k8 : mi g5 := by unfold mi; rw [p6.2.1 39 (by omega)]; exact hmmi
    have k9 : sm g5 := by unfold sm; rw [p6.2.1 40 (by omega)]; exact hmsm
    have k10 : zs g5 := by unfold zs; rw [p6.2.1 49 (by omega)]; exact hmzs
    have k11 : rw_ g5 := by unfold rw_; rw [p6.2.1 46 (by omega)]; exact hmrw
    show qm_PW X 177 [.ref 39, .int (1 <<< (a &&& 31))] g5 _
    refine sf_177_39 X g5 (1 <<< (a &&& 31)) p6.1 _ (fun g12 p13 => ?_)
    have f14 : ∀ k, (k < 40 ∨ 41 < k) → g12 k = h k := fun k hk => (p13.2 k (by omega)).trans (f7 k hk)
    have k15 : mi g12 := by unfold mi; rw [p13.2 39 (by omega)]; exact k8
    have k16 : sm g12 := by unfold sm; rw [p13.2 40 (by omega)]; exact k9
    have k17 : zs g12 := by unfold zs; rw [p13.2 49 (by omega)]; exact k10
    have k18 : rw_ g12 := by unfold rw_; rw [p13.2 46 (by omega)]; exact k11
    show qm_PW X 170 [.ref 39] g12 _
    refine sf_170_39 X g12  ⟨k16, p13.1⟩ _ (fun g19 p20 => ?_)
    have f21 : ∀ k, (k < 40 ∨ 41 < k) → g19 k = h k := fun k hk => (p20.2.1 k (by omega)).trans (f14 k hk)
    have k22 : mi g19 := by unfold mi; rw [p20.2.1 39 (by omega)]; exact k15
    have k23 : zs g19 := by unfold zs; rw [p20.2.1 49 (by omega)]; exact k17
    have k24 : rw_ g19 := by unfold rw_; rw [p20.2.1 46 (by omega)]; exact k18
    have k25 : am g19 := by unfold am; rw [p20.2.1 41 (by omega)]; exact p13.1
    show (0 ≤ (4 : Int) ∧ (4 : Int) < 147) ∧ (Q (some (.int (g19 40 4))) g19)
    refine ⟨by decide, ?_⟩
    exact hq (g19 40 4) g19 ⟨k22, p20.1, k23, k24, (fun k hk => f21 k hk)⟩
  · exact hq (-1 : Int32) h ⟨hmmi, hmsm, hmzs, hmrw, (fun k hk => rfl)⟩
-- ThreadBankModel.lose(I)I
set_option maxRecDepth 100000 in
set_option maxHeartbeats 4000000 in
theorem sf_193_39 (X : qm_X) (h : qm_H) (a : Int32) (hp : mi h ∧ sm h ∧ zs h ∧ rw_ h) (Q : qm_Q) (hq : ∀ r : Int32, ∀ h' : qm_H, (mi h' ∧ sm h' ∧ zs h' ∧ rw_ h' ∧ (∀ k, (k < 40 ∨ 41 < k) → h' k = h k)) → Q (some (.int r)) h') : qm_PW X 193 [.ref 39, .int a] h Q := by
  have hmmi : mi h := hp.1
  have ⟨⟨_, _⟩, ⟨_, _⟩, ⟨_, _⟩, ⟨_, _⟩, _, _⟩ := hmmi
  have hmsm : sm h := hp.2.1
  have ⟨⟨⟨_, _⟩, _, _⟩, _, _, _⟩ := hmsm
  have hmzs : zs h := hp.2.2.1
  have hmrw : rw_ h := hp.2.2.2
  refine qm_seg_ok (C := qc_193) (rt := some .int) rfl rfl (cuts := []) 400 _ _ _ _ ?_
  show qm_PW X 164 [.ref 39, .int a] h _
  refine sf_164_39 X h a hmmi _ (fun r1 p2 => ?_)
  show (¬ r1 = 0 → (qm_PW X 169 [.ref 39] h _)) ∧ (r1 = 0 → (Q (some (.int (-1 : Int32))) h))
  refine ⟨fun c3 => ?_, fun c4 => ?_⟩
  · have := p2.2 c3
    refine sf_169_39 X h  hmsm _ (fun g5 p6 => ?_)
    have f7 : ∀ k, (k < 40 ∨ 41 < k) → g5 k = h k := fun k hk => (p6.2.1 k (by omega)).trans (rfl)
    have k8 : mi g5 := by unfold mi; rw [p6.2.1 39 (by omega)]; exact hmmi
    have k9 : sm g5 := by unfold sm; rw [p6.2.1 40 (by omega)]; exact hmsm
    have k10 : zs g5 := by unfold zs; rw [p6.2.1 49 (by omega)]; exact hmzs
    have k11 : rw_ g5 := by unfold rw_; rw [p6.2.1 46 (by omega)]; exact hmrw
    show (0 ≤ (4 : Int) ∧ (4 : Int) < 49) ∧ (qm_PW X 192 [.ref 39, .int a] g5 _)
    refine ⟨by decide, ?_⟩
    refine sf_192_39 X g5 a p6.1 _ (fun r12 p13 => ?_)
    show qm_PW X 177 [.ref 39, .int r12] g5 _
    refine sf_177_39 X g5 r12 p6.1 _ (fun g14 p15 => ?_)
    have f16 : ∀ k, (k < 40 ∨ 41 < k) → g14 k = h k := fun k hk => (p15.2 k (by omega)).trans (f7 k hk)
    have k17 : mi g14 := by unfold mi; rw [p15.2 39 (by omega)]; exact k8
    have k18 : sm g14 := by unfold sm; rw [p15.2 40 (by omega)]; exact k9
    have k19 : zs g14 := by unfold zs; rw [p15.2 49 (by omega)]; exact k10
    have k20 : rw_ g14 := by unfold rw_; rw [p15.2 46 (by omega)]; exact k11
    show qm_PW X 170 [.ref 39] g14 _
    refine sf_170_39 X g14  ⟨k18, p15.1⟩ _ (fun g21 p22 => ?_)
    have f23 : ∀ k, (k < 40 ∨ 41 < k) → g21 k = h k := fun k hk => (p22.2.1 k (by omega)).trans (f16 k hk)
    have k24 : mi g21 := by unfold mi; rw [p22.2.1 39 (by omega)]; exact k17
    have k25 : zs g21 := by unfold zs; rw [p22.2.1 49 (by omega)]; exact k19
    have k26 : rw_ g21 := by unfold rw_; rw [p22.2.1 46 (by omega)]; exact k20
    have k27 : am g21 := by unfold am; rw [p22.2.1 41 (by omega)]; exact p15.1
    show (0 ≤ (4 : Int) ∧ (4 : Int) < 147) ∧ (Q (some (.int ((g5 41 4) - (g21 40 4)))) g21)
    refine ⟨by decide, ?_⟩
    exact hq ((g5 41 4) - (g21 40 4)) g21 ⟨k24, p22.1, k25, k26, (fun k hk => f23 k hk)⟩
  · exact hq (-1 : Int32) h ⟨hmmi, hmsm, hmzs, hmrw, (fun k hk => rfl)⟩
