theorem saw_ix {m : Int32} (h0 : 0 ≤ m.toInt) (h1 : m.toInt ≤ 5) : (37 + (2 * m)).toInt.toNat = 37 + 2 * m.toInt.toNat ∧ ((37 + (2 * m)) + 1).toInt.toNat = 38 + 2 * m.toInt.toNat := by
  have e1 := ti_mulL (2 : Int32) 2 rfl m (by omega)
  have e2 := ti_addL (2 * m) (37 : Int32) 37 rfl (by omega)
  have e4 := ti_addK (37 + (2 * m)) (1 : Int32) 1 rfl (by omega)
  omega
theorem see_eq {f : Nat → Int32} {a : Int32} (h0 : 0 ≤ (f 36).toInt) (h1 : (f 36).toInt ≤ 5) : (upd f (37 + (2 * (f 36))).toInt.toNat a) 36 = f 36 := by
  rw [(saw_ix h0 h1).1]
  unfold upd
  rw [if_neg (by omega)]
theorem see_ix {f : Nat → Int32} {a : Int32} : 0 ≤ (f 36).toInt → (f 36).toInt ≤ 5 → ((upd f (37 + (2 * (f 36))).toInt.toNat a) 36).toInt = (f 36).toInt := fun h0 h1 => by rw [see_eq h0 h1]
theorem sm_see {h : qm_H} (hp : sm h) {a b : Int32} (hs : (h 40 36).toInt ≤ 5) (ha : pr a) : sm (qm_row (qm_row (qm_row h 40 (upd (h 40) (37 + (2 * (h 40 36))).toInt.toNat a)) 40 (upd (upd (h 40) (37 + (2 * (h 40 36))).toInt.toNat a) ((37 + (2 * ((upd (h 40) (37 + (2 * (h 40 36))).toInt.toNat a) 36))) + 1).toInt.toNat b)) 40 (upd (upd (upd (h 40) (37 + (2 * (h 40 36))).toInt.toNat a) ((37 + (2 * ((upd (h 40) (37 + (2 * (h 40 36))).toInt.toNat a) 36))) + 1).toInt.toNat b) 36 (((upd (upd (h 40) (37 + (2 * (h 40 36))).toInt.toNat a) ((37 + (2 * ((upd (h 40) (37 + (2 * (h 40 36))).toInt.toNat a) 36))) + 1).toInt.toNat b) 36) + 1))) := by
  have hm := hp.1.2.1
  rw [see_eq hm hs, (saw_ix hm hs).1, (saw_ix hm hs).2]
  have e : (upd (upd (h 40) (37 + 2 * (h 40 36).toInt.toNat) a) (38 + 2 * (h 40 36).toInt.toNat) b) 36 = h 40 36 := by
    unfold upd
    rw [if_neg (by omega), if_neg (by omega)]
  rw [e]
  have e9 := ti_addK (h 40 36) (1 : Int32) 1 rfl (by omega)
  have h1 := sm_upd hp (j := 37 + 2 * (h 40 36).toInt.toNat) (v := a) (by omega) (pv_saw (by omega) ha)
  have h2 := sm_upd h1 (j := 38 + 2 * (h 40 36).toInt.toNat) (v := b) (by omega) (pv_much (by omega))
  exact sm_upd h2 (j := 36) (v := (h 40 36) + 1) (by omega) (pv_seen (by omega))
theorem lg_eq0 {x : Int64} (h : lg_cmp x 0 = 0) : x = 0 := by
  have e := lg_cmp_i x 0
  rw [h] at e
  have z : (0 : Int32).toInt = 0 := rfl
  have z2 : (0 : Int64).toInt = 0 := rfl
  exact Int64.toInt_inj.mp (by omega)
theorem l_rem (x y : Int64) (hy : ¬ y = 0) : (x - x / y * y).toInt.natAbs < y.toInt.natAbs := by
  have h0 : y.toInt ≠ 0 := fun e => hy (Int64.toInt_inj.mp (e.trans rfl))
  have hlt : (x.toInt.tmod y.toInt).natAbs < y.toInt.natAbs := by
    rw [Int.natAbs_tmod]; exact Nat.mod_lt _ (by omega)
  have e : x.toInt - x.toInt.tdiv y.toInt * y.toInt = x.toInt.tmod y.toInt := by
    have := Int.tmod_add_mul_tdiv x.toInt y.toInt
    rw [Int.mul_comm] at this
    omega
  have hy1 := y.toInt_lt
  have hy2 := y.le_toInt
  rw [Int64.toInt_sub, Int64.toInt_mul, Int64.toInt_div, Int.bmod_mul_bmod, Int.sub_bmod_bmod, e]
  have eb : (x.toInt.tmod y.toInt).bmod (2 ^ 64) = x.toInt.tmod y.toInt := by
    refine Int.bmod_eq_of_le ?_ ?_ <;> omega
  rw [eb]; exact hlt
-- ThreadBankModel.common(JJ)J
set_option maxRecDepth 100000 in
set_option maxHeartbeats 4000000 in
theorem sf_219_c (X : qm_X) (h : qm_H) (a : Int64) (b : Int64) (hp : ¬ a = 0) (Q : qm_Q) (hq : ∀ r : Int64, (¬ r = 0) → Q (some (.long r)) h) : ∀ n : Nat, (∀ (l4 : Int64) (l6 : Int64), (¬ l4 = 0 ∨ ¬ l6 = 0) → l6.toInt.natAbs < n → qm_PA X 219 6 [(0, .long a), (2, .long b), (4, .long l4), (6, .long l6)] [] h Q) := by
  have hp0 : ¬ a = 0 := hp
  intro n
  induction n with
  | zero => exact fun _ _ _ h0 => absurd h0 (Nat.not_lt_zero _)
  | succ n ih =>
    intro l4 l6 hi hr
    refine qm_seg_ok (C := qc_219) (rt := some .long) rfl rfl (cuts := [(6, [0, 2, 4, 6])]) 400 _ _ _ _ ?_
    show ((lg_cmp l6 0) = 0 → (Q (some (.long l4)) h)) ∧ (¬ (lg_cmp l6 0) = 0 → (¬ l6 = 0 ∧ (qm_PA X 219 6 [(0, .long a), (2, .long b), (4, .long l6), (6, .long (l4 - l4 / l6 * l6))] [] h Q)))
    refine ⟨fun c1 => ?_, fun c2 => ?_⟩
    · exact hq l4 (by have := lg_cmp_i l6 0; exact hi.resolve_right (fun hc => hc (lg_eq0 (by assumption))))
    · refine ⟨(lg_ne (by assumption)), ?_⟩
      exact ih l6 (l4 - l4 / l6 * l6) (by have := lg_cmp_i l6 0; first | exact Or.inl hp0 | exact Or.inl (lg_ne (by assumption))) (by have := lg_cmp_i l6 0; have := l_rem l4 l6 (lg_ne (by assumption)); omega)
set_option maxRecDepth 100000 in
set_option maxHeartbeats 4000000 in
theorem sf_219 (X : qm_X) (h : qm_H) (a : Int64) (b : Int64) (hp : ¬ a = 0) (Q : qm_Q) (hq : ∀ r : Int64, (¬ r = 0) → Q (some (.long r)) h) : qm_PW X 219 [.long a, .long b] h Q := by
  have hp0 : ¬ a = 0 := hp
  refine qm_seg_ok (C := qc_219) (rt := some .long) rfl rfl (cuts := [(6, [0, 2, 4, 6])]) 400 _ _ _ _ ?_
  show qm_PA X 219 6 [(0, .long a), (2, .long b), (4, .long a), (6, .long b)] [] h Q
  exact (sf_219_c X h a b hp Q hq _) a b (by first | exact Or.inl hp0 | exact Or.inl (lg_ne (by assumption))) (Nat.lt_succ_self _)
-- ThreadBankModel.told(JJI)J
set_option maxRecDepth 100000 in
set_option maxHeartbeats 4000000 in
theorem sf_220 (X : qm_X) (h : qm_H) (a : Int64) (b : Int64) (c : Int32) (hp : ¬ b = 0) (Q : qm_Q) (hq : ∀ r : Int64, (True) → Q (some (.long r)) h) : qm_PW X 220 [.long a, .long b, .int c] h Q := by
  have hp0 : ¬ b = 0 := hp
  refine qm_seg_ok (C := qc_220) (rt := some .long) rfl rfl (cuts := []) 400 _ _ _ _ ?_
  show qm_PW X 219 [.long b, .long a] h _
  refine sf_219 X h (b : Int64) (a : Int64) (by omega) _ (fun r1 p2 => ?_)
  show (¬ c = 0 → (¬ r1 = 0 ∧ (Q (some (.long (b / r1))) h))) ∧ (c = 0 → (¬ r1 = 0 ∧ (Q (some (.long (a / r1))) h)))
  refine ⟨fun c3 => ?_, fun c4 => ?_⟩
  · refine ⟨(by assumption), ?_⟩
    exact hq (b / r1) trivial
  · refine ⟨(by assumption), ?_⟩
    exact hq (a / r1) trivial
-- ThreadBankModel.slips(II)J
set_option maxRecDepth 100000 in
set_option maxHeartbeats 4000000 in
theorem sf_223_39_c (X : qm_X) (h : qm_H) (a : Int32) (b : Int32) (hp : mi h ∧ sm h ∧ zs h ∧ rw_ h) (Q : qm_Q) (hq : ∀ r : Int64, ∀ h' : qm_H, (mi h' ∧ sm h' ∧ zs h' ∧ rw_ h' ∧ (∀ k, (k < 41 ∨ 41 < k) → h' k = h k)) → Q (some (.long r)) h') : ∀ n : Nat, (∀ (l3 : Int64) (l5 : Int32) (g : qm_H), ((0 ≤ l5.toInt ∧ l5.toInt ≤ 10) ∧ mi g ∧ sm g ∧ zs g ∧ rw_ g ∧ am g ∧ ∀ k, (k < 41 ∨ 41 < k) → g k = h k) → (10 - l5.toInt).toNat < n → qm_PA X 223 32 [(0, .ref 39), (1, .int a), (2, .int b), (3, .long l3), (5, .int l5)] [] g Q) := by
  have hmmi : mi h := hp.1
  have ⟨⟨_, _⟩, ⟨_, _⟩, ⟨_, _⟩, ⟨_, _⟩, _, _⟩ := hmmi
  have hmsm : sm h := hp.2.1
  have ⟨⟨⟨_, _⟩, _, _⟩, _, _, _⟩ := hmsm
  have hmzs : zs h := hp.2.2.1
  have hmrw : rw_ h := hp.2.2.2
  intro n
  induction n with
  | zero => exact fun _ _ _ _ h0 => absurd h0 (Nat.not_lt_zero _)
  | succ n ih =>
    intro l3 l5 g hi hr
    obtain ⟨hi0, hgmi, hgsm, hgzs, hgrw, hgam, hgf⟩ := hi
    have ⟨⟨_, _⟩, ⟨_, _⟩, ⟨_, _⟩, ⟨_, _⟩, _, _⟩ := hgmi
    have ⟨⟨⟨_, _⟩, _, _⟩, _, _, _⟩ := hgsm
    have ⟨⟨_, _⟩, ⟨_, _⟩, _, _, _⟩ := hgam
    refine qm_seg_ok (C := qc_223) (rt := some .long) rfl rfl (cuts := [(32, [0, 1, 2, 3, 5])]) 400 _ _ _ _ ?_
    show (0 ≤ (4 : Int) ∧ (4 : Int) < 49) ∧ (((g 41 4).toInt ≤ l5.toInt → (qm_PW X 220 [.long l3, .long 20, .int b] g _)) ∧ (l5.toInt < (g 41 4).toInt → (qm_PW X 221 [.ref 39, .int l5, .int a] g _)))
    refine ⟨by decide, ?_⟩
    refine ⟨fun c1 => ?_, fun c2 => ?_⟩
    · refine sf_220 X g (l3 : Int64) (20 : Int64) b (by decide) _ (fun r3 p4 => ?_)
      show Q (some (.long r3)) g
      exact hq r3 g ⟨hgmi, hgsm, hgzs, hgrw, (fun k hk => hgf k hk)⟩
    · refine sf_221_39 X g l5 a ⟨hgam, (by omega)⟩ _ (fun r5 p6 => ?_)
      show qm_PA X 223 32 [(0, .ref 39), (1, .int a), (2, .int b), (3, .long (l3 + (Int32.toInt64 r5))), (5, .int (l5 + 1))] [] g Q
      exact ih (l3 + (Int32.toInt64 r5)) (l5 + 1) g ⟨(by have := ti_addK l5 (1 : Int32) 1 rfl; show 0 ≤ (l5 + 1).toInt ∧ (l5 + 1).toInt ≤ 10; omega), hgmi, hgsm, hgzs, hgrw, hgam, (fun k hk => hgf k hk)⟩ (by have := ti_addK l5 (1 : Int32) 1 rfl; show (10 - (l5 + 1).toInt).toNat < n; omega)
set_option maxRecDepth 100000 in
set_option maxHeartbeats 4000000 in
theorem sf_223_39 (X : qm_X) (h : qm_H) (a : Int32) (b : Int32) (hp : mi h ∧ sm h ∧ zs h ∧ rw_ h) (Q : qm_Q) (hq : ∀ r : Int64, ∀ h' : qm_H, (mi h' ∧ sm h' ∧ zs h' ∧ rw_ h' ∧ (∀ k, (k < 41 ∨ 41 < k) → h' k = h k)) → Q (some (.long r)) h') : qm_PW X 223 [.ref 39, .int a, .int b] h Q := by
  have hmmi : mi h := hp.1
  have ⟨⟨_, _⟩, ⟨_, _⟩, ⟨_, _⟩, ⟨_, _⟩, _, _⟩ := hmmi
  have hmsm : sm h := hp.2.1
  have ⟨⟨⟨_, _⟩, _, _⟩, _, _, _⟩ := hmsm
  have hmzs : zs h := hp.2.2.1
  have hmrw : rw_ h := hp.2.2.2
  refine qm_seg_ok (C := qc_223) (rt := some .long) rfl rfl (cuts := [(32, [0, 1, 2, 3, 5])]) 400 _ _ _ _ ?_
  show qm_PW X 141 [.long (Int32.toInt64 a), .long 0, .long 10] h _
  refine sf_141 X h ((Int32.toInt64 a) : Int64) (0 : Int64) (10 : Int64) trivial _ (fun r1 p2 => ?_)
  show (r1 = 0 → (Q (some (.long (-1 : Int64))) h)) ∧ (¬ r1 = 0 → (qm_PW X 168 [.int b] h _))
  refine ⟨fun c3 => ?_, fun c4 => ?_⟩
  · have := p2.2.2 c3
    exact hq (-1 : Int64) h ⟨hmmi, hmsm, hmzs, hmrw, (fun k hk => rfl)⟩
  · have := p2.2.1 c4
    refine sf_168 X h b trivial _ (fun r5 p6 => ?_)
    show (¬ r5 = 0 → (qm_PW X 169 [.ref 39] h _)) ∧ (r5 = 0 → (Q (some (.long (-1 : Int64))) h))
    refine ⟨fun c7 => ?_, fun c8 => ?_⟩
    · have := p6.2 c7
      refine sf_169_39 X h  hmsm _ (fun g9 p10 => ?_)
      have f11 : ∀ k, (k < 41 ∨ 41 < k) → g9 k = h k := fun k hk => (p10.2.1 k (by omega)).trans (rfl)
      have k12 : mi g9 := by unfold mi; rw [p10.2.1 39 (by omega)]; exact hmmi
      have k13 : sm g9 := by unfold sm; rw [p10.2.1 40 (by omega)]; exact hmsm
      have k14 : zs g9 := by unfold zs; rw [p10.2.1 49 (by omega)]; exact hmzs
      have k15 : rw_ g9 := by unfold rw_; rw [p10.2.1 46 (by omega)]; exact hmrw
      show qm_PA X 223 32 [(0, .ref 39), (1, .int a), (2, .int b), (3, .long 0), (5, .int 0)] [] g9 Q
      exact (sf_223_39_c X h a b hp Q hq _) (0 : Int64) (0 : Int32) g9 ⟨(by have : (0 : Int32).toInt = 0 := rfl; have : (0 : Int64).toInt = 0 := rfl; have : (10 : Int64).toInt = 10 := rfl; have := i64 a; show 0 ≤ (0 : Int32).toInt ∧ (0 : Int32).toInt ≤ 10; omega), k12, k13, k14, k15, p10.1, (fun k hk => f11 k hk)⟩ (Nat.lt_succ_self _)
    · exact hq (-1 : Int64) h ⟨hmmi, hmsm, hmzs, hmrw, (fun k hk => rfl)⟩
theorem lg_pos {x : Int64} (h : 1 ≤ x.toInt) : ¬ x = 0 := by
  intro e
  rw [e] at h
  exact absurd h (by decide)
theorem l_mul20 (x : Int64) : 0 ≤ x.toInt → x.toInt ≤ 400000000000000000 → (x * 20).toInt = 20 * x.toInt := by
  intro h0 h1
  rw [Int64.toInt_mul, show (20 : Int64).toInt = 20 from rfl]
  rw [Int.mul_comm]
  refine Int.bmod_eq_of_le ?_ ?_ <;> omega
theorem l_mul1 (x : Int64) : (x * 1).toInt = x.toInt := by
  rw [Int64.mul_one]
/-! ===== the reference's parser: what is held to ===== -/
noncomputable def pp (h : qm_H) : Prop := (0 ≤ (h 39 5).toInt ∧ (h 39 5).toInt ≤ 4) ∧ (0 ≤ (h 39 10).toInt ∧ (h 39 10).toInt ≤ 160) ∧ (0 ≤ (h 39 14).toInt ∧ (h 39 14).toInt ≤ 7)
/-- the draft: how many, their places, what was seen -/
noncomputable def dd (h : qm_H) : Prop := (0 ≤ (h 43 4).toInt ∧ (h 43 4).toInt ≤ 10) ∧ (0 ≤ (h 43 36).toInt ∧ (h 43 36).toInt ≤ 0) ∧ (∀ t : Nat, t < 10 → 0 ≤ (h 43 (6 + 3 * t)).toInt ∧ (h 43 (6 + 3 * t)).toInt ≤ 39) ∧ (∀ k : Nat, k < 6 → pr (h 43 (37 + 2 * k))) ∧ ∀ t : Nat, t < 10 → 0 ≤ (h 43 (8 + 3 * t)).toInt ∧ (h 43 (8 + 3 * t)).toInt ≤ 99
/-- the draft's pairs, while there is no fault -/
noncomputable def dp (h : qm_H) : Prop := (h 39 14).toInt = 0 → ∀ t : Nat, t < 10 → pr (h 43 (7 + 3 * t))
theorem pk_draft {h : qm_H} (h1 : dd h) (h2 : dp h) (hf : (h 39 14).toInt = 0) : pk (h 43) 0 := by
  obtain ⟨a, b, c, d, e⟩ := h1
  refine ⟨a, ⟨b.1, Int.le_trans b.2 (by decide)⟩, fun t ht => ?_, fun t ht => ?_, fun k hk => ?_, fun t ht => ?_⟩
  · rw [Nat.zero_add]; exact c t ht
  · rw [Nat.zero_add]; exact h2 hf t ht
  · rw [Nat.zero_add]; exact d k hk
  · rw [Nat.zero_add]; exact e t ht
/-- a thread told in the draft -/
theorem dd_tie {h : qm_H} (hd : dd h) {f : Nat → Int32} {n : Nat} {p q k m : Int32} (hn : n < 10) (hp : 0 ≤ p.toInt ∧ p.toInt ≤ 39) (hk : 0 ≤ k.toInt ∧ k.toInt ≤ 99) (hm : 0 ≤ m.toInt ∧ m.toInt ≤ 10) (e : f = upd (upd (upd (upd (h 43) (6 + 3 * n) p) (7 + 3 * n) q) (8 + 3 * n) k) 4 m) :
    ((0 ≤ (f 4).toInt ∧ (f 4).toInt ≤ 10) ∧ (0 ≤ (f 36).toInt ∧ (f 36).toInt ≤ 0) ∧ (∀ t : Nat, t < 10 → 0 ≤ (f (6 + 3 * t)).toInt ∧ (f (6 + 3 * t)).toInt ≤ 39) ∧ (∀ k : Nat, k < 6 → pr (f (37 + 2 * k))) ∧ ∀ t : Nat, t < 10 → 0 ≤ (f (8 + 3 * t)).toInt ∧ (f (8 + 3 * t)).toInt ≤ 99) := by
  subst e
  obtain ⟨h1, h2, h3, h4, h5⟩ := hd
  refine ⟨by unfold upd; rw [if_pos rfl]; exact hm, ?_, fun t ht => ?_, fun i hi => ?_, fun t ht => ?_⟩
  · unfold upd; rw [if_neg (by omega), if_neg (by omega), if_neg (by omega), if_neg (by omega)]; exact h2
  · unfold upd; rw [if_neg (by omega), if_neg (by omega), if_neg (by omega)]
    split
    · exact hp
    · exact h3 t ht
  · unfold upd; rw [if_neg (by omega), if_neg (by omega), if_neg (by omega), if_neg (by omega)]; exact h4 i hi
  · unfold upd; rw [if_neg (by omega)]
    split
    · exact hk
    · rw [if_neg (by omega), if_neg (by omega)]; exact h5 t ht
theorem dp_tie {h : qm_H} {f : Nat → Int32} {n : Nat} {p q k m : Int32} (hd : ∀ t : Nat, t < 10 → pr (h 43 (7 + 3 * t))) (hq : pr q) (e : f = upd (upd (upd (upd (h 43) (6 + 3 * n) p) (7 + 3 * n) q) (8 + 3 * n) k) 4 m) : ∀ t : Nat, t < 10 → pr (f (7 + 3 * t)) := by
  subst e
  intro t ht
  unfold upd
  rw [if_neg (by omega), if_neg (by omega)]
  split
  · exact hq
  · rw [if_neg (by omega)]; exact hd t ht
/-- a place of the draft that is neither a thread's nor what was seen -/
theorem dd_low {h : qm_H} (hd : dd h) {n : Nat} {x : Int32} (hn : n < 6) (hm : n = 4 → 0 ≤ x.toInt ∧ x.toInt ≤ 10) : dd (qm_row h 43 (upd (h 43) n x)) := by
  obtain ⟨h1, h2, h3, h4, h5⟩ := hd
  refine ⟨?_, ?_, fun t ht => ?_, fun i hi => ?_, fun t ht => ?_⟩
  · show 0 ≤ (upd (h 43) n x 4).toInt ∧ (upd (h 43) n x 4).toInt ≤ 10
    unfold upd; split
    · exact hm (by omega)
    · exact h1
  · show 0 ≤ (upd (h 43) n x 36).toInt ∧ (upd (h 43) n x 36).toInt ≤ 0
    unfold upd; rw [if_neg (by omega)]; exact h2
  · show 0 ≤ (upd (h 43) n x (6 + 3 * t)).toInt ∧ (upd (h 43) n x (6 + 3 * t)).toInt ≤ 39
    unfold upd; rw [if_neg (by omega)]; exact h3 t ht
  · show pr (upd (h 43) n x (37 + 2 * i))
    unfold upd; rw [if_neg (by omega)]; exact h4 i hi
  · show 0 ≤ (upd (h 43) n x (8 + 3 * t)).toInt ∧ (upd (h 43) n x (8 + 3 * t)).toInt ≤ 99
    unfold upd; rw [if_neg (by omega)]; exact h5 t ht
theorem dp_low {h : qm_H} (hd : dp h) {n : Nat} {x : Int32} (hn : n < 6) : dp (qm_row h 43 (upd (h 43) n x)) := by
  intro hf t ht
  show pr (upd (h 43) n x (7 + 3 * t))
  unfold upd; rw [if_neg (by omega)]; exact hd hf t ht
theorem row_tie {h g1 g2 g3 : qm_H} {r1 r2 r3 : Int32} (e1 : g1 43 = h 43) (e2 : g2 43 = upd (g1 43) ((6 + (3 * (h 43 4))) + 0).toInt.toNat r1) (e3 : g3 43 = upd (g2 43) ((6 + (3 * (h 43 4))) + 1).toInt.toNat r2) (h0 : 0 ≤ (h 43 4).toInt) (hm : (h 43 4).toInt < 10) : upd (g3 43) ((6 + (3 * (h 43 4))) + 2).toInt.toNat r3 = upd (upd (upd (h 43) (6 + 3 * (h 43 4).toInt.toNat) r1) (7 + 3 * (h 43 4).toInt.toNat) r2) (8 + 3 * (h 43 4).toInt.toNat) r3 := by
  obtain ⟨i0, i1, i2⟩ := tie_ix (m := h 43 4) ⟨h0, by omega⟩
  rw [e3, e2, e1, i0, i1, i2]
theorem row_tie4 {f : Nat → Int32} {n : Nat} {r1 r2 r3 : Int32} : (upd (upd (upd f (6 + 3 * n) r1) (7 + 3 * n) r2) (8 + 3 * n) r3) 4 = f 4 := by
  unfold upd
  rw [if_neg (by omega), if_neg (by omega), if_neg (by omega)]
theorem dd_tie2 {h g1 g2 g3 : qm_H} {r1 r2 r3 : Int32} (e1 : g1 43 = h 43) (e2 : g2 43 = upd (g1 43) ((6 + (3 * (h 43 4))) + 0).toInt.toNat r1) (e3 : g3 43 = upd (g2 43) ((6 + (3 * (h 43 4))) + 1).toInt.toNat r2) (hd : dd h) (hm : (h 43 4).toInt < 10) (hp : 0 ≤ r1.toInt ∧ r1.toInt ≤ 39) (hk : 0 ≤ r3.toInt ∧ r3.toInt ≤ 99) : dd (qm_row (qm_row g3 43 (upd (g3 43) ((6 + (3 * (h 43 4))) + 2).toInt.toNat r3)) 43 (upd (upd (g3 43) ((6 + (3 * (h 43 4))) + 2).toInt.toNat r3) 4 (((upd (g3 43) ((6 + (3 * (h 43 4))) + 2).toInt.toNat r3) 4) + 1))) := by
  have h0 := hd.1.1
  have er := row_tie (r3 := r3) e1 e2 e3 h0 hm
  have e4 : (upd (g3 43) ((6 + (3 * (h 43 4))) + 2).toInt.toNat r3) 4 = h 43 4 := by rw [er]; exact row_tie4
  have hM := ti_addK (h 43 4) (1 : Int32) 1 rfl
  rw [e4, er]
  exact dd_tie hd (n := (h 43 4).toInt.toNat) (p := r1) (q := r2) (k := r3) (m := h 43 4 + 1) (by omega) hp hk (by omega) rfl
theorem dp_tie2 {h g1 g2 g3 : qm_H} {r1 r2 r3 : Int32} (e1 : g1 43 = h 43) (e2 : g2 43 = upd (g1 43) ((6 + (3 * (h 43 4))) + 0).toInt.toNat r1) (e3 : g3 43 = upd (g2 43) ((6 + (3 * (h 43 4))) + 1).toInt.toNat r2) (hd : dd h) (hm : (h 43 4).toInt < 10) (hp : dp h) (hf : (g3 39 14).toInt = 0 → (h 39 14).toInt = 0 ∧ pr r2) : dp (qm_row (qm_row g3 43 (upd (g3 43) ((6 + (3 * (h 43 4))) + 2).toInt.toNat r3)) 43 (upd (upd (g3 43) ((6 + (3 * (h 43 4))) + 2).toInt.toNat r3) 4 (((upd (g3 43) ((6 + (3 * (h 43 4))) + 2).toInt.toNat r3) 4) + 1))) := by
  intro hz
  have hz' : (g3 39 14).toInt = 0 := hz
  obtain ⟨hz0, hq⟩ := hf hz'
  have er := row_tie (r3 := r3) e1 e2 e3 hd.1.1 hm
  show ∀ t : Nat, t < 10 → pr ((upd (upd (g3 43) ((6 + (3 * (h 43 4))) + 2).toInt.toNat r3) 4 (((upd (g3 43) ((6 + (3 * (h 43 4))) + 2).toInt.toNat r3) 4) + 1)) (7 + 3 * t))
  rw [er]
  exact dp_tie (h := h) (n := (h 43 4).toInt.toNat) (p := r1) (q := r2) (k := r3) (hp hz0) hq rfl
/-! firstDraft() and keepDraft(), to the letter -/
noncomputable def S143 (h : qm_H) : qm_H := qm_row (qm_row h 43 (fun j => if j < 49 then 0 else h 43 j)) 39 (upd (upd (upd (h 39) 5 0) 6 0) 7 (-4))
noncomputable def S144 (h : qm_H) : qm_H := qm_row (qm_row (qm_row h 40 (fun j => if j < 49 then h 43 j else h 40 j)) 39 (upd (h 39) 3 (h 39 5))) 42 (upd (upd (h 42) 0 0) 1 0)
set_option maxRecDepth 100000 in
set_option maxHeartbeats 4000000 in
theorem ex_143_c (X : qm_X) (h : qm_H) (Q : qm_Q) (hq : Q none (S143 h)) : ∀ n : Nat, ∀ (l1 : Int32), (0 ≤ l1.toInt ∧ l1.toInt ≤ 49) → (49 - l1.toInt).toNat < n → qm_PA X 143 2 [(0, .ref 39), (1, .int l1)] [] (qm_row h 43 (fun j => if j < l1.toInt.toNat then 0 else h 43 j)) Q := by
  intro n
  induction n with
  | zero => exact fun _ _ h0 => absurd h0 (Nat.not_lt_zero _)
  | succ n ih =>
    intro l1 hi hr
    generalize hg : qm_row h 43 (fun j => if j < l1.toInt.toNat then 0 else h 43 j) = g
    refine qm_seg_ok (C := qc_143) (rt := none) rfl rfl (cuts := [(2, [0, 1])]) 400 _ _ _ _ ?_
    show (49 ≤ l1.toInt → (((0 : Int32) = 0 ∨ (0 : Int32) = 1) ∧ (Q none (qm_row (qm_row (qm_row g 39 (upd (g 39) 5 0)) 39 (upd (upd (g 39) 5 0) 6 0)) 39 (upd (upd (upd (g 39) 5 0) 6 0) 7 (-4 : Int32)))))) ∧ (l1.toInt < 49 → ((0 ≤ l1.toInt ∧ l1.toInt < 49) ∧ (qm_PA X 143 2 [(0, .ref 39), (1, .int (l1 + 1))] [] (qm_row g 43 (upd (g 43) l1.toInt.toNat 0)) Q)))
    refine ⟨fun c1 => ⟨Or.inl rfl, ?_⟩, fun c2 => ⟨⟨hi.1, c2⟩, ?_⟩⟩
    · refine (congrArg (Q none) ?_).mpr hq
      have e49 : l1.toInt.toNat = 49 := by omega
      rw [e49] at hg
      subst hg
      funext k
      unfold S143
      by_cases h9 : k = 39
      · subst h9; simp [qm_row]
      · simp [qm_row, h9]
    · have e1 := ti_addK l1 (1 : Int32) 1 rfl (by omega)
      have e2 : (l1 + 1).toInt.toNat = l1.toInt.toNat + 1 := by omega
      have k := ih (l1 + 1) (by omega) (by omega)
      refine (congrArg (fun z => qm_PA X 143 2 [(0, .ref 39), (1, .int (l1 + 1))] [] z Q) ?_).mpr k
      subst hg
      rw [e2]
      funext r
      by_cases h43 : r = 43
      · subst h43
        simp only [qm_row, if_true]
        funext j
        unfold upd
        by_cases hj : j = l1.toInt.toNat
        · rw [if_pos hj, if_pos (by omega)]
        · rw [if_neg hj]
          by_cases hj2 : j < l1.toInt.toNat
          · show (if j < l1.toInt.toNat then (0 : Int32) else h 43 j) = _
            rw [if_pos hj2, if_pos (by omega)]
          · show (if j < l1.toInt.toNat then (0 : Int32) else h 43 j) = _
            rw [if_neg hj2, if_neg (by omega)]
      · simp [qm_row, h43]
set_option maxRecDepth 100000 in
set_option maxHeartbeats 4000000 in
theorem ex_143 (X : qm_X) (h : qm_H) (Q : qm_Q) (hq : Q none (S143 h)) : qm_PW X 143 [.ref 39] h Q := by
  refine qm_seg_ok (C := qc_143) (rt := none) rfl rfl (cuts := [(2, [0, 1])]) 400 _ _ _ _ ?_
  show qm_PA X 143 2 [(0, .ref 39), (1, .int 0)] [] h Q
  have k := ex_143_c X h Q hq _ 0 (by decide) (Nat.lt_succ_self _)
  refine (congrArg (fun z => qm_PA X 143 2 [(0, .ref 39), (1, .int 0)] [] z Q) ?_).mpr k
  funext r
  by_cases h43 : r = 43
  · subst h43
    simp only [qm_row, if_true]
    funext j
    rw [if_neg (by have : (0 : Int32).toInt.toNat = 0 := rfl; omega)]
  · simp [qm_row, h43]
set_option maxRecDepth 100000 in
set_option maxHeartbeats 4000000 in
theorem ex_144_c (X : qm_X) (h : qm_H) (Q : qm_Q) (hq : Q none (S144 h)) : ∀ n : Nat, ∀ (l1 : Int32), (0 ≤ l1.toInt ∧ l1.toInt ≤ 49) → (49 - l1.toInt).toNat < n → qm_PA X 144 2 [(0, .ref 39), (1, .int l1)] [] (qm_row h 40 (fun j => if j < l1.toInt.toNat then h 43 j else h 40 j)) Q := by
  intro n
  induction n with
  | zero => exact fun _ _ h0 => absurd h0 (Nat.not_lt_zero _)
  | succ n ih =>
    intro l1 hi hr
    generalize hg : qm_row h 40 (fun j => if j < l1.toInt.toNat then h 43 j else h 40 j) = g
    refine qm_seg_ok (C := qc_144) (rt := none) rfl rfl (cuts := [(2, [0, 1])]) 400 _ _ _ _ ?_
    show (49 ≤ l1.toInt → ((0 ≤ (0 : Int) ∧ (0 : Int) < 2) ∧ ((0 ≤ (1 : Int) ∧ (1 : Int) < 2) ∧ (Q none (qm_row (qm_row (qm_row g 39 (upd (g 39) 3 (g 39 5))) 42 (upd (g 42) 0 (vp_nar .boolean 0))) 42 (upd (upd (g 42) 0 (vp_nar .boolean 0)) 1 (vp_nar .boolean 0))))))) ∧ (l1.toInt < 49 → ((0 ≤ l1.toInt ∧ l1.toInt < 49) ∧ ((0 ≤ l1.toInt ∧ l1.toInt < 147) ∧ (qm_PA X 144 2 [(0, .ref 39), (1, .int (l1 + 1))] [] (qm_row g 40 (upd (g 40) l1.toInt.toNat (g 43 l1.toInt.toNat))) Q))))
    refine ⟨fun c1 => ⟨by decide, by decide, ?_⟩, fun c2 => ⟨⟨hi.1, c2⟩, ⟨hi.1, by omega⟩, ?_⟩⟩
    · refine (congrArg (Q none) ?_).mpr hq
      have e49 : l1.toInt.toNat = 49 := by omega
      rw [e49] at hg
      subst hg
      have ez : vp_nar .boolean 0 = (0 : Int32) := rfl
      rw [ez]
      funext k
      unfold S144
      by_cases h42 : k = 42
      · subst h42; simp [qm_row]
      · by_cases h9 : k = 39
        · subst h9; simp [qm_row]
        · simp [qm_row, h9, h42]
    · have e1 := ti_addK l1 (1 : Int32) 1 rfl (by omega)
      have e2 : (l1 + 1).toInt.toNat = l1.toInt.toNat + 1 := by omega
      have k := ih (l1 + 1) (by omega) (by omega)
      refine (congrArg (fun z => qm_PA X 144 2 [(0, .ref 39), (1, .int (l1 + 1))] [] z Q) ?_).mpr k
      subst hg
      rw [e2]
      funext r
      by_cases h40 : r = 40
      · subst h40
        simp only [qm_row, if_true]
        rw [if_neg (show ¬ (43 : Nat) = 40 by decide)]
        funext j
        unfold upd
        by_cases hj : j = l1.toInt.toNat
        · rw [if_pos hj, if_pos (by omega), hj]
        · rw [if_neg hj]
          by_cases hj2 : j < l1.toInt.toNat
          · show (if j < l1.toInt.toNat then h 43 j else h 40 j) = _
            rw [if_pos hj2, if_pos (by omega)]
          · show (if j < l1.toInt.toNat then h 43 j else h 40 j) = _
            rw [if_neg hj2, if_neg (by omega)]
      · simp [qm_row, h40]
set_option maxRecDepth 100000 in
set_option maxHeartbeats 4000000 in
theorem ex_144 (X : qm_X) (h : qm_H) (Q : qm_Q) (hq : Q none (S144 h)) : qm_PW X 144 [.ref 39] h Q := by
  refine qm_seg_ok (C := qc_144) (rt := none) rfl rfl (cuts := [(2, [0, 1])]) 400 _ _ _ _ ?_
  show qm_PA X 144 2 [(0, .ref 39), (1, .int 0)] [] h Q
  have k := ex_144_c X h Q hq _ 0 (by decide) (Nat.lt_succ_self _)
  refine (congrArg (fun z => qm_PA X 144 2 [(0, .ref 39), (1, .int 0)] [] z Q) ?_).mpr k
  funext r
  by_cases h40 : r = 40
  · subst h40
    simp only [qm_row, if_true]
    funext j
    rw [if_neg (by have : (0 : Int32).toInt.toNat = 0 := rfl; omega)]
  · simp [qm_row, h40]
/-! ===== rings: the digits of a code, what is owed along them ===== -/
noncomputable def dg (n c i : Nat) : Nat := c / 4 ^ (n - 1 - i) % 4
theorem dg_lt (n c i : Nat) : dg n c i < 4 := Nat.mod_lt _ (by decide)
noncomputable def rg (f : Nat → Int32) (n c : Nat) : Prop := ∀ i : Nat, i < n → (f i).toInt = ((dg n c i : Nat) : Int)
noncomputable def dst (n c : Nat) : Prop := ∀ i j : Nat, i < j → j < n → dg n c i ≠ dg n c j
/-- the place of a debt along a ring -/
noncomputable def pz (n c i : Nat) : Nat := 4 * dg n c i + dg n c ((i + 1) % n)
theorem pz_lt (n c i : Nat) : pz n c i < 16 := by
  have h1 := dg_lt n c i
  have h2 := dg_lt n c ((i + 1) % n)
  unfold pz
  omega
noncomputable def owz (f : Nat → Int32) (n : Int) : Prop := ∀ j : Nat, (j : Int) < n → f j = 0
noncomputable def owb (f : Nat → Int32) (K : Int) : Prop := ∀ j : Nat, j < 16 → 0 ≤ (f j).toInt ∧ (f j).toInt ≤ K
theorem owz_0 {f : Nat → Int32} : owz f 0 := fun j hj => by omega
theorem owz_upd {f : Nat → Int32} {i i' : Int32} (h : owz f i.toInt) (h0 : 0 ≤ i.toInt) (hi : i'.toInt = i.toInt + 1) : owz (upd f i.toInt.toNat 0) i'.toInt := by
  intro j hj
  unfold upd
  split
  · rfl
  · exact h j (by omega)
-- ThreadBankModel.isRow(II)Z: the digits, and that they are apart
noncomputable def rD (f : Nat → Int32) (i : Int) : Prop := ∀ j : Nat, 0 < j → (j : Int) < i → (f 0).toInt < (f j).toInt ∧ ∀ k : Nat, 0 < k → k < j → ¬ f j = f k
-- ThreadBankModel.leastIn(I)I
/-- the next place of a ring -/
theorem rg_at {f : Nat → Int32} {n c : Nat} {i : Int32} {m : Int32} (hg : rg f n c) (hn : m.toInt = n) (h2 : 2 ≤ n) (h4 : n ≤ 4) (h0 : 0 ≤ i.toInt) (h1 : i.toInt < n) : ((0 ≤ ((i + 1) - (i + 1) / m * m).toInt ∧ ((i + 1) - (i + 1) / m * m).toInt < 4) ∧ (0 ≤ ((4 * (f i.toInt.toNat)) + (f ((i + 1) - (i + 1) / m * m).toInt.toNat)).toInt ∧ ((4 * (f i.toInt.toNat)) + (f ((i + 1) - (i + 1) / m * m).toInt.toNat)).toInt < 16)) ∧ ((4 * (f i.toInt.toNat)) + (f ((i + 1) - (i + 1) / m * m).toInt.toNat)).toInt.toNat = pz n c i.toInt.toNat := by
  have e1 := ti_addK i (1 : Int32) 1 rfl (by omega)
  have e2 := ti_rem m n hn (i + 1) (by omega) (by omega)
  have e3 : ((i + 1) - (i + 1) / m * m).toInt.toNat = (i.toInt.toNat + 1) % n := by
    rw [e2, e1, show i.toInt + 1 = ((i.toInt.toNat + 1 : Nat) : Int) by omega, ← Int.natCast_emod, Int.toNat_natCast]
  have l1 : (i.toInt.toNat + 1) % n < n := Nat.mod_lt _ (by omega)
  have g1 := hg i.toInt.toNat (by omega)
  have g2 := hg ((i.toInt.toNat + 1) % n) l1
  have d1 := dg_lt n c i.toInt.toNat
  have d2 := dg_lt n c ((i.toInt.toNat + 1) % n)
  have e0 : ((i + 1) - (i + 1) / m * m).toInt = ((((i.toInt.toNat + 1) % n : Nat)) : Int) := by
    rw [e2, e1, show i.toInt + 1 = ((i.toInt.toNat + 1 : Nat) : Int) by omega, ← Int.natCast_emod]
  have e4 : 0 ≤ ((i + 1) - (i + 1) / m * m).toInt ∧ ((i + 1) - (i + 1) / m * m).toInt < 4 := by
    rw [e0]; omega
  rw [e3]
  have e5 := ti_mulL (4 : Int32) 4 rfl (f i.toInt.toNat) (by omega)
  have e6 := ti_add (4 * (f i.toInt.toNat)) (f ((i.toInt.toNat + 1) % n)) (by omega)
  refine ⟨⟨e4, by omega⟩, ?_⟩
  unfold pz
  omega
/-! ===== findRing() and clears() ===== -/
/-- what the ring found so far is: its size, its code, that each debt along it is at least v -/
noncomputable def rp (h : qm_H) : Prop := 0 ≤ (h 39 18).toInt ∧ (0 < (h 39 18).toInt → ∃ (n c : Nat) (v : Int), (h 39 19).toInt = n ∧ (h 39 20).toInt = c ∧ 2 ≤ n ∧ n ≤ 4 ∧ dst n c ∧ 1 ≤ v ∧ (h 39 18).toInt = n * v ∧ ∀ i : Nat, i < n → v ≤ (h 45 (pz n c i)).toInt)
noncomputable def rI (h g : qm_H) : Prop := mi g ∧ rw_ g ∧ owb (g 45) 100 ∧ rp g ∧ (∀ k, k ≠ 39 → k ≠ 46 → g k = h k) ∧ (∀ j, j ≠ 18 → j ≠ 19 → j ≠ 20 → g 39 j = h 39 j)
/-! what is owed in all falls -/
noncomputable def s16 (f : Nat → Int32) : Nat → Int
  | 0 => 0
  | k + 1 => s16 f k + (f k).toInt
noncomputable def cI (h g : qm_H) : Prop := mi g ∧ sm g ∧ zs g ∧ rw_ g ∧ owb (g 45) 100 ∧ (∀ k, (k < 39 ∨ 46 < k ∨ k = 40 ∨ k = 42 ∨ k = 43 ∨ k = 44) → g k = h k) ∧ ((g 39 9).toInt = (h 39 9).toInt ∧ (g 39 14).toInt = (h 39 14).toInt ∧ g 39 3 = h 39 3)
/-! ===== bits and long numbers for pays(), read(), kept(), none() ===== -/
theorem and_le (x y : Int32) : 0 ≤ x.toInt → 0 ≤ (x &&& y).toInt ∧ (x &&& y).toInt ≤ x.toInt := by
  intro h0
  have hx : x.toInt = x.toBitVec.toInt := rfl
  have hz : (x &&& y).toInt = (x.toBitVec &&& y.toBitVec).toInt := rfl
  rw [hz]
  rw [hx] at h0 ⊢
  generalize x.toBitVec = a at h0 ⊢
  generalize y.toBitVec = b
  have h1 : (a &&& b).toNat ≤ a.toNat := by rw [BitVec.toNat_and]; exact Nat.and_le_left
  have h2 := a.isLt
  have h3 := (a &&& b).isLt
  rw [BitVec.toInt_eq_toNat_cond] at h0 ⊢
  rw [BitVec.toInt_eq_toNat_cond]
  split at h0
  · rename_i hc
    have hc2 : 2 * (a &&& b).toNat < 2 ^ 32 := by omega
    rw [if_pos hc2, if_pos hc]
    omega
  · omega
theorem or_tab : ∀ k : Fin 16, ∀ f : Fin 2, ∀ c : Fin 4, 0 ≤ ((nI k) ||| ((nI f) <<< ((nI c) &&& 31))).toInt ∧ ((nI k) ||| ((nI f) <<< ((nI c) &&& 31))).toInt ≤ 15 := by decide +kernel
theorem i32_nI {x : Int32} (h : 0 ≤ x.toInt) : x = nI x.toInt.toNat := by
  obtain ⟨k, hk, e⟩ := nI_of (x := x) (by rw [Int32.lt_iff_toInt_lt]; show ¬ x.toInt < 0; omega)
  subst e
  rw [nI_toInt hk]
  rfl
theorem or_le (x f c : Int32) : (0 ≤ x.toInt ∧ x.toInt ≤ 15) → (0 ≤ f.toInt ∧ f.toInt ≤ 1) → (0 ≤ c.toInt ∧ c.toInt ≤ 3) → 0 ≤ (x ||| (f <<< (c &&& 31))).toInt ∧ (x ||| (f <<< (c &&& 31))).toInt ≤ 15 := by
  intro hx hf hc
  have e1 := i32_nI hx.1
  have e2 := i32_nI hf.1
  have e3 := i32_nI hc.1
  have k1 : x.toInt.toNat < 16 := by omega
  have k2 : f.toInt.toNat < 2 := by omega
  have k3 : c.toInt.toNat < 4 := by omega
  rw [e1, e2, e3]
  exact or_tab ⟨x.toInt.toNat, k1⟩ ⟨f.toInt.toNat, k2⟩ ⟨c.toInt.toNat, k3⟩
theorem l_add (x y : Int64) : (-9223372036854775808 ≤ x.toInt + y.toInt ∧ x.toInt + y.toInt ≤ 9223372036854775807) → (x + y).toInt = x.toInt + y.toInt := by
  intro h
  rw [Int64.toInt_add]
  refine Int.bmod_eq_of_le ?_ ?_ <;> omega
/-- a product of so many twenties -/
noncomputable def k20 (x : Int64) (u : Int32) : Prop := 0 ≤ u.toInt ∧ u.toInt ≤ 10 ∧ 1 ≤ x.toInt ∧ x.toInt ≤ ((20 ^ u.toInt.toNat : Nat) : Int)
theorem k20_0 : k20 1 0 := by unfold k20; decide
theorem k20_ne {x : Int64} {u : Int32} (h : k20 x u) : ¬ x = 0 := lg_pos h.2.2.1
theorem k20_top : ∀ n : Nat, n ≤ 10 → (20 ^ n : Nat) ≤ 10240000000000 := by
  intro n hn
  have : n = 0 ∨ n = 1 ∨ n = 2 ∨ n = 3 ∨ n = 4 ∨ n = 5 ∨ n = 6 ∨ n = 7 ∨ n = 8 ∨ n = 9 ∨ n = 10 := by omega
  rcases this with rfl | rfl | rfl | rfl | rfl | rfl | rfl | rfl | rfl | rfl | rfl <;> decide
theorem k20_mul {x : Int64} {u : Int32} (h : k20 x u) (hu : u.toInt < 10) : k20 (x * 20) (u + 1) := by
  obtain ⟨h1, h2, h3, h4⟩ := h
  have e1 := ti_addK u (1 : Int32) 1 rfl (by omega)
  have ht := k20_top u.toInt.toNat (by omega)
  have e2 := l_mul20 x (by omega) (by omega)
  refine ⟨by omega, by omega, by omega, ?_⟩
  rw [show (u + 1).toInt.toNat = u.toInt.toNat + 1 by omega, Nat.pow_succ]
  generalize (20 ^ u.toInt.toNat : Nat) = p at h4 ht ⊢
  omega
theorem k20_one {x : Int64} {u : Int32} (h : k20 x u) (hu : u.toInt < 10) : k20 (x * 1) (u + 1) := by
  obtain ⟨h1, h2, h3, h4⟩ := h
  have e1 := ti_addK u (1 : Int32) 1 rfl (by omega)
  have e2 := l_mul1 x
  refine ⟨by omega, by omega, by omega, ?_⟩
  rw [show (u + 1).toInt.toNat = u.toInt.toNat + 1 by omega, Nat.pow_succ]
  generalize (20 ^ u.toInt.toNat : Nat) = p at h4 ⊢
  omega
-- ThreadBankModel.none(II)J
set_option maxRecDepth 100000 in
set_option maxHeartbeats 4000000 in
theorem sf_224_39_c (X : qm_X) (h : qm_H) (a : Int32) (b : Int32) (hp : mi h ∧ sm h ∧ zs h ∧ rw_ h) (Q : qm_Q) (hq : ∀ r : Int64, ∀ h' : qm_H, (mi h' ∧ sm h' ∧ zs h' ∧ rw_ h' ∧ (∀ k, (k < 41 ∨ 41 < k) → h' k = h k)) → Q (some (.long r)) h') : ∀ n : Nat, (∀ (l3 : Int64) (l5 : Int64) (l7 : Int32) (g : qm_H), ((k20 l5 l7) ∧ mi g ∧ sm g ∧ zs g ∧ rw_ g ∧ am g ∧ ∀ k, (k < 41 ∨ 41 < k) → g k = h k) → (10 - l7.toInt).toNat < n → qm_PA X 224 35 [(0, .ref 39), (1, .int a), (2, .int b), (3, .long l3), (5, .long l5), (7, .int l7)] [] g Q) := by
  have hmmi : mi h := hp.1
  have ⟨⟨_, _⟩, ⟨_, _⟩, ⟨_, _⟩, ⟨_, _⟩, _, _⟩ := hmmi
  have hmsm : sm h := hp.2.1
  have ⟨⟨⟨_, _⟩, _, _⟩, _, _, _⟩ := hmsm
  have hmzs : zs h := hp.2.2.1
  have hmrw : rw_ h := hp.2.2.2
  intro n
  induction n with
  | zero => exact fun _ _ _ _ _ h0 => absurd h0 (Nat.not_lt_zero _)
  | succ n ih =>
    intro l3 l5 l7 g hi hr
    obtain ⟨hi0, hgmi, hgsm, hgzs, hgrw, hgam, hgf⟩ := hi
    have ⟨⟨_, _⟩, ⟨_, _⟩, ⟨_, _⟩, ⟨_, _⟩, _, _⟩ := hgmi
    have ⟨⟨⟨_, _⟩, _, _⟩, _, _, _⟩ := hgsm
    have ⟨⟨_, _⟩, ⟨_, _⟩, _, _, _⟩ := hgam
    have := hi0.1
    have := hi0.2.1
    refine qm_seg_ok (C := qc_224) (rt := some .long) rfl rfl (cuts := [(35, [0, 1, 2, 3, 5, 7])]) 400 _ _ _ _ ?_
    show (0 ≤ (4 : Int) ∧ (4 : Int) < 49) ∧ (((g 41 4).toInt ≤ l7.toInt → (qm_PW X 220 [.long l3, .long l5, .int b] g _)) ∧ (l7.toInt < (g 41 4).toInt → (qm_PW X 221 [.ref 39, .int l7, .int a] g _)))
    refine ⟨by decide, ?_⟩
    refine ⟨fun c1 => ?_, fun c2 => ?_⟩
    · refine sf_220 X g (l3 : Int64) (l5 : Int64) b (k20_ne hi0) _ (fun r3 p4 => ?_)
      show Q (some (.long r3)) g
      exact hq r3 g ⟨hgmi, hgsm, hgzs, hgrw, (fun k hk => hgf k hk)⟩
    · refine sf_221_39 X g l7 a ⟨hgam, (by omega)⟩ _ (fun r5 p6 => ?_)
      show qm_PA X 224 35 [(0, .ref 39), (1, .int a), (2, .int b), (3, .long (l3 * (Int32.toInt64 (20 - r5)))), (5, .long (l5 * 20)), (7, .int (l7 + 1))] [] g Q
      exact ih (l3 * (Int32.toInt64 (20 - r5))) (l5 * 20) (l7 + 1) g ⟨(by show k20 (l5 * 20) (l7 + 1); exact k20_mul hi0 (by omega)), hgmi, hgsm, hgzs, hgrw, hgam, (fun k hk => hgf k hk)⟩ (by have := ti_addK l7 (1 : Int32) 1 rfl; show (10 - (l7 + 1).toInt).toNat < n; omega)
set_option maxRecDepth 100000 in
set_option maxHeartbeats 4000000 in
theorem sf_224_39 (X : qm_X) (h : qm_H) (a : Int32) (b : Int32) (hp : mi h ∧ sm h ∧ zs h ∧ rw_ h) (Q : qm_Q) (hq : ∀ r : Int64, ∀ h' : qm_H, (mi h' ∧ sm h' ∧ zs h' ∧ rw_ h' ∧ (∀ k, (k < 41 ∨ 41 < k) → h' k = h k)) → Q (some (.long r)) h') : qm_PW X 224 [.ref 39, .int a, .int b] h Q := by
  have hmmi : mi h := hp.1
  have ⟨⟨_, _⟩, ⟨_, _⟩, ⟨_, _⟩, ⟨_, _⟩, _, _⟩ := hmmi
  have hmsm : sm h := hp.2.1
  have ⟨⟨⟨_, _⟩, _, _⟩, _, _, _⟩ := hmsm
  have hmzs : zs h := hp.2.2.1
  have hmrw : rw_ h := hp.2.2.2
  refine qm_seg_ok (C := qc_224) (rt := some .long) rfl rfl (cuts := [(35, [0, 1, 2, 3, 5, 7])]) 400 _ _ _ _ ?_
  show qm_PW X 141 [.long (Int32.toInt64 a), .long 0, .long 10] h _
  refine sf_141 X h ((Int32.toInt64 a) : Int64) (0 : Int64) (10 : Int64) trivial _ (fun r1 p2 => ?_)
  show (r1 = 0 → (Q (some (.long (-1 : Int64))) h)) ∧ (¬ r1 = 0 → (qm_PW X 168 [.int b] h _))
  refine ⟨fun c3 => ?_, fun c4 => ?_⟩
  · have := p2.2.2 c3
    exact hq (-1 : Int64) h ⟨hmmi, hmsm, hmzs, hmrw, (fun k hk => rfl)⟩
  · have := p2.2.1 c4
    refine sf_168 X h b trivial _ (fun r5 p6 => ?_)
    show (¬ r5 = 0 → (qm_PW X 169 [.ref 39] h _)) ∧ (r5 = 0 → (Q (some (.long (-1 : Int64))) h))
    refine ⟨fun c7 => ?_, fun c8 => ?_⟩
    · have := p6.2 c7
      refine sf_169_39 X h  hmsm _ (fun g9 p10 => ?_)
      have f11 : ∀ k, (k < 41 ∨ 41 < k) → g9 k = h k := fun k hk => (p10.2.1 k (by omega)).trans (rfl)
      have k12 : mi g9 := by unfold mi; rw [p10.2.1 39 (by omega)]; exact hmmi
      have k13 : sm g9 := by unfold sm; rw [p10.2.1 40 (by omega)]; exact hmsm
      have k14 : zs g9 := by unfold zs; rw [p10.2.1 49 (by omega)]; exact hmzs
      have k15 : rw_ g9 := by unfold rw_; rw [p10.2.1 46 (by omega)]; exact hmrw
      show qm_PA X 224 35 [(0, .ref 39), (1, .int a), (2, .int b), (3, .long 1), (5, .long 1), (7, .int 0)] [] g9 Q
      exact (sf_224_39_c X h a b hp Q hq _) (1 : Int64) (1 : Int64) (0 : Int32) g9 ⟨(by have : (0 : Int64).toInt = 0 := rfl; have : (10 : Int64).toInt = 10 := rfl; have := i64 a; show k20 (1 : Int64) (0 : Int32); exact k20_0), k12, k13, k14, k15, p10.1, (fun k hk => f11 k hk)⟩ (Nat.lt_succ_self _)
    · exact hq (-1 : Int64) h ⟨hmmi, hmsm, hmzs, hmrw, (fun k hk => rfl)⟩
-- ThreadBankModel.kept(III)J
set_option maxRecDepth 100000 in
set_option maxHeartbeats 4000000 in
theorem sf_222_39_c (X : qm_X) (h : qm_H) (a : Int32) (b : Int32) (c : Int32) (hp : mi h ∧ sm h ∧ zs h ∧ rw_ h) (Q : qm_Q) (hq : ∀ r : Int64, ∀ h' : qm_H, (mi h' ∧ sm h' ∧ zs h' ∧ rw_ h' ∧ (∀ k, (k < 41 ∨ 41 < k) → h' k = h k)) → Q (some (.long r)) h') : ∀ n : Nat, (∀ (l4 : Int64) (l6 : Int64) (l8 : Int32) (g : qm_H), ((k20 l6 l8 ∧ 0 ≤ b.toInt ∧ b.toInt ≤ 9) ∧ mi g ∧ sm g ∧ zs g ∧ rw_ g ∧ am g ∧ ∀ k, (k < 41 ∨ 41 < k) → g k = h k) → (10 - l8.toInt).toNat < n → qm_PA X 222 44 [(0, .ref 39), (1, .int a), (2, .int b), (3, .int c), (4, .long l4), (6, .long l6), (8, .int l8)] [] g Q) := by
  have hmmi : mi h := hp.1
  have ⟨⟨_, _⟩, ⟨_, _⟩, ⟨_, _⟩, ⟨_, _⟩, _, _⟩ := hmmi
  have hmsm : sm h := hp.2.1
  have ⟨⟨⟨_, _⟩, _, _⟩, _, _, _⟩ := hmsm
  have hmzs : zs h := hp.2.2.1
  have hmrw : rw_ h := hp.2.2.2
  intro n
  induction n with
  | zero => exact fun _ _ _ _ _ h0 => absurd h0 (Nat.not_lt_zero _)
  | succ n ih =>
    intro l4 l6 l8 g hi hr
    obtain ⟨hi0, hgmi, hgsm, hgzs, hgrw, hgam, hgf⟩ := hi
    have ⟨⟨_, _⟩, ⟨_, _⟩, ⟨_, _⟩, ⟨_, _⟩, _, _⟩ := hgmi
    have ⟨⟨⟨_, _⟩, _, _⟩, _, _, _⟩ := hgsm
    have ⟨⟨_, _⟩, ⟨_, _⟩, _, _, _⟩ := hgam
    have := hi0.1.1
    have := hi0.1.2.1
    refine qm_seg_ok (C := qc_222) (rt := some .long) rfl rfl (cuts := [(44, [0, 1, 2, 3, 4, 6, 8])]) 400 _ _ _ _ ?_
    show (0 ≤ (4 : Int) ∧ (4 : Int) < 49) ∧ (((g 41 4).toInt ≤ l8.toInt → (qm_PW X 220 [.long (l6 - l4), .long l6, .int c] g _)) ∧ (l8.toInt < (g 41 4).toInt → (qm_PW X 178 [.ref 39, .int b, .int l8] g _)))
    refine ⟨by decide, ?_⟩
    refine ⟨fun c1 => ?_, fun c2 => ?_⟩
    · refine sf_220 X g ((l6 - l4) : Int64) (l6 : Int64) c (k20_ne hi0.1) _ (fun r3 p4 => ?_)
      show Q (some (.long r3)) g
      exact hq r3 g ⟨hgmi, hgsm, hgzs, hgrw, (fun k hk => hgf k hk)⟩
    · refine sf_178_39 X g b l8 ⟨hgam, (by omega)⟩ _ (fun r5 p6 => ?_)
      show (r5 = 0 → (qm_PW X 178 [.ref 39, .int b, .int l8] g _)) ∧ (¬ r5 = 0 → (qm_PW X 221 [.ref 39, .int l8, .int a] g _))
      refine ⟨fun c7 => ?_, fun c8 => ?_⟩
      · refine sf_178_39 X g b l8 ⟨hgam, (by omega)⟩ _ (fun r9 p10 => ?_)
        show (r9 = 0 → (qm_PA X 222 44 [(0, .ref 39), (1, .int a), (2, .int b), (3, .int c), (4, .long (l4 * 1)), (6, .long (l6 * 1)), (8, .int (l8 + 1))] [] g Q)) ∧ (¬ r9 = 0 → (qm_PA X 222 44 [(0, .ref 39), (1, .int a), (2, .int b), (3, .int c), (4, .long (l4 * 1)), (6, .long (l6 * 20)), (8, .int (l8 + 1))] [] g Q))
        refine ⟨fun c11 => ?_, fun c12 => ?_⟩
        · exact ih (l4 * 1) (l6 * 1) (l8 + 1) g ⟨(by show k20 (l6 * 1) (l8 + 1) ∧ 0 ≤ b.toInt ∧ b.toInt ≤ 9; exact ⟨k20_one hi0.1 (by omega), by omega, by omega⟩), hgmi, hgsm, hgzs, hgrw, hgam, (fun k hk => hgf k hk)⟩ (by have := ti_addK l8 (1 : Int32) 1 rfl; show (10 - (l8 + 1).toInt).toNat < n; omega)
        · exact ih (l4 * 1) (l6 * 20) (l8 + 1) g ⟨(by show k20 (l6 * 20) (l8 + 1) ∧ 0 ≤ b.toInt ∧ b.toInt ≤ 9; exact ⟨k20_mul hi0.1 (by omega), by omega, by omega⟩), hgmi, hgsm, hgzs, hgrw, hgam, (fun k hk => hgf k hk)⟩ (by have := ti_addK l8 (1 : Int32) 1 rfl; show (10 - (l8 + 1).toInt).toNat < n; omega)
      · refine sf_221_39 X g l8 a ⟨hgam, (by omega)⟩ _ (fun r13 p14 => ?_)
        show qm_PW X 178 [.ref 39, .int b, .int l8] g _
        refine sf_178_39 X g b l8 ⟨hgam, (by omega)⟩ _ (fun r15 p16 => ?_)
        show (r15 = 0 → (qm_PA X 222 44 [(0, .ref 39), (1, .int a), (2, .int b), (3, .int c), (4, .long (l4 * (Int32.toInt64 r13))), (6, .long (l6 * 1)), (8, .int (l8 + 1))] [] g Q)) ∧ (¬ r15 = 0 → (qm_PA X 222 44 [(0, .ref 39), (1, .int a), (2, .int b), (3, .int c), (4, .long (l4 * (Int32.toInt64 r13))), (6, .long (l6 * 20)), (8, .int (l8 + 1))] [] g Q))
        refine ⟨fun c17 => ?_, fun c18 => ?_⟩
        · exact ih (l4 * (Int32.toInt64 r13)) (l6 * 1) (l8 + 1) g ⟨(by show k20 (l6 * 1) (l8 + 1) ∧ 0 ≤ b.toInt ∧ b.toInt ≤ 9; exact ⟨k20_one hi0.1 (by omega), by omega, by omega⟩), hgmi, hgsm, hgzs, hgrw, hgam, (fun k hk => hgf k hk)⟩ (by have := ti_addK l8 (1 : Int32) 1 rfl; show (10 - (l8 + 1).toInt).toNat < n; omega)
        · exact ih (l4 * (Int32.toInt64 r13)) (l6 * 20) (l8 + 1) g ⟨(by show k20 (l6 * 20) (l8 + 1) ∧ 0 ≤ b.toInt ∧ b.toInt ≤ 9; exact ⟨k20_mul hi0.1 (by omega), by omega, by omega⟩), hgmi, hgsm, hgzs, hgrw, hgam, (fun k hk => hgf k hk)⟩ (by have := ti_addK l8 (1 : Int32) 1 rfl; show (10 - (l8 + 1).toInt).toNat < n; omega)
set_option maxRecDepth 100000 in
set_option maxHeartbeats 4000000 in
theorem sf_222_39 (X : qm_X) (h : qm_H) (a : Int32) (b : Int32) (c : Int32) (hp : mi h ∧ sm h ∧ zs h ∧ rw_ h) (Q : qm_Q) (hq : ∀ r : Int64, ∀ h' : qm_H, (mi h' ∧ sm h' ∧ zs h' ∧ rw_ h' ∧ (∀ k, (k < 41 ∨ 41 < k) → h' k = h k)) → Q (some (.long r)) h') : qm_PW X 222 [.ref 39, .int a, .int b, .int c] h Q := by
  have hmmi : mi h := hp.1
  have ⟨⟨_, _⟩, ⟨_, _⟩, ⟨_, _⟩, ⟨_, _⟩, _, _⟩ := hmmi
  have hmsm : sm h := hp.2.1
  have ⟨⟨⟨_, _⟩, _, _⟩, _, _, _⟩ := hmsm
  have hmzs : zs h := hp.2.2.1
  have hmrw : rw_ h := hp.2.2.2
  refine qm_seg_ok (C := qc_222) (rt := some .long) rfl rfl (cuts := [(44, [0, 1, 2, 3, 4, 6, 8])]) 400 _ _ _ _ ?_
  show qm_PW X 141 [.long (Int32.toInt64 a), .long 0, .long 10] h _
  refine sf_141 X h ((Int32.toInt64 a) : Int64) (0 : Int64) (10 : Int64) trivial _ (fun r1 p2 => ?_)
  show (r1 = 0 → (Q (some (.long (-1 : Int64))) h)) ∧ (¬ r1 = 0 → (qm_PW X 167 [.ref 39, .int b] h _))
  refine ⟨fun c3 => ?_, fun c4 => ?_⟩
  · have := p2.2.2 c3
    exact hq (-1 : Int64) h ⟨hmmi, hmsm, hmzs, hmrw, (fun k hk => rfl)⟩
  · have := p2.2.1 c4
    refine sf_167_39 X h b hmsm _ (fun r5 p6 => ?_)
    show (r5 = 0 → (Q (some (.long (-1 : Int64))) h)) ∧ (¬ r5 = 0 → (qm_PW X 168 [.int c] h _))
    refine ⟨fun c7 => ?_, fun c8 => ?_⟩
    · exact hq (-1 : Int64) h ⟨hmmi, hmsm, hmzs, hmrw, (fun k hk => rfl)⟩
    · have := p6.2 c8
      refine sf_168 X h c trivial _ (fun r9 p10 => ?_)
      show (¬ r9 = 0 → (qm_PW X 169 [.ref 39] h _)) ∧ (r9 = 0 → (Q (some (.long (-1 : Int64))) h))
      refine ⟨fun c11 => ?_, fun c12 => ?_⟩
      · have := p10.2 c11
        refine sf_169_39 X h  hmsm _ (fun g13 p14 => ?_)
        have f15 : ∀ k, (k < 41 ∨ 41 < k) → g13 k = h k := fun k hk => (p14.2.1 k (by omega)).trans (rfl)
        have k16 : mi g13 := by unfold mi; rw [p14.2.1 39 (by omega)]; exact hmmi
        have k17 : sm g13 := by unfold sm; rw [p14.2.1 40 (by omega)]; exact hmsm
        have k18 : zs g13 := by unfold zs; rw [p14.2.1 49 (by omega)]; exact hmzs
        have k19 : rw_ g13 := by unfold rw_; rw [p14.2.1 46 (by omega)]; exact hmrw
        show qm_PA X 222 44 [(0, .ref 39), (1, .int a), (2, .int b), (3, .int c), (4, .long 1), (6, .long 1), (8, .int 0)] [] g13 Q
        exact (sf_222_39_c X h a b c hp Q hq _) (1 : Int64) (1 : Int64) (0 : Int32) g13 ⟨(by have : (0 : Int64).toInt = 0 := rfl; have : (10 : Int64).toInt = 10 := rfl; have := i64 a; show k20 (1 : Int64) (0 : Int32) ∧ 0 ≤ b.toInt ∧ b.toInt ≤ 9; exact ⟨k20_0, by omega, by omega⟩), k16, k17, k18, k19, p14.1, (fun k hk => f15 k hk)⟩ (Nat.lt_succ_self _)
      · exact hq (-1 : Int64) h ⟨hmmi, hmsm, hmzs, hmrw, (fun k hk => rfl)⟩
theorem or_leB {x f c : Int32} (hx : 0 ≤ x.toInt ∧ x.toInt ≤ 15) (hf : f = 0 ∨ f = 1) (hc : 0 ≤ c.toInt ∧ c.toInt ≤ 3) : 0 ≤ (x ||| (f <<< (c &&& 31))).toInt ∧ (x ||| (f <<< (c &&& 31))).toInt ≤ 15 := by
  rcases hf with rfl | rfl
  · exact or_le x 0 c hx (by decide) hc
  · exact or_le x 1 c hx (by decide) hc
