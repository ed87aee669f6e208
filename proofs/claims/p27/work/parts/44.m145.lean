theorem saw_ix {m : Int32} (h0 : 0 ≤ m.toInt) (h1 : m.toInt ≤ 5) : (37 + (2 * m)).toInt.toNat = 37 + 2 * m.toInt.toNat ∧ ((37 + (2 * m)) + 1).toInt.toNat = 38 + 2 * m.toInt.toNat := by
  have e1 := ti_mulL (2 : Int32) 2 rfl m (by omega)
  have e2 := ti_addL (2 * m) (37 : Int32) 37 rfl (by omega)
  have e4 := ti_addK (37 + (2 * m)) (1 : Int32) 1 rfl (by omega)
  omega
theorem see_eq {f : Nat → Int32} {a : Int32} (h0 : 0 ≤ (f 36).toInt) (h1 : (f 36).toInt ≤ 5) : (upd f (37 + (2 * (f 36))).toInt.toNat a) 36 = f 36 := by
  rw [(saw_ix h0 h1).1]
  unfold upd
  rw [if_neg (by omega)]
theorem see_ix {f : Nat → Int32} {a : Int32} : 0 ≤ (f 36).toInt → (f 36).toInt ≤ 5 → ((upd f (37 + (2 * (f 36))).toInt.toNat a) 36).toInt = (f 36).toInt := fun h0 h1 => by rw [see_eq h0 h1]
theorem sm_see {h : qm_H} (hp : sm h) {a b : Int32} (hs : (h 40 36).toInt ≤ 5) (ha : pr a) : sm (qm_row (qm_row (qm_row h 40 (upd (h 40) (37 + (2 * (h 40 36))).toInt.toNat a)) 40 (upd (upd (h 40) (37 + (2 * (h 40 36))).toInt.toNat a) ((37 + (2 * ((upd (h 40) (37 + (2 * (h 40 36))).toInt.toNat a) 36))) + 1).toInt.toNat b)) 40 (upd (upd (upd (h 40) (37 + (2 * (h 40 36))).toInt.toNat a) ((37 + (2 * ((upd (h 40) (37 + (2 * (h 40 36))).toInt.toNat a) 36))) + 1).toInt.toNat b) 36 (((upd (upd (h 40) (37 + (2 * (h 40 36))).toInt.toNat a) ((37 + (2 * ((upd (h 40) (37 + (2 * (h 40 36))).toInt.toNat a) 36))) + 1).toInt.toNat b) 36) + 1))) := by
  have hm := hp.1.2.1
  rw [see_eq hm hs, (saw_ix hm hs).1, (saw_ix hm hs).2]
  have e : (upd (upd (h 40) (37 + 2 * (h 40 36).toInt.toNat) a) (38 + 2 * (h 40 36).toInt.toNat) b) 36 = h 40 36 := by
    unfold upd
    rw [if_neg (by omega), if_neg (by omega)]
  rw [e]
  have e9 := ti_addK (h 40 36) (1 : Int32) 1 rfl (by omega)
  have h1 := sm_upd hp (j := 37 + 2 * (h 40 36).toInt.toNat) (v := a) (by omega) (pv_saw (by omega) ha)
  have h2 := sm_upd h1 (j := 38 + 2 * (h 40 36).toInt.toNat) (v := b) (by omega) (pv_much (by omega))
  exact sm_upd h2 (j := 36) (v := (h 40 36) + 1) (by omega) (pv_seen (by omega))
theorem lg_eq0 {x : Int64} (h : lg_cmp x 0 = 0) : x = 0 := by
  have e := lg_cmp_i x 0
  rw [h] at e
  have z : (0 : Int32).toInt = 0 := rfl
  have z2 : (0 : Int64).toInt = 0 := rfl
  exact Int64.toInt_inj.mp (by omega)
theorem l_rem (x y : Int64) (hy : ¬ y = 0) : (x - x / y * y).toInt.natAbs < y.toInt.natAbs := by
  have h0 : y.toInt ≠ 0 := fun e => hy (Int64.toInt_inj.mp (e.trans rfl))
  have hlt : (x.toInt.tmod y.toInt).natAbs < y.toInt.natAbs := by
    rw [Int.natAbs_tmod]; exact Nat.mod_lt _ (by omega)
  have e : x.toInt - x.toInt.tdiv y.toInt * y.toInt = x.toInt.tmod y.toInt := by
    have := Int.tmod_add_mul_tdiv x.toInt y.toInt
    rw [Int.mul_comm] at this
    omega
  have hy1 := y.toInt_lt
  have hy2 := y.le_toInt
  rw [Int64.toInt_sub, Int64.toInt_mul, Int64.toInt_div, Int.bmod_mul_bmod, Int.sub_bmod_bmod, e]
  have eb : (x.toInt.tmod y.toInt).bmod (2 ^ 64) = x.toInt.tmod y.toInt := by
    refine Int.bmod_eq_of_le ?_ ?_ <;> omega
  rw [eb]; exact hlt
-- ThreadBankModel.common(JJ)J
set_option maxRecDepth 100000 in
set_option maxHeartbeats 4000000 in
theorem sf_219_c (X : qm_X) (h : qm_H) (a : Int64) (b : Int64) (hp : ¬ a = 0) (Q : qm_Q) (hq : ∀ r : Int64, (¬ r = 0) → Q (some (.long r)) h) : ∀ n : Nat, (∀ (l4 : Int64) (l6 : Int64), (¬ l4 = 0 ∨ ¬ l6 = 0) → l6.toInt.natAbs < n → qm_PA X 219 6 [(0, .long a), (2, .long b), (4, .long l4), (6, .long l6)] [] h Q) := by
  have hp0 : ¬ a = 0 := hp
  intro n
  induction n with
  | zero => exact fun _ _ _ h0 => absurd h0 (Nat.not_lt_zero _)
  | succ n ih =>
    intro l4 l6 hi hr
    refine qm_seg_ok (C := qc_219) (rt := some .long) rfl rfl (cuts := [(6, [0, 2, 4, 6])]) 400 _ _ _ _ ?_
    show ((lg_cmp l6 0) = 0 → (Q (some (.long l4)) h)) ∧ (¬ (lg_cmp l6 0) = 0 → (¬ l6 = 0 ∧ (qm_PA X 219 6 [(0, .long a), (2, .long b), (4, .long l6), (6, .long (l4 - l4 / l6 * l6))] [] h Q)))
    refine ⟨fun c1 => ?_, fun c2 => ?_⟩
    · exact hq l4 (by have := lg_cmp_i l6 0; exact hi.resolve_right (fun hc => hc (lg_eq0 (by assumption))))
    · refine ⟨(lg_ne (by assumption)), ?_⟩
      exact ih l6 (l4 - l4 / l6 * l6) (by have := lg_cmp_i l6 0; first | exact Or.inl hp0 | exact Or.inl (lg_ne (by assumption))) (by have := lg_cmp_i l6 0; have := l_rem l4 l6 (lg_ne (by assumption)); omega)
set_option maxRecDepth 100000 in
set_option maxHeartbeats 4000000 in
theorem sf_219 (X : qm_X) (h : qm_H) (a : Int64) (b : Int64) (hp : ¬ a = 0) (Q : qm_Q) (hq : ∀ r : Int64, (¬ r = 0) → Q (some (.long r)) h) : qm_PW X 219 [.long a, .long b] h Q := by
  have hp0 : ¬ a = 0 := hp
  refine qm_seg_ok (C := qc_219) (rt := some .long) rfl rfl (cuts := [(6, [0, 2, 4, 6])]) 400 _ _ _ _ ?_
  show qm_PA X 219 6 [(0, .long a), (2, .long b), (4, .long a), (6, .long b)] [] h Q
  exact (sf_219_c X h a b hp Q hq _) a b (by first | exact Or.inl hp0 | exact Or.inl (lg_ne (by assumption))) (Nat.lt_succ_self _)
-- ThreadBankModel.told(JJI)J
set_option maxRecDepth 100000 in
set_option maxHeartbeats 4000000 in
theorem sf_220 (X : qm_X) (h : qm_H) (a : Int64) (b : Int64) (c : Int32) (hp : ¬ b = 0) (Q : qm_Q) (hq : ∀ r : Int64, (True) → Q (some (.long r)) h) : qm_PW X 220 [.long a, .long b, .int c] h Q := by
  have hp0 : ¬ b = 0 := hp
  refine qm_seg_ok (C := qc_220) (rt := some .long) rfl rfl (cuts := []) 400 _ _ _ _ ?_
  show qm_PW X 219 [.long b, .long a] h _
  refine sf_219 X h (b : Int64) (a : Int64) (by omega) _ (fun r1 p2 => ?_)
  show (¬ c = 0 → (¬ r1 = 0 ∧ (Q (some (.long (b / r1))) h))) ∧ (c = 0 → (¬ r1 = 0 ∧ (Q (some (.long (a / r1))) h)))
  refine ⟨fun c3 => ?_, fun c4 => ?_⟩
  · refine ⟨(by assumption), ?_⟩
    exact hq (b / r1) trivial
  · refine ⟨(by assumption), ?_⟩
    exact hq (a / r1) trivial
-- ThreadBankModel.slips(II)J
set_option maxRecDepth 100000 in
set_option maxHeartbeats 4000000 in
theorem sf_223_39_c (X : qm_X) (h : qm_H) (a : Int32) (b : Int32) (hp : mi h ∧ sm h ∧ zs h ∧ rw_ h) (Q : qm_Q) (hq : ∀ r : Int64, ∀ h' : qm_H, (mi h' ∧ sm h' ∧ zs h' ∧ rw_ h' ∧ (∀ k, (k < 41 ∨ 41 < k) → h' k = h k)) → Q (some (.long r)) h') : ∀ n : Nat, (∀ (l3 : Int64) (l5 : Int32) (g : qm_H), ((0 ≤ l5.toInt ∧ l5.toInt ≤ 10) ∧ mi g ∧ sm g ∧ zs g ∧ rw_ g ∧ am g ∧ ∀ k, (k < 41 ∨ 41 < k) → g k = h k) → (10 - l5.toInt).toNat < n → qm_PA X 223 32 [(0, .ref 39), (1, .int a), (2, .int b), (3, .long l3), (5, .int l5)] [] g Q) := by
  have hmmi : mi h := hp.1
  have ⟨⟨_, _⟩, ⟨_, _⟩, ⟨_, _⟩, ⟨_, _⟩, _, _⟩ := hmmi
  have hmsm : sm h := hp.2.1
  have ⟨⟨⟨_, _⟩, _, _⟩, _, _, _⟩ := hmsm
  have hmzs : zs h := hp.2.2.1
  have hmrw : rw_ h := hp.2.2.2
  intro n
  induction n with
  | zero => exact fun _ _ _ _ h0 => absurd h0 (Nat.not_lt_zero _)
  | succ n ih =>
    intro l3 l5 g hi hr
    obtain ⟨hi0, hgmi, hgsm, hgzs, hgrw, hgam, hgf⟩ := hi
    have ⟨⟨_, _⟩, ⟨_, _⟩, ⟨_, _⟩, ⟨_, _⟩, _, _⟩ := hgmi
    have ⟨⟨⟨_, _⟩, _, _⟩, _, _, _⟩ := hgsm
    have ⟨⟨_, _⟩, ⟨_, _⟩, _, _, _⟩ := hgam
    refine qm_seg_ok (C := qc_223) (rt := some .long) rfl rfl (cuts := [(32, [0, 1, 2, 3, 5])]) 400 _ _ _ _ ?_
    show (0 ≤ (4 : Int) ∧ (4 : Int) < 49) ∧ (((g 41 4).toInt ≤ l5.toInt → (qm_PW X 220 [.long l3, .long 20, .int b] g _)) ∧ (l5.toInt < (g 41 4).toInt → (qm_PW X 221 [.ref 39, .int l5, .int a] g _)))
    refine ⟨by decide, ?_⟩
    refine ⟨fun c1 => ?_, fun c2 => ?_⟩
    · refine sf_220 X g (l3 : Int64) (20 : Int64) b (by decide) _ (fun r3 p4 => ?_)
      show Q (some (.long r3)) g
      exact hq r3 g ⟨hgmi, hgsm, hgzs, hgrw, (fun k hk => hgf k hk)⟩
    · refine sf_221_39 X g l5 a ⟨hgam, (by omega)⟩ _ (fun r5 p6 => ?_)
      show qm_PA X 223 32 [(0, .ref 39), (1, .int a), (2, .int b), (3, .long (l3 + (Int32.toInt64 r5))), (5, .int (l5 + 1))] [] g Q
      exact ih (l3 + (Int32.toInt64 r5)) (l5 + 1) g ⟨(by have := ti_addK l5 (1 : Int32) 1 rfl; show 0 ≤ (l5 + 1).toInt ∧ (l5 + 1).toInt ≤ 10; omega), hgmi, hgsm, hgzs, hgrw, hgam, (fun k hk => hgf k hk)⟩ (by have := ti_addK l5 (1 : Int32) 1 rfl; show (10 - (l5 + 1).toInt).toNat < n; omega)
set_option maxRecDepth 100000 in
set_option maxHeartbeats 4000000 in
theorem sf_223_39 (X : qm_X) (h : qm_H) (a : Int32) (b : Int32) (hp : mi h ∧ sm h ∧ zs h ∧ rw_ h) (Q : qm_Q) (hq : ∀ r : Int64, ∀ h' : qm_H, (mi h' ∧ sm h' ∧ zs h' ∧ rw_ h' ∧ (∀ k, (k < 41 ∨ 41 < k) → h' k = h k)) → Q (some (.long r)) h') : qm_PW X 223 [.ref 39, .int a, .int b] h Q := by
  have hmmi : mi h := hp.1
  have ⟨⟨_, _⟩, ⟨_, _⟩, ⟨_, _⟩, ⟨_, _⟩, _, _⟩ := hmmi
  have hmsm : sm h := hp.2.1
  have ⟨⟨⟨_, _⟩, _, _⟩, _, _, _⟩ := hmsm
  have hmzs : zs h := hp.2.2.1
  have hmrw : rw_ h := hp.2.2.2
  refine qm_seg_ok (C := qc_223) (rt := some .long) rfl rfl (cuts := [(32, [0, 1, 2, 3, 5])]) 400 _ _ _ _ ?_
  show qm_PW X 141 [.long (Int32.toInt64 a), .long 0, .long 10] h _
  refine sf_141 X h ((Int32.toInt64 a) : Int64) (0 : Int64) (10 : Int64) trivial _ (fun r1 p2 => ?_)
  show (r1 = 0 → (Q (some (.long (-1 : Int64))) h)) ∧ (¬ r1 = 0 → (qm_PW X 168 [.int b] h _))
  refine ⟨fun c3 => ?_, fun c4 => ?_⟩
  · have := p2.2.2 c3
    exact hq (-1 : Int64) h ⟨hmmi, hmsm, hmzs, hmrw, (fun k hk => rfl)⟩
  · have := p2.2.1 c4
    refine sf_168 X h b trivial _ (fun r5 p6 => ?_)
    show (¬ r5 = 0 → (qm_PW X 169 [.ref 39] h _)) ∧ (r5 = 0 → (Q (some (.long (-1 : Int64))) h))
    refine ⟨fun c7 => ?_, fun c8 => ?_⟩
    · have := p6.2 c7
      refine sf_169_39 X h  hmsm _ (fun g9 p10 => ?_)
      have f11 : ∀ k, (k < 41 ∨ 41 < k) → g9 k = h k := fun k hk => (p10.2.1 k (by omega)).trans (rfl)
      have k12 : mi g9 := by unfold mi; rw [p10.2.1 39 (by omega)]; exact hmmi
      have k13 : sm g9 := by unfold sm; rw [p10.2.1 40 (by omega)]; exact hmsm
      have k14 : zs g9 := by unfold zs; rw [p10.2.1 49 (by omega)]; exact hmzs
      have k15 : rw_ g9 := by unfold rw_; rw [p10.2.1 46 (by omega)]; exact hmrw
      show qm_PA X 223 32 [(0, .ref 39), (1, .int a), (2, .int b), (3, .long 0), (5, .int 0)] [] g9 Q
      exact (sf_223_39_c X h a b hp Q hq _) (0 : Int64) (0 : Int32) g9 ⟨(by have : (0 : Int32).toInt = 0 := rfl; have : (0 : Int64).toInt = 0 := rfl; have : (10 : Int64).toInt = 10 := rfl; have := i64 a; show 0 ≤ (0 : Int32).toInt ∧ (0 : Int32).toInt ≤ 10; omega), k12, k13, k14, k15, p10.1, (fun k hk => f11 k hk)⟩ (Nat.lt_succ_self _)
    · exact hq (-1 : Int64) h ⟨hmmi, hmsm, hmzs, hmrw, (fun k hk => rfl)⟩
theorem lg_pos {x : Int64} (h : 1 ≤ x.toInt) : ¬ x = 0 := by
  intro e
  rw [e] at h
  exact absurd h (by decide)
theorem l_mul20 (x : Int64) : 0 ≤ x.toInt → x.toInt ≤ 400000000000000000 → (x * 20).toInt = 20 * x.toInt := by
  intro h0 h1
  rw [Int64.toInt_mul, show (20 : Int64).toInt = 20 from rfl]
  rw [Int.mul_comm]
  refine Int.bmod_eq_of_le ?_ ?_ <;> omega
theorem l_mul1 (x : Int64) : (x * 1).toInt = x.toInt := by
  rw [Int64.mul_one]
/-! ===== the reference's parser: what is held to ===== -/
noncomputable def pp (h : qm_H) : Prop := (0 ≤ (h 39 5).toInt ∧ (h 39 5).toInt ≤ 4) ∧ (0 ≤ (h 39 10).toInt ∧ (h 39 10).toInt ≤ 160) ∧ (0 ≤ (h 39 14).toInt ∧ (h 39 14).toInt ≤ 7)
/-- the draft: how many, their places, what was seen -/
noncomputable def dd (h : qm_H) : Prop := (0 ≤ (h 43 4).toInt ∧ (h 43 4).toInt ≤ 10) ∧ (0 ≤ (h 43 36).toInt ∧ (h 43 36).toInt ≤ 0) ∧ (∀ t : Nat, t < 10 → 0 ≤ (h 43 (6 + 3 * t)).toInt ∧ (h 43 (6 + 3 * t)).toInt ≤ 39) ∧ (∀ k : Nat, k < 6 → pr (h 43 (37 + 2 * k))) ∧ ∀ t : Nat, t < 10 → 0 ≤ (h 43 (8 + 3 * t)).toInt ∧ (h 43 (8 + 3 * t)).toInt ≤ 99
/-- the draft's pairs, while there is no fault -/
noncomputable def dp (h : qm_H) : Prop := (h 39 14).toInt = 0 → ∀ t : Nat, t < 10 → pr (h 43 (7 + 3 * t))
theorem pk_draft {h : qm_H} (h1 : dd h) (h2 : dp h) (hf : (h 39 14).toInt = 0) : pk (h 43) 0 := by
  obtain ⟨a, b, c, d, e⟩ := h1
  refine ⟨a, ⟨b.1, Int.le_trans b.2 (by decide)⟩, fun t ht => ?_, fun t ht => ?_, fun k hk => ?_, fun t ht => ?_⟩
  · rw [Nat.zero_add]; exact c t ht
  · rw [Nat.zero_add]; exact h2 hf t ht
  · rw [Nat.zero_add]; exact d k hk
  · rw [Nat.zero_add]; exact e t ht
/-- a thread told in the draft -/
theorem dd_tie {h : qm_H} (hd : dd h) {f : Nat → Int32} {n : Nat} {p q k m : Int32} (hn : n < 10) (hp : 0 ≤ p.toInt ∧ p.toInt ≤ 39) (hk : 0 ≤ k.toInt ∧ k.toInt ≤ 99) (hm : 0 ≤ m.toInt ∧ m.toInt ≤ 10) (e : f = upd (upd (upd (upd (h 43) (6 + 3 * n) p) (7 + 3 * n) q) (8 + 3 * n) k) 4 m) :
    ((0 ≤ (f 4).toInt ∧ (f 4).toInt ≤ 10) ∧ (0 ≤ (f 36).toInt ∧ (f 36).toInt ≤ 0) ∧ (∀ t : Nat, t < 10 → 0 ≤ (f (6 + 3 * t)).toInt ∧ (f (6 + 3 * t)).toInt ≤ 39) ∧ (∀ k : Nat, k < 6 → pr (f (37 + 2 * k))) ∧ ∀ t : Nat, t < 10 → 0 ≤ (f (8 + 3 * t)).toInt ∧ (f (8 + 3 * t)).toInt ≤ 99) := by
  subst e
  obtain ⟨h1, h2, h3, h4, h5⟩ := hd
  refine ⟨by unfold upd; rw [if_pos rfl]; exact hm, ?_, fun t ht => ?_, fun i hi => ?_, fun t ht => ?_⟩
  · unfold upd; rw [if_neg (by omega), if_neg (by omega), if_neg (by omega), if_neg (by omega)]; exact h2
  · unfold upd; rw [if_neg (by omega), if_neg (by omega), if_neg (by omega)]
    split
    · exact hp
    · exact h3 t ht
  · unfold upd; rw [if_neg (by omega), if_neg (by omega), if_neg (by omega), if_neg (by omega)]; exact h4 i hi
  · unfold upd; rw [if_neg (by omega)]
    split
    · exact hk
    · rw [if_neg (by omega), if_neg (by omega)]; exact h5 t ht
theorem dp_tie {h : qm_H} {f : Nat → Int32} {n : Nat} {p q k m : Int32} (hd : ∀ t : Nat, t < 10 → pr (h 43 (7 + 3 * t))) (hq : pr q) (e : f = upd (upd (upd (upd (h 43) (6 + 3 * n) p) (7 + 3 * n) q) (8 + 3 * n) k) 4 m) : ∀ t : Nat, t < 10 → pr (f (7 + 3 * t)) := by
  subst e
  intro t ht
  unfold upd
  rw [if_neg (by omega), if_neg (by omega)]
  split
  · exact hq
  · rw [if_neg (by omega)]; exact hd t ht
/-- a place of the draft that is neither a thread's nor what was seen -/
theorem dd_low {h : qm_H} (hd : dd h) {n : Nat} {x : Int32} (hn : n < 6) (hm : n = 4 → 0 ≤ x.toInt ∧ x.toInt ≤ 10) : dd (qm_row h 43 (upd (h 43) n x)) := by
  obtain ⟨h1, h2, h3, h4, h5⟩ := hd
  refine ⟨?_, ?_, fun t ht => ?_, fun i hi => ?_, fun t ht => ?_⟩
  · show 0 ≤ (upd (h 43) n x 4).toInt ∧ (upd (h 43) n x 4).toInt ≤ 10
    unfold upd; split
    · exact hm (by omega)
    · exact h1
  · show 0 ≤ (upd (h 43) n x 36).toInt ∧ (upd (h 43) n x 36).toInt ≤ 0
    unfold upd; rw [if_neg (by omega)]; exact h2
  · show 0 ≤ (upd (h 43) n x (6 + 3 * t)).toInt ∧ (upd (h 43) n x (6 + 3 * t)).toInt ≤ 39
    unfold upd; rw [if_neg (by omega)]; exact h3 t ht
  · show pr (upd (h 43) n x (37 + 2 * i))
    unfold upd; rw [if_neg (by omega)]; exact h4 i hi
  · show 0 ≤ (upd (h 43) n x (8 + 3 * t)).toInt ∧ (upd (h 43) n x (8 + 3 * t)).toInt ≤ 99
    unfold upd; rw [if_neg (by omega)]; exact h5 t ht
theorem dp_low {h : qm_H} (hd : dp h) {n : Nat} {x : Int32} (hn : n < 6) : dp (qm_row h 43 (upd (h 43) n x)) := by
  intro hf t ht
  show pr (upd (h 43) n x (7 + 3 * t))
  unfold upd; rw [if_neg (by omega)]; exact hd hf t ht
theorem row_tie {h g1 g2 g3 : qm_H} {r1 r2 r3 : Int32} (e1 : g1 43 = h 43) (e2 : g2 43 = upd (g1 43) ((6 + (3 * (h 43 4))) + 0).toInt.toNat r1) (e3 : g3 43 = upd (g2 43) ((6 + (3 * (h 43 4))) + 1).toInt.toNat r2) (h0 : 0 ≤ (h 43 4).toInt) (hm : (h 43 4).toInt < 10) : upd (g3 43) ((6 + (3 * (h 43 4))) + 2).toInt.toNat r3 = upd (upd (upd (h 43) (6 + 3 * (h 43 4).toInt.toNat) r1) (7 + 3 * (h 43 4).toInt.toNat) r2) (8 + 3 * (h 43 4).toInt.toNat) r3 := by
  obtain ⟨i0, i1, i2⟩ := tie_ix (m := h 43 4) ⟨h0, by omega⟩
  rw [e3, e2, e1, i0, i1, i2]
theorem row_tie4 {f : Nat → Int32} {n : Nat} {r1 r2 r3 : Int32} : (upd (upd (upd f (6 + 3 * n) r1) (7 + 3 * n) r2) (8 + 3 * n) r3) 4 = f 4 := by
  unfold upd
  rw [if_neg (by omega), if_neg (by omega), if_neg (by omega)]
theorem dd_tie2 {h g1 g2 g3 : qm_H} {r1 r2 r3 : Int32} (e1 : g1 43 = h 43) (e2 : g2 43 = upd (g1 43) ((6 + (3 * (h 43 4))) + 0).toInt.toNat r1) (e3 : g3 43 = upd (g2 43) ((6 + (3 * (h 43 4))) + 1).toInt.toNat r2) (hd : dd h) (hm : (h 43 4).toInt < 10) (hp : 0 ≤ r1.toInt ∧ r1.toInt ≤ 39) (hk : 0 ≤ r3.toInt ∧ r3.toInt ≤ 99) : dd (qm_row (qm_row g3 43 (upd (g3 43) ((6 + (3 * (h 43 4))) + 2).toInt.toNat r3)) 43 (upd (upd (g3 43) ((6 + (3 * (h 43 4))) + 2).toInt.toNat r3) 4 (((upd (g3 43) ((6 + (3 * (h 43 4))) + 2).toInt.toNat r3) 4) + 1))) := by
  have h0 := hd.1.1
  have er := row_tie (r3 := r3) e1 e2 e3 h0 hm
  have e4 : (upd (g3 43) ((6 + (3 * (h 43 4))) + 2).toInt.toNat r3) 4 = h 43 4 := by rw [er]; exact row_tie4
  have hM := ti_addK (h 43 4) (1 : Int32) 1 rfl
  rw [e4, er]
  exact dd_tie hd (n := (h 43 4).toInt.toNat) (p := r1) (q := r2) (k := r3) (m := h 43 4 + 1) (by omega) hp hk (by omega) rfl
theorem dp_tie2 {h g1 g2 g3 : qm_H} {r1 r2 r3 : Int32} (e1 : g1 43 = h 43) (e2 : g2 43 = upd (g1 43) ((6 + (3 * (h 43 4))) + 0).toInt.toNat r1) (e3 : g3 43 = upd (g2 43) ((6 + (3 * (h 43 4))) + 1).toInt.toNat r2) (hd : dd h) (hm : (h 43 4).toInt < 10) (hp : dp h) (hf : (g3 39 14).toInt = 0 → (h 39 14).toInt = 0 ∧ pr r2) : dp (qm_row (qm_row g3 43 (upd (g3 43) ((6 + (3 * (h 43 4))) + 2).toInt.toNat r3)) 43 (upd (upd (g3 43) ((6 + (3 * (h 43 4))) + 2).toInt.toNat r3) 4 (((upd (g3 43) ((6 + (3 * (h 43 4))) + 2).toInt.toNat r3) 4) + 1))) := by
  intro hz
  have hz' : (g3 39 14).toInt = 0 := hz
  obtain ⟨hz0, hq⟩ := hf hz'
  have er := row_tie (r3 := r3) e1 e2 e3 hd.1.1 hm
  show ∀ t : Nat, t < 10 → pr ((upd (upd (g3 43) ((6 + (3 * (h 43 4))) + 2).toInt.toNat r3) 4 (((upd (g3 43) ((6 + (3 * (h 43 4))) + 2).toInt.toNat r3) 4) + 1)) (7 + 3 * t))
  rw [er]
  exact dp_tie (h := h) (n := (h 43 4).toInt.toNat) (p := r1) (q := r2) (k := r3) (hp hz0) hq rfl
/-! firstDraft() and keepDraft(), to the letter -/
noncomputable def S143 (h : qm_H) : qm_H := qm_row (qm_row h 43 (fun j => if j < 49 then 0 else h 43 j)) 39 (upd (upd (upd (h 39) 5 0) 6 0) 7 (-4))
noncomputable def S144 (h : qm_H) : qm_H := qm_row (qm_row (qm_row h 40 (fun j => if j < 49 then h 43 j else h 40 j)) 39 (upd (h 39) 3 (h 39 5))) 42 (upd (upd (h 42) 0 0) 1 0)
set_option maxRecDepth 100000 in
set_option maxHeartbeats 4000000 in
theorem ex_143_c (X : qm_X) (h : qm_H) (Q : qm_Q) (hq : Q none (S143 h)) : ∀ n : Nat, ∀ (l1 : Int32), (0 ≤ l1.toInt ∧ l1.toInt ≤ 49) → (49 - l1.toInt).toNat < n → qm_PA X 143 2 [(0, .ref 39), (1, .int l1)] [] (qm_row h 43 (fun j => if j < l1.toInt.toNat then 0 else h 43 j)) Q := by
  intro n
  induction n with
  | zero => exact fun _ _ h0 => absurd h0 (Nat.not_lt_zero _)
  | succ n ih =>
    intro l1 hi hr
    generalize hg : qm_row h 43 (fun j => if j < l1.toInt.toNat then 0 else h 43 j) = g
    refine qm_seg_ok (C := qc_143) (rt := none) rfl rfl (cuts := [(2, [0, 1])]) 400 _ _ _ _ ?_
    show (49 ≤ l1.toInt → (((0 : Int32) = 0 ∨ (0 : Int32) = 1) ∧ (Q none (qm_row (qm_row (qm_row g 39 (upd (g 39) 5 0)) 39 (upd (upd (g 39) 5 0) 6 0)) 39 (upd (upd (upd (g 39) 5 0) 6 0) 7 (-4 : Int32)))))) ∧ (l1.toInt < 49 → ((0 ≤ l1.toInt ∧ l1.toInt < 49) ∧ (qm_PA X 143 2 [(0, .ref 39), (1, .int (l1 + 1))] [] (qm_row g 43 (upd (g 43) l1.toInt.toNat 0)) Q)))
    refine ⟨fun c1 => ⟨Or.inl rfl, ?_⟩, fun c2 => ⟨⟨hi.1, c2⟩, ?_⟩⟩
    · refine (congrArg (Q none) ?_).mpr hq
      have e49 : l1.toInt.toNat = 49 := by omega
      rw [e49] at hg
      subst hg
      funext k
      unfold S143
      by_cases h9 : k = 39
      · subst h9; simp [qm_row]
      · simp [qm_row, h9]
    · have e1 := ti_addK l1 (1 : Int32) 1 rfl (by omega)
      have e2 : (l1 + 1).toInt.toNat = l1.toInt.toNat + 1 := by omega
      have k := ih (l1 + 1) (by omega) (by omega)
      refine (congrArg (fun z => qm_PA X 143 2 [(0, .ref 39), (1, .int (l1 + 1))] [] z Q) ?_).mpr k
      subst hg
      rw [e2]
      funext r
      by_cases h43 : r = 43
      · subst h43
        simp only [qm_row, if_true]
        funext j
        unfold upd
        by_cases hj : j = l1.toInt.toNat
        · rw [if_pos hj, if_pos (by omega)]
        · rw [if_neg hj]
          by_cases hj2 : j < l1.toInt.toNat
          · show (if j < l1.toInt.toNat then (0 : Int32) else h 43 j) = _
            rw [if_pos hj2, if_pos (by omega)]
          · show (if j < l1.toInt.toNat then (0 : Int32) else h 43 j) = _
            rw [if_neg hj2, if_neg (by omega)]
      · simp [qm_row, h43]
set_option maxRecDepth 100000 in
set_option maxHeartbeats 4000000 in
theorem ex_143 (X : qm_X) (h : qm_H) (Q : qm_Q) (hq : Q none (S143 h)) : qm_PW X 143 [.ref 39] h Q := by
  refine qm_seg_ok (C := qc_143) (rt := none) rfl rfl (cuts := [(2, [0, 1])]) 400 _ _ _ _ ?_
  show qm_PA X 143 2 [(0, .ref 39), (1, .int 0)] [] h Q
  have k := ex_143_c X h Q hq _ 0 (by decide) (Nat.lt_succ_self _)
  refine (congrArg (fun z => qm_PA X 143 2 [(0, .ref 39), (1, .int 0)] [] z Q) ?_).mpr k
  funext r
  by_cases h43 : r = 43
  · subst h43
    simp only [qm_row, if_true]
    funext j
    rw [if_neg (by have : (0 : Int32).toInt.toNat = 0 := rfl; omega)]
  · simp [qm_row, h43]
set_option maxRecDepth 100000 in
set_option maxHeartbeats 4000000 in
theorem ex_144_c (X : qm_X) (h : qm_H) (Q : qm_Q) (hq : Q none (S144 h)) : ∀ n : Nat, ∀ (l1 : Int32), (0 ≤ l1.toInt ∧ l1.toInt ≤ 49) → (49 - l1.toInt).toNat < n → qm_PA X 144 2 [(0, .ref 39), (1, .int l1)] [] (qm_row h 40 (fun j => if j < l1.toInt.toNat then h 43 j else h 40 j)) Q := by
  intro n
  induction n with
  | zero => exact fun _ _ h0 => absurd h0 (Nat.not_lt_zero _)
  | succ n ih =>
    intro l1 hi hr
    generalize hg : qm_row h 40 (fun j => if j < l1.toInt.toNat then h 43 j else h 40 j) = g
    refine qm_seg_ok (C := qc_144) (rt := none) rfl rfl (cuts := [(2, [0, 1])]) 400 _ _ _ _ ?_
    show (49 ≤ l1.toInt → ((0 ≤ (0 : Int) ∧ (0 : Int) < 2) ∧ ((0 ≤ (1 : Int) ∧ (1 : Int) < 2) ∧ (Q none (qm_row (qm_row (qm_row g 39 (upd (g 39) 3 (g 39 5))) 42 (upd (g 42) 0 (vp_nar .boolean 0))) 42 (upd (upd (g 42) 0 (vp_nar .boolean 0)) 1 (vp_nar .boolean 0))))))) ∧ (l1.toInt < 49 → ((0 ≤ l1.toInt ∧ l1.toInt < 49) ∧ ((0 ≤ l1.toInt ∧ l1.toInt < 147) ∧ (qm_PA X 144 2 [(0, .ref 39), (1, .int (l1 + 1))] [] (qm_row g 40 (upd (g 40) l1.toInt.toNat (g 43 l1.toInt.toNat))) Q))))
    refine ⟨fun c1 => ⟨by decide, by decide, ?_⟩, fun c2 => ⟨⟨hi.1, c2⟩, ⟨hi.1, by omega⟩, ?_⟩⟩
    · refine (congrArg (Q none) ?_).mpr hq
      have e49 : l1.toInt.toNat = 49 := by omega
      rw [e49] at hg
      subst hg
      have ez : vp_nar .boolean 0 = (0 : Int32) := rfl
      rw [ez]
      funext k
      unfold S144
      by_cases h42 : k = 42
      · subst h42; simp [qm_row]
      · by_cases h9 : k = 39
        · subst h9; simp [qm_row]
        · simp [qm_row, h9, h42]
    · have e1 := ti_addK l1 (1 : Int32) 1 rfl (by omega)
      have e2 : (l1 + 1).toInt.toNat = l1.toInt.toNat + 1 := by omega
      have k := ih (l1 + 1) (by omega) (by omega)
      refine (congrArg (fun z => qm_PA X 144 2 [(0, .ref 39), (1, .int (l1 + 1))] [] z Q) ?_).mpr k
      subst hg
      rw [e2]
      funext r
      by_cases h40 : r = 40
      · subst h40
        simp only [qm_row, if_true]
        rw [if_neg (show ¬ (43 : Nat) = 40 by decide)]
        funext j
        unfold upd
        by_cases hj : j = l1.toInt.toNat
        · rw [if_pos hj, if_pos (by omega), hj]
        · rw [if_neg hj]
          by_cases hj2 : j < l1.toInt.toNat
          · show (if j < l1.toInt.toNat then h 43 j else h 40 j) = _
            rw [if_pos hj2, if_pos (by omega)]
          · show (if j < l1.toInt.toNat then h 43 j else h 40 j) = _
            rw [if_neg hj2, if_neg (by omega)]
      · simp [qm_row, h40]
set_option maxRecDepth 100000 in
set_option maxHeartbeats 4000000 in
theorem ex_144 (X : qm_X) (h : qm_H) (Q : qm_Q) (hq : Q none (S144 h)) : qm_PW X 144 [.ref 39] h Q := by
  refine qm_seg_ok (C := qc_144) (rt := none) rfl rfl (cuts := [(2, [0, 1])]) 400 _ _ _ _ ?_
  show qm_PA X 144 2 [(0, .ref 39), (1, .int 0)] [] h Q
  have k := ex_144_c X h Q hq _ 0 (by decide) (Nat.lt_succ_self _)
  refine (congrArg (fun z => qm_PA X 144 2 [(0, .ref 39), (1, .int 0)] [] z Q) ?_).mpr k
  funext r
  by_cases h40 : r = 40
  · subst h40
    simp only [qm_row, if_true]
    funext j
    rw [if_neg (by have : (0 : Int32).toInt.toNat = 0 := rfl; omega)]
  · simp [qm_row, h40]
