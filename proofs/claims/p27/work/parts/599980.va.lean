-- ThreadBankModel.cuts(I)V
set_option maxRecDepth 100000 in
set_option maxHeartbeats 4000000 in
theorem ty_177_c (X : qm_X) (h : qm_H) (a : Int32) (hp : am h) (Q : qm_Q) (hq : ∀ h' : qm_H, (am h' ∧ (∀ k, (k < 41 ∨ 41 < k) → h' k = h k) ∧ (cuR (bP a) (h 41) (h' 41))) → Q none h') : ∀ n : Nat, (∀ (l2 : Int32) (l3 : Int32) (g : qm_H), (((0 ≤ l3.toInt ∧ l3.toInt ≤ (h 41 4).toInt ∧ 0 ≤ l2.toInt ∧ l2.toInt ≤ l3.toInt ∧ (g 41 4).toInt = (h 41 4).toInt) ∧ cuI (bP a) l3.toInt.toNat l2.toInt (h 41) (g 41)) ∧ am g ∧ ∀ k, (k < 41 ∨ 41 < k) → g k = h k) → ((10 - l3.toInt) * 100 + 50).toNat < n → qm_PA X 177 4 [(0, .ref 39), (1, .int a), (2, .int l2), (3, .int l3)] [] g Q) ∧ (∀ (l2 : Int32) (l3 : Int32) (l4 : Int32) (g : qm_H), (((0 ≤ l3.toInt ∧ l3.toInt < (h 41 4).toInt ∧ 0 ≤ l2.toInt ∧ l2.toInt ≤ l3.toInt ∧ (g 41 4).toInt = (h 41 4).toInt ∧ 0 ≤ l4.toInt ∧ l4.toInt ≤ 3) ∧ ((a >>> (l3 &&& 31)) &&& 1) = 0 ∧ cuX (bP a) l3.toInt.toNat l2.toInt l4.toInt.toNat (h 41) (g 41)) ∧ am g ∧ ∀ k, (k < 41 ∨ 41 < k) → g k = h k) → ((10 - l3.toInt) * 100 + 40 - l4.toInt).toNat < n → qm_PA X 177 25 [(0, .ref 39), (1, .int a), (2, .int l2), (3, .int l3), (4, .int l4)] [] g Q) := by
  have hmam : am h := hp
  have ⟨⟨_, _⟩, ⟨_, _⟩, _, _, _⟩ := hmam
  intro n
  induction n with
  | zero => exact ⟨fun _ _ _ _ h0 => absurd h0 (Nat.not_lt_zero _), fun _ _ _ _ _ h0 => absurd h0 (Nat.not_lt_zero _)⟩
  | succ n ih =>
    refine ⟨?_, ?_⟩
    · intro l2 l3 g hi hr
      obtain ⟨hi0, hgam, hgf⟩ := hi
      have ⟨⟨_, _⟩, ⟨_, _⟩, _, _, _⟩ := hgam
      refine qm_seg_ok (C := qc_177) (rt := none) rfl rfl (cuts := [(4, [0, 1, 2, 3]), (25, [0, 1, 2, 3, 4])]) 400 _ _ _ _ ?_
      show (0 ≤ (4 : Int) ∧ (4 : Int) < 49) ∧ (((g 41 4).toInt ≤ l3.toInt → ((0 ≤ (4 : Int) ∧ (4 : Int) < 49) ∧ (Q none (qm_row g 41 (upd (g 41) 4 l2))))) ∧ (l3.toInt < (g 41 4).toInt → ((¬ ((a >>> (l3 &&& 31)) &&& 1) = 0 → (qm_PA X 177 4 [(0, .ref 39), (1, .int a), (2, .int l2), (3, .int (l3 + 1))] [] g Q)) ∧ (((a >>> (l3 &&& 31)) &&& 1) = 0 → (qm_PA X 177 25 [(0, .ref 39), (1, .int a), (2, .int l2), (3, .int l3), (4, .int 0)] [] g Q)))))
      refine ⟨by decide, ?_⟩
      refine ⟨fun c1 => ?_, fun c2 => ?_⟩
      · refine ⟨by decide, ?_⟩
        exact hq (qm_row g 41 (upd (g 41) 4 l2)) ⟨(by exact am_many hgam (by omega)), (fun k hk => by simp only [qm_row]; rw [if_neg (by omega)]; exact hgf k hk), (by show cuR (bP a) (h 41) (upd (g 41) 4 l2); exact cuR_mk (t := l3.toInt.toNat) hi0.2 (by omega) (by omega) rfl)⟩
      · refine ⟨fun c3 => ?_, fun c4 => ?_⟩
        · exact ih.1 l2 (l3 + 1) g ⟨(by have := ti_addK l3 (1 : Int32) 1 rfl; show (0 ≤ (l3 + 1).toInt ∧ (l3 + 1).toInt ≤ (h 41 4).toInt ∧ 0 ≤ l2.toInt ∧ l2.toInt ≤ (l3 + 1).toInt ∧ (g 41 4).toInt = (h 41 4).toInt) ∧ cuI (bP a) (l3 + 1).toInt.toNat l2.toInt (h 41) (g 41); have el3 : l3 = nI l3.toInt.toNat := nI_is (by omega) (by omega); have e9 : (l3 + 1).toInt.toNat = l3.toInt.toNat + 1 := (by omega); exact ⟨by omega, by rw [e9]; exact cuI_n hi0.2 (bP_no el3 (by assumption))⟩), hgam, (fun k hk => hgf k hk)⟩ (by have := ti_addK l3 (1 : Int32) 1 rfl; show ((10 - (l3 + 1).toInt) * 100 + 50).toNat < n; omega)
        · exact ih.2 l2 l3 (0 : Int32) g ⟨(by have : (0 : Int32).toInt = 0 := rfl; show (0 ≤ l3.toInt ∧ l3.toInt < (h 41 4).toInt ∧ 0 ≤ l2.toInt ∧ l2.toInt ≤ l3.toInt ∧ (g 41 4).toInt = (h 41 4).toInt ∧ 0 ≤ (0 : Int32).toInt ∧ (0 : Int32).toInt ≤ 3) ∧ ((a >>> (l3 &&& 31)) &&& 1) = 0 ∧ cuX (bP a) l3.toInt.toNat l2.toInt (0 : Int32).toInt.toNat (h 41) (g 41); exact ⟨by have : (0 : Int32).toInt = 0 := rfl; omega, by assumption, cuX_0 hi0.2 rfl⟩), hgam, (fun k hk => hgf k hk)⟩ (by have : (0 : Int32).toInt = 0 := rfl; show ((10 - l3.toInt) * 100 + 40 - (0 : Int32).toInt).toNat < n; omega)
    · intro l2 l3 l4 g hi hr
      obtain ⟨hi0, hgam, hgf⟩ := hi
      have ⟨⟨_, _⟩, ⟨_, _⟩, _, _, _⟩ := hgam
      refine qm_seg_ok (C := qc_177) (rt := none) rfl rfl (cuts := [(4, [0, 1, 2, 3]), (25, [0, 1, 2, 3, 4])]) 400 _ _ _ _ ?_
      show (3 ≤ l4.toInt → (qm_PA X 177 4 [(0, .ref 39), (1, .int a), (2, .int (l2 + 1)), (3, .int (l3 + 1))] [] g Q)) ∧ (l4.toInt < 3 → (qm_PW X 171 [.ref 39, .int l3, .int l4] g _))
      refine ⟨fun c1 => ?_, fun c2 => ?_⟩
      · exact ih.1 (l2 + 1) (l3 + 1) g ⟨(by have := ti_addK l3 (1 : Int32) 1 rfl; have := ti_addK l2 (1 : Int32) 1 rfl; show (0 ≤ (l3 + 1).toInt ∧ (l3 + 1).toInt ≤ (h 41 4).toInt ∧ 0 ≤ (l2 + 1).toInt ∧ (l2 + 1).toInt ≤ (l3 + 1).toInt ∧ (g 41 4).toInt = (h 41 4).toInt) ∧ cuI (bP a) (l3 + 1).toInt.toNat (l2 + 1).toInt (h 41) (g 41); have el3 : l3 = nI l3.toInt.toNat := nI_is (by omega) (by omega); have e9 : (l3 + 1).toInt.toNat = l3.toInt.toNat + 1 := (by omega); exact ⟨by omega, by rw [e9]; exact cuX_e hi0.2.2 (by omega) (bP_yes el3 hi0.2.1) (by omega) (by omega) (by omega)⟩), hgam, (fun k hk => hgf k hk)⟩ (by have := ti_addK l3 (1 : Int32) 1 rfl; show ((10 - (l3 + 1).toInt) * 100 + 50).toNat < n; omega)
      · refine ty_171 X g l3 l4 ⟨hgam, (by omega)⟩ _ (fun r3 p4 => ?_)
        have o5 : ((l4.toInt = 0 → (r3.toInt = (g 41 (6 + 3 * l3.toInt.toNat)).toInt ∧ 0 ≤ r3.toInt ∧ r3.toInt ≤ 39)) ∧ (l4.toInt = 1 → (r3.toInt = (g 41 (7 + 3 * l3.toInt.toNat)).toInt ∧ 0 ≤ r3.toInt ∧ r3.toInt / 10 ≤ 3 ∧ r3.toInt % 10 ≤ 3)) ∧ (l4.toInt = 2 → (r3.toInt = (g 41 (8 + 3 * l3.toInt.toNat)).toInt ∧ 0 ≤ r3.toInt ∧ r3.toInt ≤ 99))) := p4
        show (0 ≤ ((6 + (3 * l2)) + l4).toInt ∧ ((6 + (3 * l2)) + l4).toInt < 49) ∧ (qm_PA X 177 25 [(0, .ref 39), (1, .int a), (2, .int l2), (3, .int l3), (4, .int (l4 + 1))] [] (qm_row g 41 (upd (g 41) ((6 + (3 * l2)) + l4).toInt.toNat r3)) Q)
        refine ⟨(by have := ti_mulL (3 : Int32) 3 rfl l2; have := ti_addL (3 * l2) (6 : Int32) 6 rfl; have := ti_add (6 + (3 * l2)) l4; omega), ?_⟩
        exact ih.2 l2 l3 (l4 + 1) (qm_row g 41 (upd (g 41) ((6 + (3 * l2)) + l4).toInt.toNat r3)) ⟨(by have := ti_mulL (3 : Int32) 3 rfl l2; have := ti_addL (3 * l2) (6 : Int32) 6 rfl; have := ti_add (6 + (3 * l2)) l4; have := ti_addK l4 (1 : Int32) 1 rfl; show (0 ≤ l3.toInt ∧ l3.toInt < (h 41 4).toInt ∧ 0 ≤ l2.toInt ∧ l2.toInt ≤ l3.toInt ∧ ((upd (g 41) ((6 + (3 * l2)) + l4).toInt.toNat r3) 4).toInt = (h 41 4).toInt ∧ 0 ≤ (l4 + 1).toInt ∧ (l4 + 1).toInt ≤ 3) ∧ ((a >>> (l3 &&& 31)) &&& 1) = 0 ∧ cuX (bP a) l3.toInt.toNat l2.toInt (l4 + 1).toInt.toNat (h 41) ((qm_row g 41 (upd (g 41) ((6 + (3 * l2)) + l4).toInt.toNat r3)) 41); have q3 := ti_mulL (3 : Int32) 3 rfl l2; have q6 := ti_addL (3 * l2) (6 : Int32) 6 rfl; have q7 := ti_add (6 + (3 * l2)) l4; have hix : ((6 + (3 * l2)) + l4).toInt.toNat = 6 + 3 * l2.toInt.toNat + l4.toInt.toNat := (by omega); have e8 : (l4 + 1).toInt.toNat = l4.toInt.toNat + 1 := (by omega); have hx := Int32.toInt_inj.mp (of3 o5 (by omega)); have h4 := congrArg Int32.toInt (upd_ne (f := g 41) (x := r3) (show ¬ 4 = ((6 + (3 * l2)) + l4).toInt.toNat by omega)); exact ⟨by omega, hi0.2.1, by rw [e8]; exact cuX_s hi0.2.2 (by omega) (by omega) (by omega) hx (congrArg (fun z => upd (g 41) z r3) hix)⟩), (by exact am_upd hgam (by omega) (by omega) ⟨fun hc => by omega, fun hc => by omega, fun hc => by omega⟩), (fun k hk => by simp only [qm_row]; rw [if_neg (by omega)]; exact hgf k hk)⟩ (by have := ti_addK l4 (1 : Int32) 1 rfl; show ((10 - l3.toInt) * 100 + 40 - (l4 + 1).toInt).toNat < n; omega)
set_option maxRecDepth 100000 in
set_option maxHeartbeats 4000000 in
theorem ty_177 (X : qm_X) (h : qm_H) (a : Int32) (hp : am h) (Q : qm_Q) (hq : ∀ h' : qm_H, (am h' ∧ (∀ k, (k < 41 ∨ 41 < k) → h' k = h k) ∧ (cuR (bP a) (h 41) (h' 41))) → Q none h') : qm_PW X 177 [.ref 39, .int a] h Q := by
  have hmam : am h := hp
  have ⟨⟨_, _⟩, ⟨_, _⟩, _, _, _⟩ := hmam
  refine qm_seg_ok (C := qc_177) (rt := none) rfl rfl (cuts := [(4, [0, 1, 2, 3]), (25, [0, 1, 2, 3, 4])]) 400 _ _ _ _ ?_
  show qm_PA X 177 4 [(0, .ref 39), (1, .int a), (2, .int 0), (3, .int 0)] [] h Q
  exact (ty_177_c X h a hp Q hq _).1 (0 : Int32) (0 : Int32) h ⟨(by have : (0 : Int32).toInt = 0 := rfl; show (0 ≤ (0 : Int32).toInt ∧ (0 : Int32).toInt ≤ (h 41 4).toInt ∧ 0 ≤ (0 : Int32).toInt ∧ (0 : Int32).toInt ≤ (0 : Int32).toInt ∧ (h 41 4).toInt = (h 41 4).toInt) ∧ cuI (bP a) (0 : Int32).toInt.toNat (0 : Int32).toInt (h 41) (h 41); exact ⟨by have : (0 : Int32).toInt = 0 := rfl; omega, cuI_0 rfl⟩), hmam, (fun k hk => rfl)⟩ (Nat.lt_succ_self _)
-- ThreadBankModel.onHand(I)I
set_option maxRecDepth 100000 in
set_option maxHeartbeats 4000000 in
theorem ty_192_c (X : qm_X) (h : qm_H) (a : Int32) (hp : am h) (Q : qm_Q) (hq : ∀ r : Int32, ((∀ u : Nat, u < (h 41 4).toInt.toNat → bP r u = onP (fun t => (h 41 (6 + 3 * t))) a.toInt u)) → Q (some (.int r)) h) : ∀ n : Nat, (∀ (l2 : Int32) (l3 : Int32), ((0 ≤ l3.toInt ∧ l3.toInt ≤ (h 41 4).toInt) ∧ ohI (onP (fun t => h 41 (6 + 3 * t)) a.toInt) l3.toInt.toNat l2) → (10 - l3.toInt).toNat < n → qm_PA X 192 4 [(0, .ref 39), (1, .int a), (2, .int l2), (3, .int l3)] [] h Q) := by
  have hmam : am h := hp
  have ⟨⟨_, _⟩, ⟨_, _⟩, _, _, _⟩ := hmam
  intro n
  induction n with
  | zero => exact fun _ _ _ h0 => absurd h0 (Nat.not_lt_zero _)
  | succ n ih =>
    intro l2 l3 hi hr
    have hlt := ti_rng l3
    refine qm_seg_ok (C := qc_192) (rt := some .int) rfl rfl (cuts := [(4, [0, 1, 2, 3])]) 400 _ _ _ _ ?_
    show (0 ≤ (4 : Int) ∧ (4 : Int) < 49) ∧ (((h 41 4).toInt ≤ l3.toInt → (Q (some (.int l2)) h)) ∧ (l3.toInt < (h 41 4).toInt → (qm_PW X 172 [.ref 39, .int l3] h _)))
    refine ⟨by decide, ?_⟩
    refine ⟨fun c1 => ?_, fun c2 => ?_⟩
    · exact hq l2 (by show (∀ u : Nat, u < (h 41 4).toInt.toNat → bP l2 u = onP (fun t => (h 41 (6 + 3 * t))) a.toInt u); exact fun u hu => hi.2.1 u (by omega))
    · refine ty_172 X h l3 ⟨hmam, (by omega)⟩ _ (fun r3 p4 => ?_)
      have o5 : r3.toInt = ((h 41 (6 + 3 * l3.toInt.toNat)) / 10).toInt ∧ (0 ≤ r3.toInt ∧ r3.toInt ≤ 3) := p4
      show (¬ r3 = a → (qm_PW X 142 [.int 0] h _)) ∧ (r3 = a → (qm_PW X 142 [.int 1] h _))
      refine ⟨fun c6 => ?_, fun c7 => ?_⟩
      · refine tx_142 X h (0 : Int32) trivial _ (fun r8 p9 => ?_)
        have o10 : ((0 : Int32).toInt = 0 ∧ r8.toInt = 0) ∨ (¬ (0 : Int32).toInt = 0 ∧ r8.toInt = 1) := p9
        show qm_PA X 192 4 [(0, .ref 39), (1, .int a), (2, .int (l2 ||| (r8 <<< (l3 &&& 31)))), (3, .int (l3 + 1))] [] h Q
        exact ih (l2 ||| (r8 <<< (l3 &&& 31))) (l3 + 1) (by have : (0 : Int32).toInt = 0 := rfl; have := ti_addK l3 (1 : Int32) 1 rfl; have := ti_div (10 : Int32) 10 rfl (h 41 (6 + 3 * l3.toInt.toNat)) (by decide); have el3 : l3 = nI l3.toInt.toNat := nI_is (by omega) (by omega); have e9 : (l3 + 1).toInt.toNat = l3.toInt.toNat + 1 := (by omega); have h01 : (0 : Int32).toInt = 0 := rfl; have h11 : (1 : Int32).toInt = 1 := rfl; have hc : ¬ r3.toInt = a.toInt := (fun w => absurd (Int32.toInt_inj.mp w) (by assumption)); have hf : r8 = 0 := Int32.toInt_inj.mp (show r8.toInt = (0 : Int32).toInt by omega); exact ⟨by omega, by rw [e9, hf]; exact ohI_n hi.2 el3 (by omega) (by omega)⟩) (by have : (0 : Int32).toInt = 0 := rfl; have := ti_addK l3 (1 : Int32) 1 rfl; have := ti_div (10 : Int32) 10 rfl (h 41 (6 + 3 * l3.toInt.toNat)) (by decide); omega)
      · refine tx_142 X h (1 : Int32) trivial _ (fun r11 p12 => ?_)
        have o13 : ((1 : Int32).toInt = 0 ∧ r11.toInt = 0) ∨ (¬ (1 : Int32).toInt = 0 ∧ r11.toInt = 1) := p12
        show qm_PA X 192 4 [(0, .ref 39), (1, .int a), (2, .int (l2 ||| (r11 <<< (l3 &&& 31)))), (3, .int (l3 + 1))] [] h Q
        exact ih (l2 ||| (r11 <<< (l3 &&& 31))) (l3 + 1) (by have : (1 : Int32).toInt = 1 := rfl; have := ti_addK l3 (1 : Int32) 1 rfl; have := ti_div (10 : Int32) 10 rfl (h 41 (6 + 3 * l3.toInt.toNat)) (by decide); have el3 : l3 = nI l3.toInt.toNat := nI_is (by omega) (by omega); have e9 : (l3 + 1).toInt.toNat = l3.toInt.toNat + 1 := (by omega); have h01 : (0 : Int32).toInt = 0 := rfl; have h11 : (1 : Int32).toInt = 1 := rfl; have hc := congrArg Int32.toInt (show r3 = a from by assumption); have hf : r11 = 1 := Int32.toInt_inj.mp (show r11.toInt = (1 : Int32).toInt by omega); exact ⟨by omega, by rw [e9, hf]; exact ohI_y hi.2 el3 (by omega) (by omega)⟩) (by have : (1 : Int32).toInt = 1 := rfl; have := ti_addK l3 (1 : Int32) 1 rfl; have := ti_div (10 : Int32) 10 rfl (h 41 (6 + 3 * l3.toInt.toNat)) (by decide); omega)
set_option maxRecDepth 100000 in
set_option maxHeartbeats 4000000 in
theorem ty_192 (X : qm_X) (h : qm_H) (a : Int32) (hp : am h) (Q : qm_Q) (hq : ∀ r : Int32, ((∀ u : Nat, u < (h 41 4).toInt.toNat → bP r u = onP (fun t => (h 41 (6 + 3 * t))) a.toInt u)) → Q (some (.int r)) h) : qm_PW X 192 [.ref 39, .int a] h Q := by
  have hmam : am h := hp
  have ⟨⟨_, _⟩, ⟨_, _⟩, _, _, _⟩ := hmam
  refine qm_seg_ok (C := qc_192) (rt := some .int) rfl rfl (cuts := [(4, [0, 1, 2, 3])]) 400 _ _ _ _ ?_
  show qm_PA X 192 4 [(0, .ref 39), (1, .int a), (2, .int 0), (3, .int 0)] [] h Q
  exact (ty_192_c X h a hp Q hq _) (0 : Int32) (0 : Int32) (by have : (0 : Int32).toInt = 0 := rfl; exact ⟨by have : (0 : Int32).toInt = 0 := rfl; omega, ohI_0⟩) (Nat.lt_succ_self _)
-- ThreadBankModel.cut(I)I
set_option maxRecDepth 100000 in
set_option maxHeartbeats 4000000 in
theorem ty_190 (X : qm_X) (h : qm_H) (a : Int32) (hp : mi h ∧ sm h ∧ zs h ∧ rw_ h) (Q : qm_Q) (hq : ∀ r : Int32, ∀ h' : qm_H, (mi h' ∧ sm h' ∧ zs h' ∧ rw_ h' ∧ (∀ k, (k < 40 ∨ 41 < k) → h' k = h k) ∧ ((wfM (mR h) → r.toInt = (opCut a (mR h)).1 ∧ mR h' = (opCut a (mR h)).2) ∧ (∀ j : Nat, 49 ≤ j → (h' 40) j = (h 40) j))) → Q (some (.int r)) h') : qm_PW X 190 [.ref 39, .int a] h Q := by
  have hmmi : mi h := hp.1
  have ⟨⟨_, _⟩, ⟨_, _⟩, ⟨_, _⟩, ⟨_, _⟩, _, _⟩ := hmmi
  have hmsm : sm h := hp.2.1
  have ⟨⟨⟨_, _⟩, _, _⟩, _, _, _⟩ := hmsm
  have hmzs : zs h := hp.2.2.1
  have hmrw : rw_ h := hp.2.2.2
  refine qm_seg_ok (C := qc_190) (rt := some .int) rfl rfl (cuts := []) 400 _ _ _ _ ?_
  show qm_PW X 167 [.ref 39, .int a] h _
  refine ty_167 X h a hmsm _ (fun r1 p2 => ?_)
  have o3 : (r1 = 0 ∨ r1 = 1) ∧ ((r1.toInt = 1 ∧ 0 ≤ a.toInt ∧ a.toInt < (h 40 4).toInt) ∨ (r1.toInt = 0 ∧ ¬ (0 ≤ a.toInt ∧ a.toInt < (h 40 4).toInt))) := p2
  clear p2
  show (¬ r1 = 0 → (qm_PW X 169 [.ref 39] h _)) ∧ (r1 = 0 → (Q (some (.int (-1 : Int32))) h))
  refine ⟨fun c4 => ?_, fun c5 => ?_⟩
  · have := ti_neK 0 rfl c4
    refine sf_169_39 X h  hmsm _ (fun g6 p7 => ?_)
    obtain ⟨p7_0, p7_1, p7_2⟩ := p7
    have f8 : ∀ k, (k < 40 ∨ 41 < k) → g6 k = h k := fun k hk => (p7_1 k (by omega)).trans (rfl)
    have k9 : mi g6 := by unfold mi; rw [p7_1 39 (by omega)]; exact hmmi
    have k10 : sm g6 := by unfold sm; rw [p7_1 40 (by omega)]; exact hmsm
    have k11 : zs g6 := by unfold zs; rw [p7_1 49 (by omega)]; exact hmzs
    have k12 : rw_ g6 := by unfold rw_; rw [p7_1 46 (by omega)]; exact hmrw
    have o13 : (∀ j : Nat, j < 49 → g6 41 j = h 40 j) := p7_2
    clear p7_2
    have w39_g6 : g6 39 = h 39 := (p7_1 39 (by omega))
    have w40_g6 : g6 40 = h 40 := (p7_1 40 (by omega))
    have sA_g6 : ∀ j : Nat, j < 49 → g6 41 j = h 40 j := o13
    have s4_g6 : (g6 41 4).toInt = (h 40 4).toInt := congrArg Int32.toInt (sA_g6 4 (by decide))
    show qm_PW X 177 [.ref 39, .int (1 <<< (a &&& 31))] g6 _
    refine ty_177 X g6 (1 <<< (a &&& 31)) p7_0 _ (fun g14 p15 => ?_)
    obtain ⟨p15_0, p15_1, p15_2⟩ := p15
    have f16 : ∀ k, (k < 40 ∨ 41 < k) → g14 k = h k := fun k hk => (p15_1 k (by omega)).trans (f8 k hk)
    have k17 : mi g14 := by unfold mi; rw [p15_1 39 (by omega)]; exact k9
    have k18 : sm g14 := by unfold sm; rw [p15_1 40 (by omega)]; exact k10
    have k19 : zs g14 := by unfold zs; rw [p15_1 49 (by omega)]; exact k11
    have k20 : rw_ g14 := by unfold rw_; rw [p15_1 46 (by omega)]; exact k12
    have o21 : cuR (bP (1 <<< (a &&& 31))) (g6 41) (g14 41) := p15_2
    clear p15_2
    have w39_g14 : g14 39 = h 39 := (p15_1 39 (by omega)).trans w39_g6
    have w40_g14 : g14 40 = h 40 := (p15_1 40 (by omega)).trans w40_g6
    show qm_PW X 170 [.ref 39] g14 _
    refine ty_170 X g14  ⟨k18, p15_0⟩ _ (fun g22 p23 => ?_)
    obtain ⟨p23_0, p23_1, p23_2⟩ := p23
    have f24 : ∀ k, (k < 40 ∨ 41 < k) → g22 k = h k := fun k hk => (p23_1 k (by omega)).trans (f16 k hk)
    have k25 : mi g22 := by unfold mi; rw [p23_1 39 (by omega)]; exact k17
    have k26 : zs g22 := by unfold zs; rw [p23_1 49 (by omega)]; exact k19
    have k27 : rw_ g22 := by unfold rw_; rw [p23_1 46 (by omega)]; exact k20
    have k28 : am g22 := by unfold am; rw [p23_1 41 (by omega)]; exact p15_0
    have o29 : ((∀ j : Nat, j < 49 → (g22 40) j = (g14 41) j) ∧ ∀ j : Nat, 49 ≤ j → (g22 40) j = (g14 40) j) := p23_2
    clear p23_2
    have w39_g22 : g22 39 = h 39 := (p23_1 39 (by omega)).trans w39_g14
    show (0 ≤ (4 : Int) ∧ (4 : Int) < 147) ∧ (Q (some (.int (g22 40 4))) g22)
    refine ⟨by decide, ?_⟩
    exact hq (g22 40 4) g22 ⟨k25, p23_0, k26, k27, (fun k hk => f24 k hk), (by show (wfM (mR h) → (g22 40 4).toInt = (opCut a (mR h)).1 ∧ mR g22 = (opCut a (mR h)).2) ∧ (∀ j : Nat, 49 ≤ j → (g22 40) j = (h 40) j); have e39 : g22 39 = h 39 := (p23_1 39 (by omega)).trans w39_g14; have m9 := cut_seq e39 sA_g6 o21 o29.1 (by omega) (by omega) (by omega); have hi9 := hi_set o29.2 w40_g14; exact ⟨fun hw => by rw [show opCut a (mR h) = _ from cut_ok (show 0 ≤ a.toInt ∧ a.toInt < (h 40 4).toInt by omega) ((wSel_eq (fun u hu => bP_one (by omega) (show u < 10 from by have hu : u < (h 40 4).toInt.toNat := hu; omega))).trans m9)]; exact ⟨rfl, rfl⟩, hi9⟩)⟩
  · have := ti_eqK 0 rfl c5
    exact hq (-1 : Int32) h ⟨hmmi, hmsm, hmzs, hmrw, (fun k hk => rfl), (by show (wfM (mR h) → (-1 : Int32).toInt = (opCut a (mR h)).1 ∧ mR h = (opCut a (mR h)).2) ∧ (∀ j : Nat, 49 ≤ j → (h 40) j = (h 40) j); rw [ti_n1]; exact ⟨fun hw => by rw [show opCut a (mR h) = _ from cut_bad (fun z => absurd (show 0 ≤ a.toInt ∧ a.toInt < (h 40 4).toInt from z) (by omega))]; exact ⟨rfl, rfl⟩, fun j hj => rfl⟩)⟩
-- ThreadBankModel.lose(I)I
set_option maxRecDepth 100000 in
set_option maxHeartbeats 4000000 in
theorem ty_193 (X : qm_X) (h : qm_H) (a : Int32) (hp : mi h ∧ sm h ∧ zs h ∧ rw_ h) (Q : qm_Q) (hq : ∀ r : Int32, ∀ h' : qm_H, (mi h' ∧ sm h' ∧ zs h' ∧ rw_ h' ∧ (∀ k, (k < 40 ∨ 41 < k) → h' k = h k) ∧ ((wfM (mR h) → r.toInt = (opLose a (mR h)).1 ∧ mR h' = (opLose a (mR h)).2) ∧ (∀ j : Nat, 49 ≤ j → (h' 40) j = (h 40) j))) → Q (some (.int r)) h') : qm_PW X 193 [.ref 39, .int a] h Q := by
  have hmmi : mi h := hp.1
  have ⟨⟨_, _⟩, ⟨_, _⟩, ⟨_, _⟩, ⟨_, _⟩, _, _⟩ := hmmi
  have hmsm : sm h := hp.2.1
  have ⟨⟨⟨_, _⟩, _, _⟩, _, _, _⟩ := hmsm
  have hmzs : zs h := hp.2.2.1
  have hmrw : rw_ h := hp.2.2.2
  refine qm_seg_ok (C := qc_193) (rt := some .int) rfl rfl (cuts := []) 400 _ _ _ _ ?_
  show qm_PW X 164 [.ref 39, .int a] h _
  refine ty_164 X h a hmmi _ (fun r1 p2 => ?_)
  have o3 : (r1 = 0 ∨ r1 = 1) ∧ ((r1.toInt = 1 ∧ 0 ≤ a.toInt ∧ a.toInt < (h 39 3).toInt) ∨ (r1.toInt = 0 ∧ ¬ (0 ≤ a.toInt ∧ a.toInt < (h 39 3).toInt))) := p2
  clear p2
  show (¬ r1 = 0 → (qm_PW X 169 [.ref 39] h _)) ∧ (r1 = 0 → (Q (some (.int (-1 : Int32))) h))
  refine ⟨fun c4 => ?_, fun c5 => ?_⟩
  · have := ti_neK 0 rfl c4
    refine sf_169_39 X h  hmsm _ (fun g6 p7 => ?_)
    obtain ⟨p7_0, p7_1, p7_2⟩ := p7
    have f8 : ∀ k, (k < 40 ∨ 41 < k) → g6 k = h k := fun k hk => (p7_1 k (by omega)).trans (rfl)
    have k9 : mi g6 := by unfold mi; rw [p7_1 39 (by omega)]; exact hmmi
    have k10 : sm g6 := by unfold sm; rw [p7_1 40 (by omega)]; exact hmsm
    have k11 : zs g6 := by unfold zs; rw [p7_1 49 (by omega)]; exact hmzs
    have k12 : rw_ g6 := by unfold rw_; rw [p7_1 46 (by omega)]; exact hmrw
    have o13 : (∀ j : Nat, j < 49 → g6 41 j = h 40 j) := p7_2
    clear p7_2
    have w39_g6 : g6 39 = h 39 := (p7_1 39 (by omega))
    have w40_g6 : g6 40 = h 40 := (p7_1 40 (by omega))
    have sA_g6 : ∀ j : Nat, j < 49 → g6 41 j = h 40 j := o13
    have s4_g6 : (g6 41 4).toInt = (h 40 4).toInt := congrArg Int32.toInt (sA_g6 4 (by decide))
    show (0 ≤ (4 : Int) ∧ (4 : Int) < 49) ∧ (qm_PW X 192 [.ref 39, .int a] g6 _)
    refine ⟨by decide, ?_⟩
    refine ty_192 X g6 a p7_0 _ (fun r14 p15 => ?_)
    have o16 : (∀ u : Nat, u < (g6 41 4).toInt.toNat → bP r14 u = onP (fun t => (g6 41 (6 + 3 * t))) a.toInt u) := p15
    clear p15
    show qm_PW X 177 [.ref 39, .int r14] g6 _
    refine ty_177 X g6 r14 p7_0 _ (fun g17 p18 => ?_)
    obtain ⟨p18_0, p18_1, p18_2⟩ := p18
    have f19 : ∀ k, (k < 40 ∨ 41 < k) → g17 k = h k := fun k hk => (p18_1 k (by omega)).trans (f8 k hk)
    have k20 : mi g17 := by unfold mi; rw [p18_1 39 (by omega)]; exact k9
    have k21 : sm g17 := by unfold sm; rw [p18_1 40 (by omega)]; exact k10
    have k22 : zs g17 := by unfold zs; rw [p18_1 49 (by omega)]; exact k11
    have k23 : rw_ g17 := by unfold rw_; rw [p18_1 46 (by omega)]; exact k12
    have o24 : cuR (bP r14) (g6 41) (g17 41) := p18_2
    clear p18_2
    have w39_g17 : g17 39 = h 39 := (p18_1 39 (by omega)).trans w39_g6
    have w40_g17 : g17 40 = h 40 := (p18_1 40 (by omega)).trans w40_g6
    show qm_PW X 170 [.ref 39] g17 _
    refine ty_170 X g17  ⟨k21, p18_0⟩ _ (fun g25 p26 => ?_)
    obtain ⟨p26_0, p26_1, p26_2⟩ := p26
    have f27 : ∀ k, (k < 40 ∨ 41 < k) → g25 k = h k := fun k hk => (p26_1 k (by omega)).trans (f19 k hk)
    have k28 : mi g25 := by unfold mi; rw [p26_1 39 (by omega)]; exact k20
    have k29 : zs g25 := by unfold zs; rw [p26_1 49 (by omega)]; exact k22
    have k30 : rw_ g25 := by unfold rw_; rw [p26_1 46 (by omega)]; exact k23
    have k31 : am g25 := by unfold am; rw [p26_1 41 (by omega)]; exact p18_0
    have o32 : ((∀ j : Nat, j < 49 → (g25 40) j = (g17 41) j) ∧ ∀ j : Nat, 49 ≤ j → (g25 40) j = (g17 40) j) := p26_2
    clear p26_2
    have w39_g25 : g25 39 = h 39 := (p26_1 39 (by omega)).trans w39_g17
    show (0 ≤ (4 : Int) ∧ (4 : Int) < 147) ∧ (Q (some (.int ((g6 41 4) - (g25 40 4)))) g25)
    refine ⟨by decide, ?_⟩
    exact hq ((g6 41 4) - (g25 40 4)) g25 ⟨k28, p26_0, k29, k30, (fun k hk => f27 k hk), (by have := ti_sub (g6 41 4) (g25 40 4); have ⟨⟨_, _⟩, ⟨_, _⟩, ⟨_, _⟩, ⟨_, _⟩, _, _⟩ := hmmi; have := p26_0.1; show (wfM (mR h) → ((g6 41 4) - (g25 40 4)).toInt = (opLose a (mR h)).1 ∧ mR g25 = (opLose a (mR h)).2) ∧ (∀ j : Nat, 49 ≤ j → (g25 40) j = (h 40) j); have e39 : g25 39 = h 39 := (p26_1 39 (by omega)).trans w39_g17; have m9 := cut_seq e39 sA_g6 o24 o32.1 (by omega) (by omega) (by omega); have hi9 := hi_set o32.2 w40_g17; have hr9 := cut_th m9 (by omega); exact ⟨fun hw => by rw [show opLose a (mR h) = _ from lose_ok (show 0 ≤ a.toInt ∧ a.toInt < (h 39 3).toInt by omega) ((wSel_eq (fun u hu => (on_eq sA_g6 o16 (show u < (h 40 4).toInt.toNat from hu) (by omega)).symm)).trans m9)]; exact ⟨(show ((g6 41 4) - (g25 40 4)).toInt = (h 40 4).toInt - (g25 40 4).toInt by omega), rfl⟩, hi9⟩)⟩
  · have := ti_eqK 0 rfl c5
    exact hq (-1 : Int32) h ⟨hmmi, hmsm, hmzs, hmrw, (fun k hk => rfl), (by have ⟨⟨_, _⟩, ⟨_, _⟩, ⟨_, _⟩, ⟨_, _⟩, _, _⟩ := hmmi; show (wfM (mR h) → (-1 : Int32).toInt = (opLose a (mR h)).1 ∧ mR h = (opLose a (mR h)).2) ∧ (∀ j : Nat, 49 ≤ j → (h 40) j = (h 40) j); rw [ti_n1]; exact ⟨fun hw => by rw [show opLose a (mR h) = _ from lose_bad (fun z => absurd (show 0 ≤ a.toInt ∧ a.toInt < (h 39 3).toInt from z) (by omega))]; exact ⟨rfl, rfl⟩, fun j hj => rfl⟩)⟩
