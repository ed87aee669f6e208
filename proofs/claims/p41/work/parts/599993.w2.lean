-- ThreadBankModel.areAlike(II)Z
set_option maxRecDepth 100000 in
set_option maxHeartbeats 4000000 in
theorem ty_178 (X : qm_X) (h : qm_H) (a : Int32) (b : Int32) (hp : am h ∧ ((0 ≤ a.toInt ∧ a.toInt ≤ 9) ∧ (0 ≤ b.toInt ∧ b.toInt ≤ 9))) (Q : qm_Q) (hq : ∀ r : Int32, ((r = 0 ∨ r = 1) ∧ ((r.toInt = 1 ∧ (h 41 (7 + 3 * a.toInt.toNat)).toInt = (h 41 (7 + 3 * b.toInt.toNat)).toInt ∧ (h 41 (8 + 3 * a.toInt.toNat)).toInt = (h 41 (8 + 3 * b.toInt.toNat)).toInt) ∨ (r.toInt = 0 ∧ ¬ ((h 41 (7 + 3 * a.toInt.toNat)).toInt = (h 41 (7 + 3 * b.toInt.toNat)).toInt ∧ (h 41 (8 + 3 * a.toInt.toNat)).toInt = (h 41 (8 + 3 * b.toInt.toNat)).toInt)))) → Q (some (.int r)) h) : qm_PW X 178 [.ref 39, .int a, .int b] h Q := by
  have hmam : am h := hp.1
  have ⟨⟨_, _⟩, ⟨_, _⟩, _, _, _⟩ := hmam
  have hp0 : (0 ≤ a.toInt ∧ a.toInt ≤ 9) ∧ (0 ≤ b.toInt ∧ b.toInt ≤ 9) := hp.2
  refine qm_seg_ok (C := qc_178) (rt := some .boolean) rfl rfl (cuts := []) 400 _ _ _ _ ?_
  show qm_PW X 171 [.ref 39, .int a, .int 1] h _
  refine ty_171 X h a (1 : Int32) ⟨hmam, (by have : (1 : Int32).toInt = 1 := rfl; omega)⟩ _ (fun r1 p2 => ?_)
  have o3 : (r1.toInt = (h 41 (7 + 3 * a.toInt.toNat)).toInt ∧ 0 ≤ r1.toInt ∧ r1.toInt / 10 ≤ 3 ∧ r1.toInt % 10 ≤ 3) := p2.2.1 rfl
  clear p2
  show qm_PW X 171 [.ref 39, .int b, .int 1] h _
  refine ty_171 X h b (1 : Int32) ⟨hmam, (by have : (1 : Int32).toInt = 1 := rfl; omega)⟩ _ (fun r4 p5 => ?_)
  have o6 : (r4.toInt = (h 41 (7 + 3 * b.toInt.toNat)).toInt ∧ 0 ≤ r4.toInt ∧ r4.toInt / 10 ≤ 3 ∧ r4.toInt % 10 ≤ 3) := p5.2.1 rfl
  clear p5
  show (¬ r1 = r4 → (((0 : Int32) = 0 ∨ (0 : Int32) = 1) ∧ Q (some (.int 0)) h)) ∧ (r1 = r4 → (qm_PW X 171 [.ref 39, .int a, .int 2] h _))
  refine ⟨fun c7 => ?_, fun c8 => ?_⟩
  · have : ¬ r1.toInt = r4.toInt := fun q => c7 (Int32.toInt_inj.mp q)
    exact ⟨Or.inl rfl, hq 0 (by have : (0 : Int32).toInt = 0 := rfl; show ((0 : Int32) = 0 ∨ (0 : Int32) = 1) ∧ (((0 : Int32).toInt = 1 ∧ (h 41 (7 + 3 * a.toInt.toNat)).toInt = (h 41 (7 + 3 * b.toInt.toNat)).toInt ∧ (h 41 (8 + 3 * a.toInt.toNat)).toInt = (h 41 (8 + 3 * b.toInt.toNat)).toInt) ∨ ((0 : Int32).toInt = 0 ∧ ¬ ((h 41 (7 + 3 * a.toInt.toNat)).toInt = (h 41 (7 + 3 * b.toInt.toNat)).toInt ∧ (h 41 (8 + 3 * a.toInt.toNat)).toInt = (h 41 (8 + 3 * b.toInt.toNat)).toInt))); first | exact ⟨Or.inr rfl, by omega⟩ | exact ⟨Or.inl rfl, by omega⟩)⟩
  · have : r1.toInt = r4.toInt := congrArg Int32.toInt c8
    refine ty_171 X h a (2 : Int32) ⟨hmam, (by have : (2 : Int32).toInt = 2 := rfl; omega)⟩ _ (fun r9 p10 => ?_)
    have o11 : (r9.toInt = (h 41 (8 + 3 * a.toInt.toNat)).toInt ∧ 0 ≤ r9.toInt ∧ r9.toInt ≤ 99) := p10.2.2 rfl
    clear p10
    show qm_PW X 171 [.ref 39, .int b, .int 2] h _
    refine ty_171 X h b (2 : Int32) ⟨hmam, (by have : (2 : Int32).toInt = 2 := rfl; omega)⟩ _ (fun r12 p13 => ?_)
    have o14 : (r12.toInt = (h 41 (8 + 3 * b.toInt.toNat)).toInt ∧ 0 ≤ r12.toInt ∧ r12.toInt ≤ 99) := p13.2.2 rfl
    clear p13
    show (¬ r9 = r12 → (((0 : Int32) = 0 ∨ (0 : Int32) = 1) ∧ Q (some (.int 0)) h)) ∧ (r9 = r12 → (((1 : Int32) = 0 ∨ (1 : Int32) = 1) ∧ Q (some (.int 1)) h))
    refine ⟨fun c15 => ?_, fun c16 => ?_⟩
    · have : ¬ r9.toInt = r12.toInt := fun q => c15 (Int32.toInt_inj.mp q)
      exact ⟨Or.inl rfl, hq 0 (by have : (0 : Int32).toInt = 0 := rfl; show ((0 : Int32) = 0 ∨ (0 : Int32) = 1) ∧ (((0 : Int32).toInt = 1 ∧ (h 41 (7 + 3 * a.toInt.toNat)).toInt = (h 41 (7 + 3 * b.toInt.toNat)).toInt ∧ (h 41 (8 + 3 * a.toInt.toNat)).toInt = (h 41 (8 + 3 * b.toInt.toNat)).toInt) ∨ ((0 : Int32).toInt = 0 ∧ ¬ ((h 41 (7 + 3 * a.toInt.toNat)).toInt = (h 41 (7 + 3 * b.toInt.toNat)).toInt ∧ (h 41 (8 + 3 * a.toInt.toNat)).toInt = (h 41 (8 + 3 * b.toInt.toNat)).toInt))); first | exact ⟨Or.inr rfl, by omega⟩ | exact ⟨Or.inl rfl, by omega⟩)⟩
    · have : r9.toInt = r12.toInt := congrArg Int32.toInt c16
      exact ⟨Or.inr rfl, hq 1 (by have : (1 : Int32).toInt = 1 := rfl; show ((1 : Int32) = 0 ∨ (1 : Int32) = 1) ∧ (((1 : Int32).toInt = 1 ∧ (h 41 (7 + 3 * a.toInt.toNat)).toInt = (h 41 (7 + 3 * b.toInt.toNat)).toInt ∧ (h 41 (8 + 3 * a.toInt.toNat)).toInt = (h 41 (8 + 3 * b.toInt.toNat)).toInt) ∨ ((1 : Int32).toInt = 0 ∧ ¬ ((h 41 (7 + 3 * a.toInt.toNat)).toInt = (h 41 (7 + 3 * b.toInt.toNat)).toInt ∧ (h 41 (8 + 3 * a.toInt.toNat)).toInt = (h 41 (8 + 3 * b.toInt.toNat)).toInt))); first | exact ⟨Or.inr rfl, by omega⟩ | exact ⟨Or.inl rfl, by omega⟩)⟩
-- ThreadBankModel.isCopy(I)Z
set_option maxRecDepth 100000 in
set_option maxHeartbeats 4000000 in
theorem ty_179_c (X : qm_X) (h : qm_H) (a : Int32) (hp : am h ∧ (0 ≤ a.toInt ∧ a.toInt ≤ 9)) (Q : qm_Q) (hq : ∀ r : Int32, ((r = 0 ∨ r = 1) ∧ ((¬ r = 0 ∧ icA (fun t => (h 41 (6 + 3 * t))) (fun t => (h 41 (7 + 3 * t))) (fun t => (h 41 (8 + 3 * t))) a.toInt.toNat) ∨ (r = 0 ∧ ¬ icA (fun t => (h 41 (6 + 3 * t))) (fun t => (h 41 (7 + 3 * t))) (fun t => (h 41 (8 + 3 * t))) a.toInt.toNat))) → Q (some (.int r)) h) : ∀ n : Nat, (∀ (l2 : Int32) (l3 : Int32), (((0 ≤ l3.toInt ∧ l3.toInt ≤ a.toInt) ∧ orI l2 (icF (fun t => h 41 (6 + 3 * t)) (fun t => h 41 (7 + 3 * t)) (fun t => h 41 (8 + 3 * t)) a.toInt.toNat) l3.toInt.toNat) ∧ (l2 = 0 ∨ l2 = 1)) → (9 - l3.toInt).toNat < n → qm_PA X 179 4 [(0, .ref 39), (1, .int a), (2, .int l2), (3, .int l3)] [] h Q) := by
  have hmam : am h := hp.1
  have ⟨⟨_, _⟩, ⟨_, _⟩, _, _, _⟩ := hmam
  have hp0 : 0 ≤ a.toInt ∧ a.toInt ≤ 9 := hp.2
  intro n
  induction n with
  | zero => exact fun _ _ _ h0 => absurd h0 (Nat.not_lt_zero _)
  | succ n ih =>
    intro l2 l3 hi hr
    obtain ⟨hi0, hb2⟩ := hi
    have ti_l3 := ti_rng l3
    refine qm_seg_ok (C := qc_179) (rt := some .boolean) rfl rfl (cuts := [(4, [0, 1, 2, 3])]) 400 _ _ _ _ ?_
    show (a.toInt ≤ l3.toInt → ((l2 = 0 ∨ l2 = 1) ∧ Q (some (.int l2)) h)) ∧ (l3.toInt < a.toInt → ((¬ l2 = 0 → (qm_PA X 179 4 [(0, .ref 39), (1, .int a), (2, .int 1), (3, .int (l3 + 1))] [] h Q)) ∧ (l2 = 0 → (qm_PW X 178 [.ref 39, .int a, .int l3] h _))))
    refine ⟨fun c1 => ?_, fun c2 => ?_⟩
    · exact ⟨hb2, hq l2 (by show (l2 = 0 ∨ l2 = 1) ∧ ((¬ l2 = 0 ∧ icA (fun t => (h 41 (6 + 3 * t))) (fun t => (h 41 (7 + 3 * t))) (fun t => (h 41 (8 + 3 * t))) a.toInt.toNat) ∨ (l2 = 0 ∧ ¬ icA (fun t => (h 41 (6 + 3 * t))) (fun t => (h 41 (7 + 3 * t))) (fun t => (h 41 (8 + 3 * t))) a.toInt.toNat)); exact ⟨hb2, orI_two (orI_to hi0.2 (by omega))⟩)⟩
    · refine ⟨fun c3 => ?_, fun c4 => ?_⟩
      · have := ti_neK 0 rfl c3
        exact ih (1 : Int32) (l3 + 1) ⟨(by have := ti_addK l3 (1 : Int32) 1 rfl; show (0 ≤ (l3 + 1).toInt ∧ (l3 + 1).toInt ≤ a.toInt) ∧ orI (1 : Int32) (icF (fun t => h 41 (6 + 3 * t)) (fun t => h 41 (7 + 3 * t)) (fun t => h 41 (8 + 3 * t)) a.toInt.toNat) (l3 + 1).toInt.toNat; have e9 : (l3 + 1).toInt.toNat = l3.toInt.toNat + 1 := (by omega); have h1 : ¬ l2 = 0 := (by assumption); exact ⟨by omega, by rw [e9]; exact orI_y1 hi0.2 h1⟩), (Or.inr rfl)⟩ (by have := ti_addK l3 (1 : Int32) 1 rfl; omega)
      · have := ti_eqK 0 rfl c4
        refine ty_178 X h a l3 ⟨hmam, (by omega)⟩ _ (fun r5 p6 => ?_)
        have o7 : (r5 = 0 ∨ r5 = 1) ∧ ((r5.toInt = 1 ∧ (h 41 (7 + 3 * a.toInt.toNat)).toInt = (h 41 (7 + 3 * l3.toInt.toNat)).toInt ∧ (h 41 (8 + 3 * a.toInt.toNat)).toInt = (h 41 (8 + 3 * l3.toInt.toNat)).toInt) ∨ (r5.toInt = 0 ∧ ¬ ((h 41 (7 + 3 * a.toInt.toNat)).toInt = (h 41 (7 + 3 * l3.toInt.toNat)).toInt ∧ (h 41 (8 + 3 * a.toInt.toNat)).toInt = (h 41 (8 + 3 * l3.toInt.toNat)).toInt))) := p6
        clear p6
        show (r5 = 0 → (qm_PA X 179 4 [(0, .ref 39), (1, .int a), (2, .int 0), (3, .int (l3 + 1))] [] h Q)) ∧ (¬ r5 = 0 → (qm_PW X 172 [.ref 39, .int l3] h _))
        refine ⟨fun c8 => ?_, fun c9 => ?_⟩
        · have := ti_eqK 0 rfl c8
          exact ih (0 : Int32) (l3 + 1) ⟨(by have := ti_addK l3 (1 : Int32) 1 rfl; show (0 ≤ (l3 + 1).toInt ∧ (l3 + 1).toInt ≤ a.toInt) ∧ orI (0 : Int32) (icF (fun t => h 41 (6 + 3 * t)) (fun t => h 41 (7 + 3 * t)) (fun t => h 41 (8 + 3 * t)) a.toInt.toNat) (l3 + 1).toInt.toNat; have e9 : (l3 + 1).toInt.toNat = l3.toInt.toNat + 1 := (by omega); exact ⟨by omega, by rw [e9]; exact orI_n (orI_z hi0.2 (by assumption)) (fun w => by have w1 : (h 41 (7 + 3 * a.toInt.toNat)).toInt = (h 41 (7 + 3 * l3.toInt.toNat)).toInt := w.1; have w2 : (h 41 (8 + 3 * a.toInt.toNat)).toInt = (h 41 (8 + 3 * l3.toInt.toNat)).toInt := w.2.1; omega)⟩), (Or.inl rfl)⟩ (by have := ti_addK l3 (1 : Int32) 1 rfl; omega)
        · have := ti_neK 0 rfl c9
          refine ty_172 X h l3 ⟨hmam, (by omega)⟩ _ (fun r10 p11 => ?_)
          have o12 : r10.toInt = ((h 41 (6 + 3 * l3.toInt.toNat)) / 10).toInt ∧ (0 ≤ r10.toInt ∧ r10.toInt ≤ 3) := p11
          clear p11
          show qm_PW X 172 [.ref 39, .int a] h _
          refine ty_172 X h a ⟨hmam, (by have := ti_div (10 : Int32) 10 rfl (h 41 (6 + 3 * l3.toInt.toNat)) (by decide); omega)⟩ _ (fun r13 p14 => ?_)
          have o15 : r13.toInt = ((h 41 (6 + 3 * a.toInt.toNat)) / 10).toInt ∧ (0 ≤ r13.toInt ∧ r13.toInt ≤ 3) := p14
          clear p14
          show (r10 = r13 → (qm_PA X 179 4 [(0, .ref 39), (1, .int a), (2, .int 0), (3, .int (l3 + 1))] [] h Q)) ∧ (¬ r10 = r13 → (qm_PA X 179 4 [(0, .ref 39), (1, .int a), (2, .int 1), (3, .int (l3 + 1))] [] h Q))
          refine ⟨fun c16 => ?_, fun c17 => ?_⟩
          · exact ih (0 : Int32) (l3 + 1) ⟨(by have := ti_addK l3 (1 : Int32) 1 rfl; have := ti_div (10 : Int32) 10 rfl (h 41 (6 + 3 * l3.toInt.toNat)) (by decide); have := ti_div (10 : Int32) 10 rfl (h 41 (6 + 3 * a.toInt.toNat)) (by decide); show (0 ≤ (l3 + 1).toInt ∧ (l3 + 1).toInt ≤ a.toInt) ∧ orI (0 : Int32) (icF (fun t => h 41 (6 + 3 * t)) (fun t => h 41 (7 + 3 * t)) (fun t => h 41 (8 + 3 * t)) a.toInt.toNat) (l3 + 1).toInt.toNat; have e9 : (l3 + 1).toInt.toNat = l3.toInt.toNat + 1 := (by omega); have heq := congrArg Int32.toInt (show r10 = r13 from by assumption); exact ⟨by omega, by rw [e9]; exact orI_n (orI_z hi0.2 (by assumption)) (fun w => w.2.2 (by rw [← o12.1, ← o15.1]; exact heq.symm))⟩), (Or.inl rfl)⟩ (by have := ti_addK l3 (1 : Int32) 1 rfl; have := ti_div (10 : Int32) 10 rfl (h 41 (6 + 3 * l3.toInt.toNat)) (by decide); have := ti_div (10 : Int32) 10 rfl (h 41 (6 + 3 * a.toInt.toNat)) (by decide); omega)
          · exact ih (1 : Int32) (l3 + 1) ⟨(by have := ti_addK l3 (1 : Int32) 1 rfl; have := ti_div (10 : Int32) 10 rfl (h 41 (6 + 3 * l3.toInt.toNat)) (by decide); have := ti_div (10 : Int32) 10 rfl (h 41 (6 + 3 * a.toInt.toNat)) (by decide); show (0 ≤ (l3 + 1).toInt ∧ (l3 + 1).toInt ≤ a.toInt) ∧ orI (1 : Int32) (icF (fun t => h 41 (6 + 3 * t)) (fun t => h 41 (7 + 3 * t)) (fun t => h 41 (8 + 3 * t)) a.toInt.toNat) (l3 + 1).toInt.toNat; have e9 : (l3 + 1).toInt.toNat = l3.toInt.toNat + 1 := (by omega); have hne : ¬ r10.toInt = r13.toInt := (fun w => absurd (Int32.toInt_inj.mp w) (by assumption)); exact ⟨by omega, by rw [e9]; exact orI_y (x := l2) (P := icF (fun t => h 41 (6 + 3 * t)) (fun t => h 41 (7 + 3 * t)) (fun t => h 41 (8 + 3 * t)) a.toInt.toNat) ⟨show (h 41 (7 + 3 * a.toInt.toNat)).toInt = (h 41 (7 + 3 * l3.toInt.toNat)).toInt by omega, show (h 41 (8 + 3 * a.toInt.toNat)).toInt = (h 41 (8 + 3 * l3.toInt.toNat)).toInt by omega, fun w => hne (by rw [o12.1, o15.1]; exact w.symm)⟩ (by decide)⟩), (Or.inr rfl)⟩ (by have := ti_addK l3 (1 : Int32) 1 rfl; have := ti_div (10 : Int32) 10 rfl (h 41 (6 + 3 * l3.toInt.toNat)) (by decide); have := ti_div (10 : Int32) 10 rfl (h 41 (6 + 3 * a.toInt.toNat)) (by decide); omega)
set_option maxRecDepth 100000 in
set_option maxHeartbeats 4000000 in
theorem ty_179 (X : qm_X) (h : qm_H) (a : Int32) (hp : am h ∧ (0 ≤ a.toInt ∧ a.toInt ≤ 9)) (Q : qm_Q) (hq : ∀ r : Int32, ((r = 0 ∨ r = 1) ∧ ((¬ r = 0 ∧ icA (fun t => (h 41 (6 + 3 * t))) (fun t => (h 41 (7 + 3 * t))) (fun t => (h 41 (8 + 3 * t))) a.toInt.toNat) ∨ (r = 0 ∧ ¬ icA (fun t => (h 41 (6 + 3 * t))) (fun t => (h 41 (7 + 3 * t))) (fun t => (h 41 (8 + 3 * t))) a.toInt.toNat))) → Q (some (.int r)) h) : qm_PW X 179 [.ref 39, .int a] h Q := by
  have hmam : am h := hp.1
  have ⟨⟨_, _⟩, ⟨_, _⟩, _, _, _⟩ := hmam
  have hp0 : 0 ≤ a.toInt ∧ a.toInt ≤ 9 := hp.2
  refine qm_seg_ok (C := qc_179) (rt := some .boolean) rfl rfl (cuts := [(4, [0, 1, 2, 3])]) 400 _ _ _ _ ?_
  show qm_PA X 179 4 [(0, .ref 39), (1, .int a), (2, .int 0), (3, .int 0)] [] h Q
  exact (ty_179_c X h a hp Q hq _) (0 : Int32) (0 : Int32) ⟨(by have : (0 : Int32).toInt = 0 := rfl; show (0 ≤ (0 : Int32).toInt ∧ (0 : Int32).toInt ≤ a.toInt) ∧ orI (0 : Int32) (icF (fun t => h 41 (6 + 3 * t)) (fun t => h 41 (7 + 3 * t)) (fun t => h 41 (8 + 3 * t)) a.toInt.toNat) (0 : Int32).toInt.toNat; exact ⟨by have : (0 : Int32).toInt = 0 := rfl; omega, orI_0 rfl⟩), (Or.inl rfl)⟩ (Nat.lt_succ_self _)
-- ThreadBankModel.thread(II)I
set_option maxRecDepth 100000 in
set_option maxHeartbeats 4000000 in
theorem ty_187 (X : qm_X) (h : qm_H) (a : Int32) (b : Int32) (hp : mi h ∧ sm h ∧ zs h ∧ rw_ h) (Q : qm_Q) (hq : ∀ r : Int32, ∀ h' : qm_H, (mi h' ∧ sm h' ∧ zs h' ∧ rw_ h' ∧ (∀ k, (k < 41 ∨ 41 < k) → h' k = h k) ∧ (r.toInt = qThread a.toInt b.toInt (mR h))) → Q (some (.int r)) h') : qm_PW X 187 [.ref 39, .int a, .int b] h Q := by
  have hmmi : mi h := hp.1
  have ⟨⟨_, _⟩, ⟨_, _⟩, ⟨_, _⟩, ⟨_, _⟩, _, _⟩ := hmmi
  have hmsm : sm h := hp.2.1
  have ⟨⟨⟨_, _⟩, _, _⟩, _, _, _⟩ := hmsm
  have hmzs : zs h := hp.2.2.1
  have hmrw : rw_ h := hp.2.2.2
  refine qm_seg_ok (C := qc_187) (rt := some .int) rfl rfl (cuts := []) 400 _ _ _ _ ?_
  show qm_PW X 167 [.ref 39, .int a] h _
  refine ty_167 X h a hmsm _ (fun r1 p2 => ?_)
  have o3 : (r1 = 0 ∨ r1 = 1) ∧ ((r1.toInt = 1 ∧ 0 ≤ a.toInt ∧ a.toInt < (h 40 4).toInt) ∨ (r1.toInt = 0 ∧ ¬ (0 ≤ a.toInt ∧ a.toInt < (h 40 4).toInt))) := p2
  clear p2
  show (r1 = 0 → (Q (some (.int (-1 : Int32))) h)) ∧ (¬ r1 = 0 → (qm_PW X 141 [.long (Int32.toInt64 b), .long 0, .long 3] h _))
  refine ⟨fun c4 => ?_, fun c5 => ?_⟩
  · have := ti_eqK 0 rfl c4
    exact hq (-1 : Int32) h ⟨hmmi, hmsm, hmzs, hmrw, (fun k hk => rfl), (by show (-1 : Int32).toInt = qThread a.toInt b.toInt (mR h); rw [ti_n1]; have := i64 b; have : (0 : Int64).toInt = 0 := rfl; have : (3 : Int64).toInt = 3 := rfl; exact (thread_no (M := mR h) (show ¬ (0 ≤ a.toInt ∧ a.toInt < (h 40 4).toInt) ∨ (¬ b.toInt = 0 ∧ ¬ b.toInt = 1 ∧ ¬ b.toInt = 2 ∧ ¬ b.toInt = 3) by omega)).symm)⟩
  · have := ti_neK 0 rfl c5
    refine sf_141 X h ((Int32.toInt64 b) : Int64) (0 : Int64) (3 : Int64) trivial _ (fun r6 p7 => ?_)
    have o8 : ¬ r6.toInt = 0 → (0 : Int64).toInt ≤ (Int32.toInt64 b).toInt ∧ (Int32.toInt64 b).toInt ≤ (3 : Int64).toInt := fun hc => p7.2.1 (fun e => hc (ti_eqK 0 rfl e))
    have o9 : r6.toInt = 0 → (Int32.toInt64 b).toInt < (0 : Int64).toInt ∨ (3 : Int64).toInt < (Int32.toInt64 b).toInt := fun hc => p7.2.2 (Int32.toInt_inj.mp hc)
    show (¬ r6 = 0 → (qm_PW X 169 [.ref 39] h _)) ∧ (r6 = 0 → (Q (some (.int (-1 : Int32))) h))
    refine ⟨fun c10 => ?_, fun c11 => ?_⟩
    · have := p7.2.1 c10
      have := ti_neK 0 rfl c10
      refine sf_169_39 X h  hmsm _ (fun g12 p13 => ?_)
      obtain ⟨p13_0, p13_1, p13_2⟩ := p13
      have f14 : ∀ k, (k < 41 ∨ 41 < k) → g12 k = h k := fun k hk => (p13_1 k (by omega)).trans (rfl)
      have k15 : mi g12 := by unfold mi; rw [p13_1 39 (by omega)]; exact hmmi
      have k16 : sm g12 := by unfold sm; rw [p13_1 40 (by omega)]; exact hmsm
      have k17 : zs g12 := by unfold zs; rw [p13_1 49 (by omega)]; exact hmzs
      have k18 : rw_ g12 := by unfold rw_; rw [p13_1 46 (by omega)]; exact hmrw
      have o19 : (∀ j : Nat, j < 49 → g12 41 j = h 40 j) := p13_2
      clear p13_2
      have w39_g12 : g12 39 = h 39 := (p13_1 39 (by omega))
      have w40_g12 : g12 40 = h 40 := (p13_1 40 (by omega))
      have sA_g12 : ∀ j : Nat, j < 49 → g12 41 j = h 40 j := o19
      have s4_g12 : (g12 41 4).toInt = (h 40 4).toInt := congrArg Int32.toInt (sA_g12 4 (by decide))
      show (3 ≤ b.toInt → (qm_PW X 179 [.ref 39, .int a] g12 _)) ∧ (b.toInt < 3 → (qm_PW X 171 [.ref 39, .int a, .int b] g12 _))
      refine ⟨fun c20 => ?_, fun c21 => ?_⟩
      · refine ty_179 X g12 a ⟨p13_0, (by have : (0 : Int64).toInt = 0 := rfl; have : (3 : Int64).toInt = 3 := rfl; have := i64 b; omega)⟩ _ (fun r22 p23 => ?_)
        have o24 : (r22 = 0 ∨ r22 = 1) ∧ ((¬ r22 = 0 ∧ icA (fun t => (g12 41 (6 + 3 * t))) (fun t => (g12 41 (7 + 3 * t))) (fun t => (g12 41 (8 + 3 * t))) a.toInt.toNat) ∨ (r22 = 0 ∧ ¬ icA (fun t => (g12 41 (6 + 3 * t))) (fun t => (g12 41 (7 + 3 * t))) (fun t => (g12 41 (8 + 3 * t))) a.toInt.toNat)) := p23
        clear p23
        show qm_PW X 142 [.int r22] g12 _
        refine tx_142 X g12 r22 trivial _ (fun r25 p26 => ?_)
        have o27 : (r22.toInt = 0 ∧ r25.toInt = 0) ∨ (¬ r22.toInt = 0 ∧ r25.toInt = 1) := p26
        clear p26
        show Q (some (.int r25)) g12
        exact hq r25 g12 ⟨k15, k16, k17, k18, (fun k hk => f14 k hk), (by have : (0 : Int64).toInt = 0 := rfl; have : (3 : Int64).toInt = 3 := rfl; have := i64 b; show r25.toInt = qThread a.toInt b.toInt (mR h); have := i64 b; have : (0 : Int64).toInt = 0 := rfl; have : (3 : Int64).toInt = 3 := rfl; exact (show qThread a.toInt b.toInt (mR h) = _ from thread_3 (by omega) (by omega) (thread_c sA_g12 (by omega) (by omega) o24.2 o27)).symm)⟩
      · refine ty_171 X g12 a b ⟨p13_0, (by have : (0 : Int64).toInt = 0 := rfl; have : (3 : Int64).toInt = 3 := rfl; have := i64 b; omega)⟩ _ (fun r28 p29 => ?_)
        have o30 : ((b.toInt = 0 → (r28.toInt = (g12 41 (6 + 3 * a.toInt.toNat)).toInt ∧ 0 ≤ r28.toInt ∧ r28.toInt ≤ 39)) ∧ (b.toInt = 1 → (r28.toInt = (g12 41 (7 + 3 * a.toInt.toNat)).toInt ∧ 0 ≤ r28.toInt ∧ r28.toInt / 10 ≤ 3 ∧ r28.toInt % 10 ≤ 3)) ∧ (b.toInt = 2 → (r28.toInt = (g12 41 (8 + 3 * a.toInt.toNat)).toInt ∧ 0 ≤ r28.toInt ∧ r28.toInt ≤ 99))) := p29
        clear p29
        show Q (some (.int r28)) g12
        exact hq r28 g12 ⟨k15, k16, k17, k18, (fun k hk => f14 k hk), (by have : (0 : Int64).toInt = 0 := rfl; have : (3 : Int64).toInt = 3 := rfl; have := i64 b; show r28.toInt = qThread a.toInt b.toInt (mR h); have := i64 b; have : (0 : Int64).toInt = 0 := rfl; have : (3 : Int64).toInt = 3 := rfl; exact (thread_of sA_g12 (by omega) (by omega) (by omega) o30).symm)⟩
    · have := p7.2.2 c11
      have := ti_eqK 0 rfl c11
      exact hq (-1 : Int32) h ⟨hmmi, hmsm, hmzs, hmrw, (fun k hk => rfl), (by have : (0 : Int64).toInt = 0 := rfl; have : (3 : Int64).toInt = 3 := rfl; have := i64 b; show (-1 : Int32).toInt = qThread a.toInt b.toInt (mR h); rw [ti_n1]; have := i64 b; have : (0 : Int64).toInt = 0 := rfl; have : (3 : Int64).toInt = 3 := rfl; exact (thread_no (M := mR h) (show ¬ (0 ≤ a.toInt ∧ a.toInt < (h 40 4).toInt) ∨ (¬ b.toInt = 0 ∧ ¬ b.toInt = 1 ∧ ¬ b.toInt = 2 ∧ ¬ b.toInt = 3) by omega)).symm)⟩
