-- ThreadBankModel.isSo(I)Z
set_option maxRecDepth 100000 in
set_option maxHeartbeats 4000000 in
theorem ty_227_c (X : qm_X) (h : qm_H) (a : Int32) (hp : mi h ∧ sm h ∧ zs h ∧ rw_ h) (Q : qm_Q) (hq : ∀ r : Int32, ∀ h' : qm_H, (mi h' ∧ sm h' ∧ zs h' ∧ rw_ h' ∧ (∀ k, (k < 41 ∨ 45 < k ∨ k = 42 ∨ k = 43 ∨ k = 44) → h' k = h k) ∧ ((r = 0 ∨ r = 1) ∧ ((¬ r = 0 ∧ (seA (fun t => (h 40 (6 + 3 * t))) (fun t => (h 40 (7 + 3 * t))) (fun t => (h 40 (8 + 3 * t))) (fun i => (h 40 (37 + 2 * i))) (fun i => (h 40 (38 + 2 * i))) (h 40 4).toInt.toNat (h 40 36).toInt.toNat) a) ∨ (r = 0 ∧ ¬ (seA (fun t => (h 40 (6 + 3 * t))) (fun t => (h 40 (7 + 3 * t))) (fun t => (h 40 (8 + 3 * t))) (fun i => (h 40 (37 + 2 * i))) (fun i => (h 40 (38 + 2 * i))) (h 40 4).toInt.toNat (h 40 36).toInt.toNat) a)))) → Q (some (.int r)) h') : ∀ n : Nat, (∀ (l2 : Int32) (l3 : Int32) (g : qm_H), (((0 ≤ l3.toInt ∧ l3.toInt ≤ (h 40 36).toInt) ∧ acI l2 True (seQ (fun t => h 40 (6 + 3 * t)) (fun t => h 40 (7 + 3 * t)) (fun t => h 40 (8 + 3 * t)) (fun i => h 40 (37 + 2 * i)) (fun i => h 40 (38 + 2 * i)) (h 40 4).toInt.toNat a) l3.toInt.toNat ∧ owJ (fun t => h 40 (6 + 3 * t)) (fun t => h 40 (7 + 3 * t)) (fun t => h 40 (8 + 3 * t)) a (h 40 4).toInt.toNat (g 45)) ∧ (l2 = 0 ∨ l2 = 1) ∧ mi g ∧ sm g ∧ zs g ∧ rw_ g ∧ ∀ k, (k < 41 ∨ 45 < k ∨ k = 42 ∨ k = 43 ∨ k = 44) → g k = h k) → (6 - l3.toInt).toNat < n → qm_PA X 227 19 [(0, .ref 39), (1, .int a), (2, .int l2), (3, .int l3)] [] g Q) := by
  have hmmi : mi h := hp.1
  have ⟨⟨_, _⟩, ⟨_, _⟩, ⟨_, _⟩, ⟨_, _⟩, _, _⟩ := hmmi
  have hmsm : sm h := hp.2.1
  have ⟨⟨⟨_, _⟩, _, _⟩, _, _, _⟩ := hmsm
  have hmzs : zs h := hp.2.2.1
  have hmrw : rw_ h := hp.2.2.2
  intro n
  induction n with
  | zero => exact fun _ _ _ _ h0 => absurd h0 (Nat.not_lt_zero _)
  | succ n ih =>
    intro l2 l3 g hi hr
    obtain ⟨hi0, hb2, hgmi, hgsm, hgzs, hgrw, hgf⟩ := hi
    have ⟨⟨_, _⟩, ⟨_, _⟩, ⟨_, _⟩, ⟨_, _⟩, _, _⟩ := hgmi
    have ⟨⟨⟨_, _⟩, _, _⟩, _, _, _⟩ := hgsm
    have ti_l3 := ti_rng l3
    have hsw := sm_saw hgsm l3
    have w40_g : g 40 = h 40 := hgf 40 (by omega)
    have e36_g : (g 40 36).toInt = (h 40 36).toInt := by rw [w40_g]
    refine qm_seg_ok (C := qc_227) (rt := some .boolean) rfl rfl (cuts := [(19, [0, 1, 2, 3])]) 400 _ _ _ _ ?_
    show (0 ≤ (36 : Int) ∧ (36 : Int) < 147) ∧ (((g 40 36).toInt ≤ l3.toInt → ((l2 = 0 ∨ l2 = 1) ∧ Q (some (.int l2)) g)) ∧ (l3.toInt < (g 40 36).toInt → ((l2 = 0 → (qm_PA X 227 19 [(0, .ref 39), (1, .int a), (2, .int 0), (3, .int (l3 + 1))] [] g Q)) ∧ (¬ l2 = 0 → ((0 ≤ (37 + (2 * l3)).toInt ∧ (37 + (2 * l3)).toInt < 147) ∧ (qm_PW X 181 [.ref 39, .int (g 40 (37 + (2 * l3)).toInt.toNat)] g _))))))
    refine ⟨by decide, ?_⟩
    refine ⟨fun c1 => ?_, fun c2 => ?_⟩
    · exact ⟨hb2, hq l2 g ⟨hgmi, hgsm, hgzs, hgrw, (fun k hk => hgf k hk), (by have := hmsm.1; have := hgsm.1; show (l2 = 0 ∨ l2 = 1) ∧ ((¬ l2 = 0 ∧ (seA (fun t => (h 40 (6 + 3 * t))) (fun t => (h 40 (7 + 3 * t))) (fun t => (h 40 (8 + 3 * t))) (fun i => (h 40 (37 + 2 * i))) (fun i => (h 40 (38 + 2 * i))) (h 40 4).toInt.toNat (h 40 36).toInt.toNat) a) ∨ (l2 = 0 ∧ ¬ (seA (fun t => (h 40 (6 + 3 * t))) (fun t => (h 40 (7 + 3 * t))) (fun t => (h 40 (8 + 3 * t))) (fun i => (h 40 (37 + 2 * i))) (fun i => (h 40 (38 + 2 * i))) (h 40 4).toInt.toNat (h 40 36).toInt.toNat) a)); have hz := hi0.2.1; rw [show l3.toInt.toNat = (h 40 36).toInt.toNat by omega] at hz; exact ⟨hb2, hz.elim (fun q => Or.inl ⟨q.1, q.2.2⟩) (fun q => Or.inr ⟨q.1, fun w => q.2 ⟨trivial, w⟩⟩)⟩)⟩⟩
    · refine ⟨fun c3 => ?_, fun c4 => ?_⟩
      · exact ih (0 : Int32) (l3 + 1) g ⟨(by have := ti_addK l3 (1 : Int32) 1 rfl; have := hmsm.1; have := hgsm.1; show (0 ≤ (l3 + 1).toInt ∧ (l3 + 1).toInt ≤ (h 40 36).toInt) ∧ acI (0 : Int32) True (seQ (fun t => h 40 (6 + 3 * t)) (fun t => h 40 (7 + 3 * t)) (fun t => h 40 (8 + 3 * t)) (fun i => h 40 (37 + 2 * i)) (fun i => h 40 (38 + 2 * i)) (h 40 4).toInt.toNat a) (l3 + 1).toInt.toNat ∧ owJ (fun t => h 40 (6 + 3 * t)) (fun t => h 40 (7 + 3 * t)) (fun t => h 40 (8 + 3 * t)) a (h 40 4).toInt.toNat (g 45); have e9 : (l3 + 1).toInt.toNat = l3.toInt.toNat + 1 := (by omega); exact ⟨by omega, by rw [e9]; exact acI_k hi0.2.1 (by assumption), hi0.2.2⟩), (Or.inl rfl), hgmi, hgsm, hgzs, hgrw, (fun k hk => hgf k hk)⟩ (by have := ti_addK l3 (1 : Int32) 1 rfl; have := hmsm.1; have := hgsm.1; show (6 - (l3 + 1).toInt).toNat < n; omega)
      · refine ⟨(by have := ti_mulL (2 : Int32) 2 rfl l3; have := ti_addL (2 * l3) (37 : Int32) 37 rfl; have := hmsm.1; have := hgsm.1; omega), ?_⟩
        refine ty_181 X g (g 40 (37 + (2 * l3)).toInt.toNat) (by have := ti_mulL (2 : Int32) 2 rfl l3; have := ti_addL (2 * l3) (37 : Int32) 37 rfl; have := hmsm.1; have := hgsm.1; omega) _ (fun r5 p6 => ?_)
        have o7 : r5.toInt = (g 45 (4 * ((g 40 (37 + (2 * l3)).toInt.toNat).toInt / 10).toNat + ((g 40 (37 + (2 * l3)).toInt.toNat).toInt % 10).toNat)).toInt := p6
        clear p6
        show (0 ≤ ((37 + (2 * l3)) + 1).toInt ∧ ((37 + (2 * l3)) + 1).toInt < 147) ∧ ((¬ r5 = (g 40 ((37 + (2 * l3)) + 1).toInt.toNat) → (qm_PA X 227 19 [(0, .ref 39), (1, .int a), (2, .int 0), (3, .int (l3 + 1))] [] g Q)) ∧ (r5 = (g 40 ((37 + (2 * l3)) + 1).toInt.toNat) → (qm_PA X 227 19 [(0, .ref 39), (1, .int a), (2, .int 1), (3, .int (l3 + 1))] [] g Q)))
        refine ⟨(by have := ti_mulL (2 : Int32) 2 rfl l3; have := ti_addL (2 * l3) (37 : Int32) 37 rfl; have := ti_addK (37 + (2 * l3)) (1 : Int32) 1 rfl; have := hmsm.1; have := hgsm.1; omega), ?_⟩
        refine ⟨fun c8 => ?_, fun c9 => ?_⟩
        · exact ih (0 : Int32) (l3 + 1) g ⟨(by have := ti_addK l3 (1 : Int32) 1 rfl; have := ti_mulL (2 : Int32) 2 rfl l3; have := ti_addL (2 * l3) (37 : Int32) 37 rfl; have := ti_addK (37 + (2 * l3)) (1 : Int32) 1 rfl; have := hmsm.1; have := hgsm.1; show (0 ≤ (l3 + 1).toInt ∧ (l3 + 1).toInt ≤ (h 40 36).toInt) ∧ acI (0 : Int32) True (seQ (fun t => h 40 (6 + 3 * t)) (fun t => h 40 (7 + 3 * t)) (fun t => h 40 (8 + 3 * t)) (fun i => h 40 (37 + 2 * i)) (fun i => h 40 (38 + 2 * i)) (h 40 4).toInt.toNat a) (l3 + 1).toInt.toNat ∧ owJ (fun t => h 40 (6 + 3 * t)) (fun t => h 40 (7 + 3 * t)) (fun t => h 40 (8 + 3 * t)) a (h 40 4).toInt.toNat (g 45); have e9 : (l3 + 1).toInt.toNat = l3.toInt.toNat + 1 := (by omega); have q1 := ti_mulL (2 : Int32) 2 rfl l3 (by omega); have q2 := ti_addL (2 * l3) (37 : Int32) 37 rfl (by omega); have q3 := ti_addK (37 + (2 * l3)) (1 : Int32) 1 rfl (by omega); have x1 : (37 + (2 * l3)).toInt.toNat = 37 + 2 * l3.toInt.toNat := (by omega); have x2 : ((37 + (2 * l3)) + 1).toInt.toNat = 38 + 2 * l3.toInt.toNat := (by omega); have hpr9 := hsw (by omega) (by omega); rw [x1, w40_g] at hpr9 o7; have hj9 := (o7).trans (owJ_at hi0.2.2 hpr9); exact ⟨by omega, by rw [e9]; exact acI_n (fun w => by have w : owW (fun t => h 40 (6 + 3 * t)) (fun t => h 40 (7 + 3 * t)) (fun t => h 40 (8 + 3 * t)) a (h 40 (37 + 2 * l3.toInt.toNat)).toInt (h 40 4).toInt.toNat = (h 40 (38 + 2 * l3.toInt.toNat)).toInt := w; exact absurd (Int32.toInt_inj.mp (show r5.toInt = (g 40 ((37 + (2 * l3)) + 1).toInt.toNat).toInt by rw [x2, w40_g]; exact hj9.trans w)) (by assumption)), hi0.2.2⟩), (Or.inl rfl), hgmi, hgsm, hgzs, hgrw, (fun k hk => hgf k hk)⟩ (by have := ti_addK l3 (1 : Int32) 1 rfl; have := ti_mulL (2 : Int32) 2 rfl l3; have := ti_addL (2 * l3) (37 : Int32) 37 rfl; have := ti_addK (37 + (2 * l3)) (1 : Int32) 1 rfl; have := hmsm.1; have := hgsm.1; show (6 - (l3 + 1).toInt).toNat < n; omega)
        · exact ih (1 : Int32) (l3 + 1) g ⟨(by have := ti_addK l3 (1 : Int32) 1 rfl; have := ti_mulL (2 : Int32) 2 rfl l3; have := ti_addL (2 * l3) (37 : Int32) 37 rfl; have := ti_addK (37 + (2 * l3)) (1 : Int32) 1 rfl; have := hmsm.1; have := hgsm.1; show (0 ≤ (l3 + 1).toInt ∧ (l3 + 1).toInt ≤ (h 40 36).toInt) ∧ acI (1 : Int32) True (seQ (fun t => h 40 (6 + 3 * t)) (fun t => h 40 (7 + 3 * t)) (fun t => h 40 (8 + 3 * t)) (fun i => h 40 (37 + 2 * i)) (fun i => h 40 (38 + 2 * i)) (h 40 4).toInt.toNat a) (l3 + 1).toInt.toNat ∧ owJ (fun t => h 40 (6 + 3 * t)) (fun t => h 40 (7 + 3 * t)) (fun t => h 40 (8 + 3 * t)) a (h 40 4).toInt.toNat (g 45); have e9 : (l3 + 1).toInt.toNat = l3.toInt.toNat + 1 := (by omega); have q1 := ti_mulL (2 : Int32) 2 rfl l3 (by omega); have q2 := ti_addL (2 * l3) (37 : Int32) 37 rfl (by omega); have q3 := ti_addK (37 + (2 * l3)) (1 : Int32) 1 rfl (by omega); have x1 : (37 + (2 * l3)).toInt.toNat = 37 + 2 * l3.toInt.toNat := (by omega); have x2 : ((37 + (2 * l3)) + 1).toInt.toNat = 38 + 2 * l3.toInt.toNat := (by omega); have hpr9 := hsw (by omega) (by omega); rw [x1, w40_g] at hpr9 o7; have hj9 := (o7).trans (owJ_at hi0.2.2 hpr9); have heq := congrArg Int32.toInt (show r5 = (g 40 ((37 + (2 * l3)) + 1).toInt.toNat) from by assumption); rw [x2, w40_g] at heq; exact ⟨by omega, by rw [e9]; exact acI_y hi0.2.1 (by assumption) (show owW (fun t => h 40 (6 + 3 * t)) (fun t => h 40 (7 + 3 * t)) (fun t => h 40 (8 + 3 * t)) a (h 40 (37 + 2 * l3.toInt.toNat)).toInt (h 40 4).toInt.toNat = (h 40 (38 + 2 * l3.toInt.toNat)).toInt from hj9.symm.trans heq), hi0.2.2⟩), (Or.inr rfl), hgmi, hgsm, hgzs, hgrw, (fun k hk => hgf k hk)⟩ (by have := ti_addK l3 (1 : Int32) 1 rfl; have := ti_mulL (2 : Int32) 2 rfl l3; have := ti_addL (2 * l3) (37 : Int32) 37 rfl; have := ti_addK (37 + (2 * l3)) (1 : Int32) 1 rfl; have := hmsm.1; have := hgsm.1; show (6 - (l3 + 1).toInt).toNat < n; omega)
set_option maxRecDepth 100000 in
set_option maxHeartbeats 4000000 in
theorem ty_227 (X : qm_X) (h : qm_H) (a : Int32) (hp : mi h ∧ sm h ∧ zs h ∧ rw_ h) (Q : qm_Q) (hq : ∀ r : Int32, ∀ h' : qm_H, (mi h' ∧ sm h' ∧ zs h' ∧ rw_ h' ∧ (∀ k, (k < 41 ∨ 45 < k ∨ k = 42 ∨ k = 43 ∨ k = 44) → h' k = h k) ∧ ((r = 0 ∨ r = 1) ∧ ((¬ r = 0 ∧ (seA (fun t => (h 40 (6 + 3 * t))) (fun t => (h 40 (7 + 3 * t))) (fun t => (h 40 (8 + 3 * t))) (fun i => (h 40 (37 + 2 * i))) (fun i => (h 40 (38 + 2 * i))) (h 40 4).toInt.toNat (h 40 36).toInt.toNat) a) ∨ (r = 0 ∧ ¬ (seA (fun t => (h 40 (6 + 3 * t))) (fun t => (h 40 (7 + 3 * t))) (fun t => (h 40 (8 + 3 * t))) (fun i => (h 40 (37 + 2 * i))) (fun i => (h 40 (38 + 2 * i))) (h 40 4).toInt.toNat (h 40 36).toInt.toNat) a)))) → Q (some (.int r)) h') : qm_PW X 227 [.ref 39, .int a] h Q := by
  have hmmi : mi h := hp.1
  have ⟨⟨_, _⟩, ⟨_, _⟩, ⟨_, _⟩, ⟨_, _⟩, _, _⟩ := hmmi
  have hmsm : sm h := hp.2.1
  have ⟨⟨⟨_, _⟩, _, _⟩, _, _, _⟩ := hmsm
  have hmzs : zs h := hp.2.2.1
  have hmrw : rw_ h := hp.2.2.2
  refine qm_seg_ok (C := qc_227) (rt := some .boolean) rfl rfl (cuts := [(19, [0, 1, 2, 3])]) 400 _ _ _ _ ?_
  show qm_PW X 169 [.ref 39] h _
  refine sf_169_39 X h  hmsm _ (fun g1 p2 => ?_)
  obtain ⟨p2_0, p2_1, p2_2⟩ := p2
  have f3 : ∀ k, (k < 41 ∨ 45 < k ∨ k = 42 ∨ k = 43 ∨ k = 44) → g1 k = h k := fun k hk => (p2_1 k (by omega)).trans (rfl)
  have k4 : mi g1 := by unfold mi; rw [p2_1 39 (by omega)]; exact hmmi
  have k5 : sm g1 := by unfold sm; rw [p2_1 40 (by omega)]; exact hmsm
  have k6 : zs g1 := by unfold zs; rw [p2_1 49 (by omega)]; exact hmzs
  have k7 : rw_ g1 := by unfold rw_; rw [p2_1 46 (by omega)]; exact hmrw
  have o8 : (∀ j : Nat, j < 49 → g1 41 j = h 40 j) := p2_2
  clear p2_2
  have w39_g1 : g1 39 = h 39 := (p2_1 39 (by omega))
  have w40_g1 : g1 40 = h 40 := (p2_1 40 (by omega))
  have sA_g1 : ∀ j : Nat, j < 49 → g1 41 j = h 40 j := o8
  have s4_g1 : (g1 41 4).toInt = (h 40 4).toInt := congrArg Int32.toInt (sA_g1 4 (by decide))
  show qm_PW X 177 [.ref 39, .int a] g1 _
  refine ty_177 X g1 a p2_0 _ (fun g9 p10 => ?_)
  obtain ⟨p10_0, p10_1, p10_2⟩ := p10
  have f11 : ∀ k, (k < 41 ∨ 45 < k ∨ k = 42 ∨ k = 43 ∨ k = 44) → g9 k = h k := fun k hk => (p10_1 k (by omega)).trans (f3 k hk)
  have k12 : mi g9 := by unfold mi; rw [p10_1 39 (by omega)]; exact k4
  have k13 : sm g9 := by unfold sm; rw [p10_1 40 (by omega)]; exact k5
  have k14 : zs g9 := by unfold zs; rw [p10_1 49 (by omega)]; exact k6
  have k15 : rw_ g9 := by unfold rw_; rw [p10_1 46 (by omega)]; exact k7
  have o16 : cuR (bP a) (g1 41) (g9 41) := p10_2
  clear p10_2
  have w39_g9 : g9 39 = h 39 := (p10_1 39 (by omega)).trans w39_g1
  have w40_g9 : g9 40 = h 40 := (p10_1 40 (by omega)).trans w40_g1
  show qm_PW X 180 [.ref 39, .int 9] g9 _
  refine ty_180 X g9 (9 : Int32) p10_0 _ (fun g17 p18 => ?_)
  obtain ⟨p18_0, p18_1⟩ := p18
  have f19 : ∀ k, (k < 41 ∨ 45 < k ∨ k = 42 ∨ k = 43 ∨ k = 44) → g17 k = h k := fun k hk => (p18_0 k (by omega)).trans (f11 k hk)
  have k20 : mi g17 := by unfold mi; rw [p18_0 39 (by omega)]; exact k12
  have k21 : sm g17 := by unfold sm; rw [p18_0 40 (by omega)]; exact k13
  have k22 : zs g17 := by unfold zs; rw [p18_0 49 (by omega)]; exact k14
  have k23 : rw_ g17 := by unfold rw_; rw [p18_0 46 (by omega)]; exact k15
  have k24 : am g17 := by unfold am; rw [p18_0 41 (by omega)]; exact p10_0
  have o25 : owI (fun t => (g9 41 (6 + 3 * t))) (fun t => (g9 41 (7 + 3 * t))) (fun t => (g9 41 (8 + 3 * t))) (9 : Int32).toInt (g9 41 4).toInt.toNat (g17 45) := p18_1
  clear p18_1
  have w39_g17 : g17 39 = h 39 := (p18_0 39 (by omega)).trans w39_g9
  have w40_g17 : g17 40 = h 40 := (p18_0 40 (by omega)).trans w40_g9
  have oj_g17 : owJ (fun t => h 40 (6 + 3 * t)) (fun t => h 40 (7 + 3 * t)) (fun t => h 40 (8 + 3 * t)) a (h 40 4).toInt.toNat (g17 45) := iso_R sA_g1 o16 (by omega) (by have z := o25; rw [show (9 : Int32).toInt = 9 from rfl] at z; exact z)
  show qm_PA X 227 19 [(0, .ref 39), (1, .int a), (2, .int 1), (3, .int 0)] [] g17 Q
  exact (ty_227_c X h a hp Q hq _) (1 : Int32) (0 : Int32) g17 ⟨(by have : (9 : Int32).toInt = 9 := rfl; have : (0 : Int32).toInt = 0 := rfl; have := hmsm.1; show (0 ≤ (0 : Int32).toInt ∧ (0 : Int32).toInt ≤ (h 40 36).toInt) ∧ acI (1 : Int32) True (seQ (fun t => h 40 (6 + 3 * t)) (fun t => h 40 (7 + 3 * t)) (fun t => h 40 (8 + 3 * t)) (fun i => h 40 (37 + 2 * i)) (fun i => h 40 (38 + 2 * i)) (h 40 4).toInt.toNat a) (0 : Int32).toInt.toNat ∧ owJ (fun t => h 40 (6 + 3 * t)) (fun t => h 40 (7 + 3 * t)) (fun t => h 40 (8 + 3 * t)) a (h 40 4).toInt.toNat (g17 45); exact ⟨by have : (0 : Int32).toInt = 0 := rfl; omega, acI_1 rfl trivial, oj_g17⟩), (Or.inr rfl), k20, k21, k22, k23, (fun k hk => f19 k hk)⟩ (Nat.lt_succ_self _)
-- ThreadBankModel.fits(I)I
set_option maxRecDepth 100000 in
set_option maxHeartbeats 4000000 in
theorem ty_228_c (X : qm_X) (h : qm_H) (a : Int32) (hp : mi h ∧ sm h ∧ zs h ∧ rw_ h) (Q : qm_Q) (hq : ∀ r : Int32, ∀ h' : qm_H, (mi h' ∧ sm h' ∧ zs h' ∧ rw_ h' ∧ (∀ k, (k < 41 ∨ 45 < k ∨ k = 42 ∨ k = 43 ∨ k = 44) → h' k = h k) ∧ (r.toInt = qFits a.toInt (mR h))) → Q (some (.int r)) h') : ∀ n : Nat, (∀ (l2 : Int32) (l3 : Int32) (l4 : Int32) (l5 : Int32) (l6 : Int32) (l7 : Int32) (l8 : Int32) (g : qm_H), (((0 ≤ l8.toInt ∧ l8.toInt ≤ l2.toInt + 1 ∧ 0 ≤ l2.toInt ∧ l2.toInt ≤ 1023) ∧ (0 ≤ a.toInt ∧ a.toInt ≤ 4) ∧ l2 = drB0 (h 40 4) ∧ fyI (seA (fun t => h 40 (6 + 3 * t)) (fun t => h 40 (7 + 3 * t)) (fun t => h 40 (8 + 3 * t)) (fun i => h 40 (37 + 2 * i)) (fun i => h 40 (38 + 2 * i)) (h 40 4).toInt.toNat (h 40 36).toInt.toNat) (drB0 (h 40 4)) (-4) 1000000 l8.toInt.toNat l3.toInt l4.toInt l5 l6 l7.toInt) ∧ mi g ∧ sm g ∧ zs g ∧ rw_ g ∧ ∀ k, (k < 41 ∨ 45 < k ∨ k = 42 ∨ k = 43 ∨ k = 44) → g k = h k) → (1024 - l8.toInt).toNat < n → qm_PA X 228 44 [(0, .ref 39), (1, .int a), (2, .int l2), (3, .int l3), (4, .int l4), (5, .int l5), (6, .int l6), (7, .int l7), (8, .int l8)] [] g Q) := by
  have hmmi : mi h := hp.1
  have ⟨⟨_, _⟩, ⟨_, _⟩, ⟨_, _⟩, ⟨_, _⟩, _, _⟩ := hmmi
  have hmsm : sm h := hp.2.1
  have ⟨⟨⟨_, _⟩, _, _⟩, _, _, _⟩ := hmsm
  have hmzs : zs h := hp.2.2.1
  have hmrw : rw_ h := hp.2.2.2
  intro n
  induction n with
  | zero => exact fun _ _ _ _ _ _ _ _ _ h0 => absurd h0 (Nat.not_lt_zero _)
  | succ n ih =>
    intro l2 l3 l4 l5 l6 l7 l8 g hi hr
    obtain ⟨hi0, hgmi, hgsm, hgzs, hgrw, hgf⟩ := hi
    have ⟨⟨_, _⟩, ⟨_, _⟩, ⟨_, _⟩, ⟨_, _⟩, _, _⟩ := hgmi
    have ⟨⟨⟨_, _⟩, _, _⟩, _, _, _⟩ := hgsm
    have ti_l8 := ti_rng l8
    have w39_g : g 39 = h 39 := hgf 39 (by omega)
    have w40_g : g 40 = h 40 := hgf 40 (by omega)
    have hfr := fn_rng (P := (seA (fun t => h 40 (6 + 3 * t)) (fun t => h 40 (7 + 3 * t)) (fun t => h 40 (8 + 3 * t)) (fun i => h 40 (37 + 2 * i)) (fun i => h 40 (38 + 2 * i)) (h 40 4).toInt.toNat (h 40 36).toInt.toNat)) (k := l8.toInt.toNat)
    have hf1 := hi0.2.2.2.1
    refine qm_seg_ok (C := qc_228) (rt := some .int) rfl rfl (cuts := [(44, [0, 1, 2, 3, 4, 5, 6, 7, 8])]) 400 _ _ _ _ ?_
    show (l2.toInt < l8.toInt → ((a = 0 → ((¬ a = 0 → (Q (some (.int (-4 : Int32))) g)) ∧ (a = 0 → (Q (some (.int l3)) g)))) ∧ (¬ a = 0 → ((¬ l3 = 0 → ((¬ a = 1 → ((¬ a = 2 → ((¬ a = 3 → (Q (some (.int l7)) g)) ∧ (a = 3 → (Q (some (.int (l2 &&& (l6 ^^^ (-1 : Int32))))) g)))) ∧ (a = 2 → (Q (some (.int l5)) g)))) ∧ (a = 1 → (Q (some (.int l4)) g)))) ∧ (l3 = 0 → ((¬ a = 0 → (Q (some (.int (-4 : Int32))) g)) ∧ (a = 0 → (Q (some (.int l3)) g)))))))) ∧ (l8.toInt ≤ l2.toInt → (qm_PW X 227 [.ref 39, .int l8] g _))
    refine ⟨fun c1 => ?_, fun c2 => ?_⟩
    · refine ⟨fun c3 => ?_, fun c4 => ?_⟩
      · have := ti_eqK 0 rfl c3
        refine ⟨fun c5 => ?_, fun c6 => ?_⟩
        · have := ti_neK 0 rfl c5
          exact hq (-4 : Int32) g ⟨hgmi, hgsm, hgzs, hgrw, (fun k hk => hgf k hk), (by have := hmsm.1; show (-4 : Int32).toInt = qFits a.toInt (mR h); rw [ti_n4]; have hk9 : l8.toInt.toNat = (drB0 (h 40 4)).toInt.toNat + 1 := (by rw [← hi0.2.2.1]; omega); exact (ft_4 hi0.2.2.2 (by omega) (by omega)).trans (show qFits a.toInt (mR h) = _ from fits_ok (by omega) hk9).symm)⟩
        · have := ti_eqK 0 rfl c6
          exact hq l3 g ⟨hgmi, hgsm, hgzs, hgrw, (fun k hk => hgf k hk), (by have := hmsm.1; show l3.toInt = qFits a.toInt (mR h); have hk9 : l8.toInt.toNat = (drB0 (h 40 4)).toInt.toNat + 1 := (by rw [← hi0.2.2.1]; omega); exact (ft_0 hi0.2.2.2 (by omega)).trans (show qFits a.toInt (mR h) = _ from fits_ok (by omega) hk9).symm)⟩
      · have := ti_neK 0 rfl c4
        refine ⟨fun c7 => ?_, fun c8 => ?_⟩
        · have := ti_neK 0 rfl c7
          refine ⟨fun c9 => ?_, fun c10 => ?_⟩
          · have := ti_neK 1 rfl c9
            refine ⟨fun c11 => ?_, fun c12 => ?_⟩
            · have := ti_neK 2 rfl c11
              refine ⟨fun c13 => ?_, fun c14 => ?_⟩
              · have := ti_neK 3 rfl c13
                exact hq l7 g ⟨hgmi, hgsm, hgzs, hgrw, (fun k hk => hgf k hk), (by have := hmsm.1; show l7.toInt = qFits a.toInt (mR h); have hk9 : l8.toInt.toNat = (drB0 (h 40 4)).toInt.toNat + 1 := (by rw [← hi0.2.2.1]; omega); exact (ft_w hi0.2.2.2 (Or.inr rfl) (Or.inr rfl) (by omega) (by omega) (by omega) (Or.inr (Or.inr (Or.inr ⟨by omega, rfl⟩)))).trans (show qFits a.toInt (mR h) = _ from fits_ok (by omega) hk9).symm)⟩
              · have := ti_eqK 3 rfl c14
                exact hq (l2 &&& (l6 ^^^ (-1 : Int32))) g ⟨hgmi, hgsm, hgzs, hgrw, (fun k hk => hgf k hk), (by have := hmsm.1; show (l2 &&& (l6 ^^^ (-1 : Int32))).toInt = qFits a.toInt (mR h); have hk9 : l8.toInt.toNat = (drB0 (h 40 4)).toInt.toNat + 1 := (by rw [← hi0.2.2.1]; omega); exact (ft_w hi0.2.2.2 (Or.inr rfl) (Or.inr rfl) (by omega) (by omega) (by omega) (Or.inr (Or.inr (Or.inl ⟨by omega, by rw [hi0.2.2.1]⟩)))).trans (show qFits a.toInt (mR h) = _ from fits_ok (by omega) hk9).symm)⟩
            · have := ti_eqK 2 rfl c12
              exact hq l5 g ⟨hgmi, hgsm, hgzs, hgrw, (fun k hk => hgf k hk), (by have := hmsm.1; show l5.toInt = qFits a.toInt (mR h); have hk9 : l8.toInt.toNat = (drB0 (h 40 4)).toInt.toNat + 1 := (by rw [← hi0.2.2.1]; omega); exact (ft_w hi0.2.2.2 (Or.inr rfl) (Or.inr rfl) (by omega) (by omega) (by omega) (Or.inr (Or.inl ⟨by omega, rfl⟩))).trans (show qFits a.toInt (mR h) = _ from fits_ok (by omega) hk9).symm)⟩
          · have := ti_eqK 1 rfl c10
            exact hq l4 g ⟨hgmi, hgsm, hgzs, hgrw, (fun k hk => hgf k hk), (by have := hmsm.1; show l4.toInt = qFits a.toInt (mR h); have hk9 : l8.toInt.toNat = (drB0 (h 40 4)).toInt.toNat + 1 := (by rw [← hi0.2.2.1]; omega); exact (ft_w hi0.2.2.2 (Or.inr rfl) (Or.inr rfl) (by omega) (by omega) (by omega) (Or.inl ⟨by omega, rfl⟩)).trans (show qFits a.toInt (mR h) = _ from fits_ok (by omega) hk9).symm)⟩
        · have := ti_eqK 0 rfl c8
          refine ⟨fun c15 => ?_, fun c16 => ?_⟩
          · have := ti_neK 0 rfl c15
            exact hq (-4 : Int32) g ⟨hgmi, hgsm, hgzs, hgrw, (fun k hk => hgf k hk), (by have := hmsm.1; show (-4 : Int32).toInt = qFits a.toInt (mR h); rw [ti_n4]; have hk9 : l8.toInt.toNat = (drB0 (h 40 4)).toInt.toNat + 1 := (by rw [← hi0.2.2.1]; omega); exact (ft_4 hi0.2.2.2 (by omega) (by omega)).trans (show qFits a.toInt (mR h) = _ from fits_ok (by omega) hk9).symm)⟩
          · have := ti_eqK 0 rfl c16
            exact hq l3 g ⟨hgmi, hgsm, hgzs, hgrw, (fun k hk => hgf k hk), (by have := hmsm.1; show l3.toInt = qFits a.toInt (mR h); have hk9 : l8.toInt.toNat = (drB0 (h 40 4)).toInt.toNat + 1 := (by rw [← hi0.2.2.1]; omega); exact (ft_0 hi0.2.2.2 (by omega)).trans (show qFits a.toInt (mR h) = _ from fits_ok (by omega) hk9).symm)⟩
    · refine ty_227 X g l8 ⟨hgmi, hgsm, hgzs, hgrw⟩ _ (fun r17 g18 p19 => ?_)
      obtain ⟨p19_0, p19_1, p19_2, p19_3, p19_4, p19_5⟩ := p19
      have f20 : ∀ k, (k < 41 ∨ 45 < k ∨ k = 42 ∨ k = 43 ∨ k = 44) → g18 k = h k := fun k hk => (p19_4 k (by omega)).trans (hgf k hk)
      have o21 : (r17 = 0 ∨ r17 = 1) ∧ ((¬ r17 = 0 ∧ (seA (fun t => (g 40 (6 + 3 * t))) (fun t => (g 40 (7 + 3 * t))) (fun t => (g 40 (8 + 3 * t))) (fun i => (g 40 (37 + 2 * i))) (fun i => (g 40 (38 + 2 * i))) (g 40 4).toInt.toNat (g 40 36).toInt.toNat) l8) ∨ (r17 = 0 ∧ ¬ (seA (fun t => (g 40 (6 + 3 * t))) (fun t => (g 40 (7 + 3 * t))) (fun t => (g 40 (8 + 3 * t))) (fun i => (g 40 (37 + 2 * i))) (fun i => (g 40 (38 + 2 * i))) (g 40 4).toInt.toNat (g 40 36).toInt.toNat) l8)) := p19_5
      clear p19_5
      have w39_g18 : g18 39 = h 39 := (p19_4 39 (by omega)).trans w39_g
      have w40_g18 : g18 40 = h 40 := (p19_4 40 (by omega)).trans w40_g
      show (r17 = 0 → (qm_PA X 228 44 [(0, .ref 39), (1, .int a), (2, .int l2), (3, .int l3), (4, .int l4), (5, .int l5), (6, .int l6), (7, .int l7), (8, .int (l8 + 1))] [] g18 Q)) ∧ (¬ r17 = 0 → ((¬ l3 = 0 → (qm_PW X 207 [.int l8] g18 _)) ∧ (l3 = 0 → (qm_PW X 207 [.int l8] g18 _))))
      refine ⟨fun c22 => ?_, fun c23 => ?_⟩
      · have := ti_eqK 0 rfl c22
        exact ih l2 l3 l4 l5 l6 l7 (l8 + 1) g18 ⟨(by have := ti_addK l8 (1 : Int32) 1 rfl; have := hmsm.1; have := hgsm.1; show (0 ≤ (l8 + 1).toInt ∧ (l8 + 1).toInt ≤ l2.toInt + 1 ∧ 0 ≤ l2.toInt ∧ l2.toInt ≤ 1023) ∧ (0 ≤ a.toInt ∧ a.toInt ≤ 4) ∧ l2 = drB0 (h 40 4) ∧ fyI (seA (fun t => h 40 (6 + 3 * t)) (fun t => h 40 (7 + 3 * t)) (fun t => h 40 (8 + 3 * t)) (fun i => h 40 (37 + 2 * i)) (fun i => h 40 (38 + 2 * i)) (h 40 4).toInt.toNat (h 40 36).toInt.toNat) (drB0 (h 40 4)) (-4) 1000000 (l8 + 1).toInt.toNat l3.toInt l4.toInt l5 l6 l7.toInt; have e8 : l8 = nI l8.toInt.toNat := i32_nI (by omega); have e9 : (l8 + 1).toInt.toNat = l8.toInt.toNat + 1 := (by omega); rw [w40_g] at o21; have hP := (o21.2.resolve_left (fun w => absurd (by assumption) w.1)).2; exact ⟨by omega, hi0.2.1, hi0.2.2.1, by rw [e9]; exact fyI_n hi0.2.2.2 e8 hP⟩), p19_0, p19_1, p19_2, p19_3, (fun k hk => f20 k hk)⟩ (by have := ti_addK l8 (1 : Int32) 1 rfl; have := hmsm.1; have := hgsm.1; show (1024 - (l8 + 1).toInt).toNat < n; omega)
      · have := ti_neK 0 rfl c23
        refine ⟨fun c24 => ?_, fun c25 => ?_⟩
        · have := ti_neK 0 rfl c24
          refine ty_207 X g18 l8 trivial _ (fun r26 p27 => ?_)
          have o28 : r26.toInt = popI l8 ∧ (0 ≤ r26.toInt ∧ r26.toInt ≤ 10) := p27
          clear p27
          show (l7.toInt ≤ r26.toInt → (qm_PA X 228 44 [(0, .ref 39), (1, .int a), (2, .int l2), (3, .int (l3 + 1)), (4, .int l4), (5, .int (l5 &&& l8)), (6, .int (l6 ||| l8)), (7, .int l7), (8, .int (l8 + 1))] [] g18 Q)) ∧ (r26.toInt < l7.toInt → (qm_PW X 207 [.int l8] g18 _))
          refine ⟨fun c29 => ?_, fun c30 => ?_⟩
          · exact ih l2 (l3 + 1) l4 (l5 &&& l8) (l6 ||| l8) l7 (l8 + 1) g18 ⟨(by have := ti_addK l8 (1 : Int32) 1 rfl; have := ti_addK l3 (1 : Int32) 1 rfl; have := hmsm.1; have := hgsm.1; show (0 ≤ (l8 + 1).toInt ∧ (l8 + 1).toInt ≤ l2.toInt + 1 ∧ 0 ≤ l2.toInt ∧ l2.toInt ≤ 1023) ∧ (0 ≤ a.toInt ∧ a.toInt ≤ 4) ∧ l2 = drB0 (h 40 4) ∧ fyI (seA (fun t => h 40 (6 + 3 * t)) (fun t => h 40 (7 + 3 * t)) (fun t => h 40 (8 + 3 * t)) (fun i => h 40 (37 + 2 * i)) (fun i => h 40 (38 + 2 * i)) (h 40 4).toInt.toNat (h 40 36).toInt.toNat) (drB0 (h 40 4)) (-4) 1000000 (l8 + 1).toInt.toNat (l3 + 1).toInt l4.toInt (l5 &&& l8) (l6 ||| l8) l7.toInt; have e8 : l8 = nI l8.toInt.toNat := i32_nI (by omega); have e9 : (l8 + 1).toInt.toNat = l8.toInt.toNat + 1 := (by omega); rw [w40_g] at o21; have hP := (o21.2.resolve_right (fun w => absurd w.1 (by assumption))).2; exact ⟨by omega, hi0.2.1, hi0.2.2.1, by rw [e9]; exact fyI_y hi0.2.2.2 e8 hP (by omega) (Or.inr ⟨by omega, rfl⟩) rfl rfl (Or.inr ⟨by omega, rfl⟩)⟩), p19_0, p19_1, p19_2, p19_3, (fun k hk => f20 k hk)⟩ (by have := ti_addK l8 (1 : Int32) 1 rfl; have := hmsm.1; have := hgsm.1; show (1024 - (l8 + 1).toInt).toNat < n; omega)
          · refine ty_207 X g18 l8 trivial _ (fun r31 p32 => ?_)
            have o33 : r31.toInt = popI l8 ∧ (0 ≤ r31.toInt ∧ r31.toInt ≤ 10) := p32
            clear p32
            show qm_PA X 228 44 [(0, .ref 39), (1, .int a), (2, .int l2), (3, .int (l3 + 1)), (4, .int l4), (5, .int (l5 &&& l8)), (6, .int (l6 ||| l8)), (7, .int r31), (8, .int (l8 + 1))] [] g18 Q
            exact ih l2 (l3 + 1) l4 (l5 &&& l8) (l6 ||| l8) r31 (l8 + 1) g18 ⟨(by have := ti_addK l8 (1 : Int32) 1 rfl; have := ti_addK l3 (1 : Int32) 1 rfl; have := hmsm.1; have := hgsm.1; show (0 ≤ (l8 + 1).toInt ∧ (l8 + 1).toInt ≤ l2.toInt + 1 ∧ 0 ≤ l2.toInt ∧ l2.toInt ≤ 1023) ∧ (0 ≤ a.toInt ∧ a.toInt ≤ 4) ∧ l2 = drB0 (h 40 4) ∧ fyI (seA (fun t => h 40 (6 + 3 * t)) (fun t => h 40 (7 + 3 * t)) (fun t => h 40 (8 + 3 * t)) (fun i => h 40 (37 + 2 * i)) (fun i => h 40 (38 + 2 * i)) (h 40 4).toInt.toNat (h 40 36).toInt.toNat) (drB0 (h 40 4)) (-4) 1000000 (l8 + 1).toInt.toNat (l3 + 1).toInt l4.toInt (l5 &&& l8) (l6 ||| l8) r31.toInt; have e8 : l8 = nI l8.toInt.toNat := i32_nI (by omega); have e9 : (l8 + 1).toInt.toNat = l8.toInt.toNat + 1 := (by omega); rw [w40_g] at o21; have hP := (o21.2.resolve_right (fun w => absurd w.1 (by assumption))).2; exact ⟨by omega, hi0.2.1, hi0.2.2.1, by rw [e9]; exact fyI_y hi0.2.2.2 e8 hP (by omega) (Or.inr ⟨by omega, rfl⟩) rfl rfl (Or.inl ⟨by omega, o33.1⟩)⟩), p19_0, p19_1, p19_2, p19_3, (fun k hk => f20 k hk)⟩ (by have := ti_addK l8 (1 : Int32) 1 rfl; have := hmsm.1; have := hgsm.1; show (1024 - (l8 + 1).toInt).toNat < n; omega)
        · have := ti_eqK 0 rfl c25
          refine ty_207 X g18 l8 trivial _ (fun r34 p35 => ?_)
          have o36 : r34.toInt = popI l8 ∧ (0 ≤ r34.toInt ∧ r34.toInt ≤ 10) := p35
          clear p35
          show (l7.toInt ≤ r34.toInt → (qm_PA X 228 44 [(0, .ref 39), (1, .int a), (2, .int l2), (3, .int (l3 + 1)), (4, .int l8), (5, .int (l5 &&& l8)), (6, .int (l6 ||| l8)), (7, .int l7), (8, .int (l8 + 1))] [] g18 Q)) ∧ (r34.toInt < l7.toInt → (qm_PW X 207 [.int l8] g18 _))
          refine ⟨fun c37 => ?_, fun c38 => ?_⟩
          · exact ih l2 (l3 + 1) l8 (l5 &&& l8) (l6 ||| l8) l7 (l8 + 1) g18 ⟨(by have := ti_addK l8 (1 : Int32) 1 rfl; have := ti_addK l3 (1 : Int32) 1 rfl; have := hmsm.1; have := hgsm.1; show (0 ≤ (l8 + 1).toInt ∧ (l8 + 1).toInt ≤ l2.toInt + 1 ∧ 0 ≤ l2.toInt ∧ l2.toInt ≤ 1023) ∧ (0 ≤ a.toInt ∧ a.toInt ≤ 4) ∧ l2 = drB0 (h 40 4) ∧ fyI (seA (fun t => h 40 (6 + 3 * t)) (fun t => h 40 (7 + 3 * t)) (fun t => h 40 (8 + 3 * t)) (fun i => h 40 (37 + 2 * i)) (fun i => h 40 (38 + 2 * i)) (h 40 4).toInt.toNat (h 40 36).toInt.toNat) (drB0 (h 40 4)) (-4) 1000000 (l8 + 1).toInt.toNat (l3 + 1).toInt l8.toInt (l5 &&& l8) (l6 ||| l8) l7.toInt; have e8 : l8 = nI l8.toInt.toNat := i32_nI (by omega); have e9 : (l8 + 1).toInt.toNat = l8.toInt.toNat + 1 := (by omega); rw [w40_g] at o21; have hP := (o21.2.resolve_right (fun w => absurd w.1 (by assumption))).2; exact ⟨by omega, hi0.2.1, hi0.2.2.1, by rw [e9]; exact fyI_y hi0.2.2.2 e8 hP (by omega) (Or.inl ⟨by omega, rfl⟩) rfl rfl (Or.inr ⟨by omega, rfl⟩)⟩), p19_0, p19_1, p19_2, p19_3, (fun k hk => f20 k hk)⟩ (by have := ti_addK l8 (1 : Int32) 1 rfl; have := hmsm.1; have := hgsm.1; show (1024 - (l8 + 1).toInt).toNat < n; omega)
          · refine ty_207 X g18 l8 trivial _ (fun r39 p40 => ?_)
            have o41 : r39.toInt = popI l8 ∧ (0 ≤ r39.toInt ∧ r39.toInt ≤ 10) := p40
            clear p40
            show qm_PA X 228 44 [(0, .ref 39), (1, .int a), (2, .int l2), (3, .int (l3 + 1)), (4, .int l8), (5, .int (l5 &&& l8)), (6, .int (l6 ||| l8)), (7, .int r39), (8, .int (l8 + 1))] [] g18 Q
            exact ih l2 (l3 + 1) l8 (l5 &&& l8) (l6 ||| l8) r39 (l8 + 1) g18 ⟨(by have := ti_addK l8 (1 : Int32) 1 rfl; have := ti_addK l3 (1 : Int32) 1 rfl; have := hmsm.1; have := hgsm.1; show (0 ≤ (l8 + 1).toInt ∧ (l8 + 1).toInt ≤ l2.toInt + 1 ∧ 0 ≤ l2.toInt ∧ l2.toInt ≤ 1023) ∧ (0 ≤ a.toInt ∧ a.toInt ≤ 4) ∧ l2 = drB0 (h 40 4) ∧ fyI (seA (fun t => h 40 (6 + 3 * t)) (fun t => h 40 (7 + 3 * t)) (fun t => h 40 (8 + 3 * t)) (fun i => h 40 (37 + 2 * i)) (fun i => h 40 (38 + 2 * i)) (h 40 4).toInt.toNat (h 40 36).toInt.toNat) (drB0 (h 40 4)) (-4) 1000000 (l8 + 1).toInt.toNat (l3 + 1).toInt l8.toInt (l5 &&& l8) (l6 ||| l8) r39.toInt; have e8 : l8 = nI l8.toInt.toNat := i32_nI (by omega); have e9 : (l8 + 1).toInt.toNat = l8.toInt.toNat + 1 := (by omega); rw [w40_g] at o21; have hP := (o21.2.resolve_right (fun w => absurd w.1 (by assumption))).2; exact ⟨by omega, hi0.2.1, hi0.2.2.1, by rw [e9]; exact fyI_y hi0.2.2.2 e8 hP (by omega) (Or.inl ⟨by omega, rfl⟩) rfl rfl (Or.inl ⟨by omega, o41.1⟩)⟩), p19_0, p19_1, p19_2, p19_3, (fun k hk => f20 k hk)⟩ (by have := ti_addK l8 (1 : Int32) 1 rfl; have := hmsm.1; have := hgsm.1; show (1024 - (l8 + 1).toInt).toNat < n; omega)
set_option maxRecDepth 100000 in
set_option maxHeartbeats 4000000 in
theorem ty_228 (X : qm_X) (h : qm_H) (a : Int32) (hp : mi h ∧ sm h ∧ zs h ∧ rw_ h) (Q : qm_Q) (hq : ∀ r : Int32, ∀ h' : qm_H, (mi h' ∧ sm h' ∧ zs h' ∧ rw_ h' ∧ (∀ k, (k < 41 ∨ 45 < k ∨ k = 42 ∨ k = 43 ∨ k = 44) → h' k = h k) ∧ (r.toInt = qFits a.toInt (mR h))) → Q (some (.int r)) h') : qm_PW X 228 [.ref 39, .int a] h Q := by
  have hmmi : mi h := hp.1
  have ⟨⟨_, _⟩, ⟨_, _⟩, ⟨_, _⟩, ⟨_, _⟩, _, _⟩ := hmmi
  have hmsm : sm h := hp.2.1
  have ⟨⟨⟨_, _⟩, _, _⟩, _, _, _⟩ := hmsm
  have hmzs : zs h := hp.2.2.1
  have hmrw : rw_ h := hp.2.2.2
  refine qm_seg_ok (C := qc_228) (rt := some .int) rfl rfl (cuts := [(44, [0, 1, 2, 3, 4, 5, 6, 7, 8])]) 400 _ _ _ _ ?_
  show qm_PW X 141 [.long (Int32.toInt64 a), .long 0, .long 4] h _
  refine sf_141 X h ((Int32.toInt64 a) : Int64) (0 : Int64) (4 : Int64) trivial _ (fun r1 p2 => ?_)
  have o3 : ¬ r1.toInt = 0 → (0 : Int64).toInt ≤ (Int32.toInt64 a).toInt ∧ (Int32.toInt64 a).toInt ≤ (4 : Int64).toInt := fun hc => p2.2.1 (fun e => hc (ti_eqK 0 rfl e))
  have o4 : r1.toInt = 0 → (Int32.toInt64 a).toInt < (0 : Int64).toInt ∨ (4 : Int64).toInt < (Int32.toInt64 a).toInt := fun hc => p2.2.2 (Int32.toInt_inj.mp hc)
  show (¬ r1 = 0 → ((0 ≤ (4 : Int) ∧ (4 : Int) < 147) ∧ (qm_PA X 228 44 [(0, .ref 39), (1, .int a), (2, .int ((1 <<< ((h 40 4) &&& 31)) - 1)), (3, .int 0), (4, .int (-4 : Int32)), (5, .int ((1 <<< ((h 40 4) &&& 31)) - 1)), (6, .int 0), (7, .int 1000000), (8, .int 0)] [] h Q))) ∧ (r1 = 0 → (Q (some (.int (-1 : Int32))) h))
  refine ⟨fun c5 => ?_, fun c6 => ?_⟩
  · have := p2.2.1 c5
    have := ti_neK 0 rfl c5
    refine ⟨by decide, ?_⟩
    exact (ty_228_c X h a hp Q hq _) ((1 <<< ((h 40 4) &&& 31)) - 1) (0 : Int32) (-4 : Int32) ((1 <<< ((h 40 4) &&& 31)) - 1) (0 : Int32) (1000000 : Int32) (0 : Int32) h ⟨(by have : (1000000 : Int32).toInt = 1000000 := rfl; have : (0 : Int32).toInt = 0 := rfl; have : (0 : Int64).toInt = 0 := rfl; have : (4 : Int64).toInt = 4 := rfl; have := i64 a; have := hmsm.1; show (0 ≤ (0 : Int32).toInt ∧ (0 : Int32).toInt ≤ ((1 <<< ((h 40 4) &&& 31)) - 1).toInt + 1 ∧ 0 ≤ ((1 <<< ((h 40 4) &&& 31)) - 1).toInt ∧ ((1 <<< ((h 40 4) &&& 31)) - 1).toInt ≤ 1023) ∧ (0 ≤ a.toInt ∧ a.toInt ≤ 4) ∧ ((1 <<< ((h 40 4) &&& 31)) - 1) = drB0 (h 40 4) ∧ fyI (seA (fun t => h 40 (6 + 3 * t)) (fun t => h 40 (7 + 3 * t)) (fun t => h 40 (8 + 3 * t)) (fun i => h 40 (37 + 2 * i)) (fun i => h 40 (38 + 2 * i)) (h 40 4).toInt.toNat (h 40 36).toInt.toNat) (drB0 (h 40 4)) (-4) 1000000 (0 : Int32).toInt.toNat (0 : Int32).toInt (-4 : Int32).toInt ((1 <<< ((h 40 4) &&& 31)) - 1) (0 : Int32) (1000000 : Int32).toInt; have := i64 a; have : (0 : Int64).toInt = 0 := rfl; have : (4 : Int64).toInt = 4 := rfl; have hbl := bits_le (h 40 4) (by omega) (by omega); exact ⟨⟨by have : (0 : Int32).toInt = 0 := rfl; omega, by have : (0 : Int32).toInt = 0 := rfl; omega, hbl⟩, by omega, rfl, fyI_0 rfl rfl ti_n4 rfl rfl rfl⟩), hmmi, hmsm, hmzs, hmrw, (fun k hk => rfl)⟩ (Nat.lt_succ_self _)
  · have := p2.2.2 c6
    have := ti_eqK 0 rfl c6
    exact hq (-1 : Int32) h ⟨hmmi, hmsm, hmzs, hmrw, (fun k hk => rfl), (by have : (0 : Int64).toInt = 0 := rfl; have : (4 : Int64).toInt = 4 := rfl; have := i64 a; show (-1 : Int32).toInt = qFits a.toInt (mR h); rw [ti_n1]; have := i64 a; have : (0 : Int64).toInt = 0 := rfl; have : (4 : Int64).toInt = 4 := rfl; exact (fits_no (by omega)).symm)⟩
