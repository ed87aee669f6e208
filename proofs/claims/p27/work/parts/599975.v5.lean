-- ThreadBank$Memory.cutThread(I)V
set_option maxRecDepth 100000 in
set_option maxHeartbeats 4000000 in
theorem ty_48_c (X : qm_X) (h : qm_H) (a : Int32) (hp : mq 1 h ∧ (0 ≤ a.toInt ∧ a.toInt < (h 1 7).toInt)) (Q : qm_Q) (hq : ∀ h' : qm_H, (mq 1 h' ∧ (∀ k, (k < 1 ∨ 7 < k) → h' k = h k) ∧ ((h' 1 7).toInt = (h 1 7).toInt - 1 ∧ ctR a.toInt.toNat ((h 1 7).toInt - 1).toNat h h')) → Q none h') : ∀ n : Nat, (∀ (l2 : Int32) (g : qm_H), ((((a.toInt ≤ l2.toInt ∧ l2.toInt ≤ (h 1 7).toInt - 1) ∧ (g 1 7).toInt = (h 1 7).toInt) ∧ ctI a.toInt.toNat l2.toInt.toNat h g) ∧ mq 1 g ∧ ∀ k, (k < 1 ∨ 7 < k) → g k = h k) → (10 - l2.toInt).toNat < n → qm_PA X 48 11 [(0, .ref 1), (1, .int a), (2, .int l2)] [] g Q) := by
  have hm1 : mq 1 h := hp.1
  have ⟨⟨_, _⟩, ⟨_, _⟩, _, _⟩ := hm1
  have hp0 : 0 ≤ a.toInt ∧ a.toInt < (h 1 7).toInt := hp.2
  intro n
  induction n with
  | zero => exact fun _ _ _ h0 => absurd h0 (Nat.not_lt_zero _)
  | succ n ih =>
    intro l2 g hi hr
    obtain ⟨hi0, hg1, hgf⟩ := hi
    have ⟨⟨_, _⟩, ⟨_, _⟩, _, _⟩ := hg1
    refine qm_seg_ok (C := qc_48) (rt := none) rfl rfl (cuts := [(11, [0, 1, 2])]) 400 _ _ _ _ ?_
    show (((g 1 7) - 1).toInt ≤ l2.toInt → (Q none (qm_row g 1 (upd (g 1) 7 ((g 1 7) - 1))))) ∧ (l2.toInt < ((g 1 7) - 1).toInt → ((0 ≤ (l2 + 1).toInt ∧ (l2 + 1).toInt < 10) ∧ ((0 ≤ l2.toInt ∧ l2.toInt < 10) ∧ ((0 ≤ (l2 + 1).toInt ∧ (l2 + 1).toInt < 10) ∧ ((0 ≤ l2.toInt ∧ l2.toInt < 10) ∧ ((0 ≤ (l2 + 1).toInt ∧ (l2 + 1).toInt < 10) ∧ ((0 ≤ l2.toInt ∧ l2.toInt < 10) ∧ (qm_PA X 48 11 [(0, .ref 1), (1, .int a), (2, .int (l2 + 1))] [] (qm_row (qm_row (qm_row g 3 (upd (g 3) l2.toInt.toNat (g 3 (l2 + 1).toInt.toNat))) 4 (upd (g 4) l2.toInt.toNat (g 4 (l2 + 1).toInt.toNat))) 5 (upd (g 5) l2.toInt.toNat (g 5 (l2 + 1).toInt.toNat))) Q))))))))
    refine ⟨fun c1 => ?_, fun c2 => ?_⟩
    · exact hq (qm_row g 1 (upd (g 1) 7 ((g 1 7) - 1))) ⟨(by have ⟨⟨_, _⟩, ⟨_, _⟩, _, _⟩ := hm1; have ⟨⟨_, _⟩, ⟨_, _⟩, _, _⟩ := hg1; show (0 ≤ (g 1 6).toInt ∧ (g 1 6).toInt ≤ 4) ∧ (0 ≤ ((g 1 7) - 1).toInt ∧ ((g 1 7) - 1).toInt ≤ 10) ∧ (0 ≤ (g 1 9).toInt ∧ (g 1 9).toInt ≤ 6); have := ti_subK (g 1 7) (1 : Int32) 1 rfl; omega), (fun k hk => by simp only [qm_row]; rw [if_neg (by omega)]; exact hgf k hk), (by have := ti_subK (g 1 7) (1 : Int32) 1 rfl; show ((g 1 7) - 1).toInt = (h 1 7).toInt - 1 ∧ ctR a.toInt.toNat ((h 1 7).toInt - 1).toNat h (qm_row g 1 (upd (g 1) 7 ((g 1 7) - 1))); exact ⟨by omega, by rw [show ((h 1 7).toInt - 1).toNat = l2.toInt.toNat by omega]; exact ctR_mk hi0.2 rfl ⟨rfl, rfl, rfl, rfl, rfl, rfl⟩⟩)⟩
    · refine ⟨(by have := ti_addK l2 (1 : Int32) 1 rfl; have := ti_subK (g 1 7) (1 : Int32) 1 rfl; omega), ?_⟩
      refine ⟨(by have := ti_subK (g 1 7) (1 : Int32) 1 rfl; omega), ?_⟩
      refine ⟨(by have := ti_addK l2 (1 : Int32) 1 rfl; have := ti_subK (g 1 7) (1 : Int32) 1 rfl; omega), ?_⟩
      refine ⟨(by have := ti_subK (g 1 7) (1 : Int32) 1 rfl; omega), ?_⟩
      refine ⟨(by have := ti_addK l2 (1 : Int32) 1 rfl; have := ti_subK (g 1 7) (1 : Int32) 1 rfl; omega), ?_⟩
      refine ⟨(by have := ti_subK (g 1 7) (1 : Int32) 1 rfl; omega), ?_⟩
      exact ih (l2 + 1) (qm_row (qm_row (qm_row g 3 (upd (g 3) l2.toInt.toNat (g 3 (l2 + 1).toInt.toNat))) 4 (upd (g 4) l2.toInt.toNat (g 4 (l2 + 1).toInt.toNat))) 5 (upd (g 5) l2.toInt.toNat (g 5 (l2 + 1).toInt.toNat))) ⟨(by have := ti_addK l2 (1 : Int32) 1 rfl; have := ti_subK (g 1 7) (1 : Int32) 1 rfl; show ((a.toInt ≤ (l2 + 1).toInt ∧ (l2 + 1).toInt ≤ (h 1 7).toInt - 1) ∧ (g 1 7).toInt = (h 1 7).toInt) ∧ ctI a.toInt.toNat (l2 + 1).toInt.toNat h (qm_row (qm_row (qm_row g 3 (upd (g 3) l2.toInt.toNat (g 3 (l2 + 1).toInt.toNat))) 4 (upd (g 4) l2.toInt.toNat (g 4 (l2 + 1).toInt.toNat))) 5 (upd (g 5) l2.toInt.toNat (g 5 (l2 + 1).toInt.toNat))); have e9 : (l2 + 1).toInt.toNat = l2.toInt.toNat + 1 := (by omega); exact ⟨by omega, by rw [e9]; exact ctI_s hi0.2 (by omega) ⟨rfl, rfl, rfl, rfl⟩ rfl rfl rfl⟩), (by exact hg1), (fun k hk => by simp only [qm_row]; rw [if_neg (by omega)]; rw [if_neg (by omega)]; rw [if_neg (by omega)]; exact hgf k hk)⟩ (by have := ti_addK l2 (1 : Int32) 1 rfl; have := ti_subK (g 1 7) (1 : Int32) 1 rfl; show (10 - (l2 + 1).toInt).toNat < n; omega)
set_option maxRecDepth 100000 in
set_option maxHeartbeats 4000000 in
theorem ty_48 (X : qm_X) (h : qm_H) (a : Int32) (hp : mq 1 h ∧ (0 ≤ a.toInt ∧ a.toInt < (h 1 7).toInt)) (Q : qm_Q) (hq : ∀ h' : qm_H, (mq 1 h' ∧ (∀ k, (k < 1 ∨ 7 < k) → h' k = h k) ∧ ((h' 1 7).toInt = (h 1 7).toInt - 1 ∧ ctR a.toInt.toNat ((h 1 7).toInt - 1).toNat h h')) → Q none h') : qm_PW X 48 [.ref 1, .int a] h Q := by
  have hm1 : mq 1 h := hp.1
  have ⟨⟨_, _⟩, ⟨_, _⟩, _, _⟩ := hm1
  have hp0 : 0 ≤ a.toInt ∧ a.toInt < (h 1 7).toInt := hp.2
  refine qm_seg_ok (C := qc_48) (rt := none) rfl rfl (cuts := [(11, [0, 1, 2])]) 400 _ _ _ _ ?_
  show qm_PW X 29 [.ref 1, .int a] h _
  refine ty_29 X h a trivial _ (fun r1 p2 => ?_)
  have o3 : (r1 = 0 ∨ r1 = 1) ∧ ((r1.toInt = 1 ∧ 0 ≤ a.toInt ∧ a.toInt < (h 1 7).toInt) ∨ (r1.toInt = 0 ∧ ¬ (0 ≤ a.toInt ∧ a.toInt < (h 1 7).toInt))) := p2
  clear p2
  show (¬ r1 = 0 → (qm_PA X 48 11 [(0, .ref 1), (1, .int a), (2, .int a)] [] h Q)) ∧ (r1 = 0 → (Q none h))
  refine ⟨fun c4 => ?_, fun c5 => ?_⟩
  · have := ti_neK 0 rfl c4
    exact (ty_48_c X h a hp Q hq _) a h ⟨(by show ((a.toInt ≤ a.toInt ∧ a.toInt ≤ (h 1 7).toInt - 1) ∧ (h 1 7).toInt = (h 1 7).toInt) ∧ ctI a.toInt.toNat a.toInt.toNat h h; exact ⟨by omega, ctI_0⟩), hm1, (fun k hk => rfl)⟩ (Nat.lt_succ_self _)
  · have := ti_eqK 0 rfl c5
    exact hq h ⟨hm1, (fun k hk => rfl), (by show (h 1 7).toInt = (h 1 7).toInt - 1 ∧ ctR a.toInt.toNat ((h 1 7).toInt - 1).toNat h h; exfalso; omega)⟩
-- ThreadBank.cut(I)I
set_option maxRecDepth 100000 in
set_option maxHeartbeats 4000000 in
theorem ty_99 (X : qm_X) (h : qm_H) (a : Int32) (hp : mq 1 h ∧ mq 8 h ∧ mq 15 h ∧ sq h) (Q : qm_Q) (hq : ∀ r : Int32, ∀ h' : qm_H, (mq 1 h' ∧ mq 8 h' ∧ mq 15 h' ∧ sq h' ∧ (∀ k, (k < 1 ∨ 7 < k) → h' k = h k) ∧ (r.toInt = (opCut a (mC h)).1 ∧ mC h' = (opCut a (mC h)).2)) → Q (some (.int r)) h') : qm_PW X 99 [.ref 0, .int a] h Q := by
  have hm1 : mq 1 h := hp.1
  have ⟨⟨_, _⟩, ⟨_, _⟩, _, _⟩ := hm1
  have hm8 : mq 8 h := hp.2.1
  have ⟨⟨_, _⟩, ⟨_, _⟩, _, _⟩ := hm8
  have hm15 : mq 15 h := hp.2.2.1
  have ⟨⟨_, _⟩, ⟨_, _⟩, _, _⟩ := hm15
  have hmsq : sq h := hp.2.2.2
  refine qm_seg_ok (C := qc_99) (rt := some .int) rfl rfl (cuts := []) 400 _ _ _ _ ?_
  show qm_PW X 29 [.ref 1, .int a] h _
  refine ty_29 X h a trivial _ (fun r1 p2 => ?_)
  have o3 : (r1 = 0 ∨ r1 = 1) ∧ ((r1.toInt = 1 ∧ 0 ≤ a.toInt ∧ a.toInt < (h 1 7).toInt) ∨ (r1.toInt = 0 ∧ ¬ (0 ≤ a.toInt ∧ a.toInt < (h 1 7).toInt))) := p2
  clear p2
  show (¬ r1 = 0 → (qm_PW X 48 [.ref 1, .int a] h _)) ∧ (r1 = 0 → (Q (some (.int (-1 : Int32))) h))
  refine ⟨fun c4 => ?_, fun c5 => ?_⟩
  · have := ti_neK 0 rfl c4
    refine ty_48 X h a ⟨hm1, (by show 0 ≤ a.toInt ∧ a.toInt < (h 1 7).toInt; omega)⟩ _ (fun g6 p7 => ?_)
    obtain ⟨p7_0, p7_1, p7_2⟩ := p7
    have f8 : ∀ k, (k < 1 ∨ 7 < k) → g6 k = h k := fun k hk => (p7_1 k (by omega)).trans (rfl)
    have k9 : mq 8 g6 := by unfold mq; rw [p7_1 8 (by omega)]; exact hm8
    have k10 : mq 15 g6 := by unfold mq; rw [p7_1 15 (by omega)]; exact hm15
    have k11 : sq g6 := by unfold sq; rw [p7_1 37 (by omega)]; exact hmsq
    have o12 : (g6 1 7).toInt = (h 1 7).toInt - 1 ∧ ctR a.toInt.toNat ((h 1 7).toInt - 1).toNat h g6 := p7_2
    clear p7_2
    show Q (some (.int (g6 1 7))) g6
    exact hq (g6 1 7) g6 ⟨p7_0, k9, k10, k11, (fun k hk => f8 k hk), (by show (g6 1 7).toInt = (opCut a (mC h)).1 ∧ mC g6 = (opCut a (mC h)).2; rw [show opCut a (mC h) = _ from cut_ok (show 0 ≤ a.toInt ∧ a.toInt < (h 1 7).toInt by omega) (ct_sel (by omega) (by omega) o12.1 o12.2)]; exact ⟨rfl, rfl⟩)⟩
  · have := ti_eqK 0 rfl c5
    exact hq (-1 : Int32) h ⟨hm1, hm8, hm15, hmsq, (fun k hk => rfl), (by show (-1 : Int32).toInt = (opCut a (mC h)).1 ∧ mC h = (opCut a (mC h)).2; rw [ti_n1]; rw [show opCut a (mC h) = _ from cut_bad (fun z => absurd (show 0 ≤ a.toInt ∧ a.toInt < (h 1 7).toInt from z) (by omega))]; exact ⟨rfl, rfl⟩)⟩
-- ThreadBank.lose(I)I
set_option maxRecDepth 100000 in
set_option maxHeartbeats 4000000 in
theorem ty_101_c (X : qm_X) (h : qm_H) (a : Int32) (hp : mq 1 h ∧ mq 8 h ∧ mq 15 h ∧ sq h) (Q : qm_Q) (hq : ∀ r : Int32, ∀ h' : qm_H, (mq 1 h' ∧ mq 8 h' ∧ mq 15 h' ∧ sq h' ∧ (∀ k, (k < 1 ∨ 7 < k) → h' k = h k) ∧ (r.toInt = (opLose a (mC h)).1 ∧ mC h' = (opLose a (mC h)).2)) → Q (some (.int r)) h') : ∀ n : Nat, (∀ (l2 : Int32) (l3 : Int32) (g : qm_H), ((((-1 ≤ l3.toInt ∧ l3.toInt < (h 1 7).toInt) ∧ l2.toInt = (h 1 7).toInt ∧ (0 ≤ a.toInt ∧ a.toInt < (h 1 6).toInt)) ∧ lsA (onP (h 3) a.toInt) (h 1 7).toInt.toNat (l3.toInt + 1).toNat h g) ∧ mq 1 g ∧ mq 8 g ∧ mq 15 g ∧ sq g ∧ ∀ k, (k < 1 ∨ 7 < k) → g k = h k) → (l3.toInt + 1).toNat < n → qm_PA X 101 25 [(0, .ref 0), (1, .int a), (2, .int l2), (3, .int l3)] [] g Q) := by
  have hm1 : mq 1 h := hp.1
  have ⟨⟨_, _⟩, ⟨_, _⟩, _, _⟩ := hm1
  have hm8 : mq 8 h := hp.2.1
  have ⟨⟨_, _⟩, ⟨_, _⟩, _, _⟩ := hm8
  have hm15 : mq 15 h := hp.2.2.1
  have ⟨⟨_, _⟩, ⟨_, _⟩, _, _⟩ := hm15
  have hmsq : sq h := hp.2.2.2
  intro n
  induction n with
  | zero => exact fun _ _ _ _ h0 => absurd h0 (Nat.not_lt_zero _)
  | succ n ih =>
    intro l2 l3 g hi hr
    obtain ⟨hi0, hg1, hg8, hg15, hgsq, hgf⟩ := hi
    have ⟨⟨_, _⟩, ⟨_, _⟩, _, _⟩ := hg1
    have ⟨⟨_, _⟩, ⟨_, _⟩, _, _⟩ := hg8
    have ⟨⟨_, _⟩, ⟨_, _⟩, _, _⟩ := hg15
    have hlm := lsI_m hi0.2.2.1 (by omega)
    refine qm_seg_ok (C := qc_101) (rt := some .int) rfl rfl (cuts := [(25, [0, 1, 2, 3])]) 400 _ _ _ _ ?_
    show (l3.toInt < 0 → (Q (some (.int (l2 - (g 1 7)))) g)) ∧ (0 ≤ l3.toInt → (qm_PW X 33 [.ref 1, .int l3] g _))
    refine ⟨fun c1 => ?_, fun c2 => ?_⟩
    · exact hq (l2 - (g 1 7)) g ⟨hg1, hg8, hg15, hgsq, (fun k hk => hgf k hk), (by have := ti_sub l2 (g 1 7); show (l2 - (g 1 7)).toInt = (opLose a (mC h)).1 ∧ mC g = (opLose a (mC h)).2; have e9 : (l3.toInt + 1).toNat = 0 := (by omega); have hA := hi0.2; rw [e9] at hA; rw [show opLose a (mC h) = _ from lose_ok (show 0 ≤ a.toInt ∧ a.toInt < (h 1 6).toInt by omega) (ls_sel (fun u hu => onP_msk hu) (by omega) hA)]; exact ⟨(show (l2 - (g 1 7)).toInt = (h 1 7).toInt - (g 1 7).toInt by omega), rfl⟩)⟩
    · refine ty_33 X g l3 hg1 _ (fun r3 p4 => ?_)
      have o5 : ((0 ≤ l3.toInt ∧ l3.toInt < (g 1 7).toInt) ∧ r3.toInt = ((g 3 l3.toInt.toNat) / 10).toInt) ∨ (¬ (0 ≤ l3.toInt ∧ l3.toInt < (g 1 7).toInt) ∧ r3.toInt = -4) := p4
      clear p4
      show (¬ r3 = a → (qm_PA X 101 25 [(0, .ref 0), (1, .int a), (2, .int l2), (3, .int (l3 + (-1 : Int32)))] [] g Q)) ∧ (r3 = a → (qm_PW X 48 [.ref 1, .int l3] g _))
      refine ⟨fun c6 => ?_, fun c7 => ?_⟩
      · have hz8 := ti_addK l3 (-1 : Int32) (-1) ti_n1 (by have := ti_rng l3; omega)
        revert hz8
        generalize l3 + (-1 : Int32) = z8
        intro hz8
        exact ih l2 z8 g ⟨(by have := ti_div (10 : Int32) 10 rfl (g 3 l3.toInt.toNat) (by decide); show ((-1 ≤ z8.toInt ∧ z8.toInt < (h 1 7).toInt) ∧ l2.toInt = (h 1 7).toInt ∧ (0 ≤ a.toInt ∧ a.toInt < (h 1 6).toInt)) ∧ lsA (onP (h 3) a.toInt) (h 1 7).toInt.toNat (z8.toInt + 1).toNat h g; have e9 : (l3.toInt + 1).toNat = l3.toInt.toNat + 1 := (by omega); have e8 : (z8.toInt + 1).toNat = l3.toInt.toNat := (by omega); have hA := hi0.2; rw [e9] at hA; have e7 := hA.2.1.2.1 l3.toInt.toNat (by omega); rw [e7] at o5;exact ⟨by omega, by rw [e8]; exact lsA_k hA (onP_t (fun w => absurd (Int32.toInt_inj.mp (show r3.toInt = a.toInt from by omega)) (by assumption)))⟩), hg1, hg8, hg15, hgsq, (fun k hk => hgf k hk)⟩ (by have := ti_div (10 : Int32) 10 rfl (g 3 l3.toInt.toNat) (by decide); show (z8.toInt + 1).toNat < n; omega)
      · refine ty_48 X g l3 ⟨hg1, (by have := ti_div (10 : Int32) 10 rfl (g 3 l3.toInt.toNat) (by decide); show 0 ≤ l3.toInt ∧ l3.toInt < (g 1 7).toInt; omega)⟩ _ (fun g9 p10 => ?_)
        obtain ⟨p10_0, p10_1, p10_2⟩ := p10
        have f11 : ∀ k, (k < 1 ∨ 7 < k) → g9 k = h k := fun k hk => (p10_1 k (by omega)).trans (hgf k hk)
        have k12 : mq 8 g9 := by unfold mq; rw [p10_1 8 (by omega)]; exact hg8
        have k13 : mq 15 g9 := by unfold mq; rw [p10_1 15 (by omega)]; exact hg15
        have k14 : sq g9 := by unfold sq; rw [p10_1 37 (by omega)]; exact hgsq
        have o15 : (g9 1 7).toInt = (g 1 7).toInt - 1 ∧ ctR l3.toInt.toNat ((g 1 7).toInt - 1).toNat g g9 := p10_2
        clear p10_2
        show qm_PA X 101 25 [(0, .ref 0), (1, .int a), (2, .int l2), (3, .int (l3 + (-1 : Int32)))] [] g9 Q
        have hz16 := ti_addK l3 (-1 : Int32) (-1) ti_n1 (by have := ti_rng l3; omega)
        revert hz16
        generalize l3 + (-1 : Int32) = z16
        intro hz16
        exact ih l2 z16 g9 ⟨(by have := ti_div (10 : Int32) 10 rfl (g 3 l3.toInt.toNat) (by decide); show ((-1 ≤ z16.toInt ∧ z16.toInt < (h 1 7).toInt) ∧ l2.toInt = (h 1 7).toInt ∧ (0 ≤ a.toInt ∧ a.toInt < (h 1 6).toInt)) ∧ lsA (onP (h 3) a.toInt) (h 1 7).toInt.toNat (z16.toInt + 1).toNat h g9; have e9 : (l3.toInt + 1).toNat = l3.toInt.toNat + 1 := (by omega); have e8 : (z16.toInt + 1).toNat = l3.toInt.toNat := (by omega); have hA := hi0.2; rw [e9] at hA; have e7 := hA.2.1.2.1 l3.toInt.toNat (by omega); rw [e7] at o5;have e5 := congrArg Int32.toInt (show r3 = a from by assumption); exact ⟨by omega, by rw [e8]; exact lsA_c hA (onP_f (by omega)) (by omega) (by omega) o15.2⟩), p10_0, k12, k13, k14, (fun k hk => f11 k hk)⟩ (by have := ti_div (10 : Int32) 10 rfl (g 3 l3.toInt.toNat) (by decide); show (z16.toInt + 1).toNat < n; omega)
set_option maxRecDepth 100000 in
set_option maxHeartbeats 4000000 in
theorem ty_101 (X : qm_X) (h : qm_H) (a : Int32) (hp : mq 1 h ∧ mq 8 h ∧ mq 15 h ∧ sq h) (Q : qm_Q) (hq : ∀ r : Int32, ∀ h' : qm_H, (mq 1 h' ∧ mq 8 h' ∧ mq 15 h' ∧ sq h' ∧ (∀ k, (k < 1 ∨ 7 < k) → h' k = h k) ∧ (r.toInt = (opLose a (mC h)).1 ∧ mC h' = (opLose a (mC h)).2)) → Q (some (.int r)) h') : qm_PW X 101 [.ref 0, .int a] h Q := by
  have hm1 : mq 1 h := hp.1
  have ⟨⟨_, _⟩, ⟨_, _⟩, _, _⟩ := hm1
  have hm8 : mq 8 h := hp.2.1
  have ⟨⟨_, _⟩, ⟨_, _⟩, _, _⟩ := hm8
  have hm15 : mq 15 h := hp.2.2.1
  have ⟨⟨_, _⟩, ⟨_, _⟩, _, _⟩ := hm15
  have hmsq : sq h := hp.2.2.2
  refine qm_seg_ok (C := qc_101) (rt := some .int) rfl rfl (cuts := [(25, [0, 1, 2, 3])]) 400 _ _ _ _ ?_
  show qm_PW X 28 [.ref 1, .int a] h _
  refine ty_28 X h a trivial _ (fun r1 p2 => ?_)
  have o3 : (r1 = 0 ∨ r1 = 1) ∧ ((r1.toInt = 1 ∧ 0 ≤ a.toInt ∧ a.toInt < (h 1 6).toInt) ∨ (r1.toInt = 0 ∧ ¬ (0 ≤ a.toInt ∧ a.toInt < (h 1 6).toInt))) := p2
  clear p2
  show (¬ r1 = 0 → (qm_PA X 101 25 [(0, .ref 0), (1, .int a), (2, .int (h 1 7)), (3, .int ((h 1 7) - 1))] [] h Q)) ∧ (r1 = 0 → (Q (some (.int (-1 : Int32))) h))
  refine ⟨fun c4 => ?_, fun c5 => ?_⟩
  · have := ti_neK 0 rfl c4
    exact (ty_101_c X h a hp Q hq _) (h 1 7) ((h 1 7) - 1) h ⟨(by have := ti_subK (h 1 7) (1 : Int32) 1 rfl; show ((-1 ≤ ((h 1 7) - 1).toInt ∧ ((h 1 7) - 1).toInt < (h 1 7).toInt) ∧ (h 1 7).toInt = (h 1 7).toInt ∧ (0 ≤ a.toInt ∧ a.toInt < (h 1 6).toInt)) ∧ lsA (onP (h 3) a.toInt) (h 1 7).toInt.toNat (((h 1 7) - 1).toInt + 1).toNat h h; have e9 : (((h 1 7) - 1).toInt + 1).toNat = (h 1 7).toInt.toNat := (by omega); exact ⟨by omega, by rw [e9]; exact lsA_0 (by omega)⟩), hm1, hm8, hm15, hmsq, (fun k hk => rfl)⟩ (Nat.lt_succ_self _)
  · have := ti_eqK 0 rfl c5
    exact hq (-1 : Int32) h ⟨hm1, hm8, hm15, hmsq, (fun k hk => rfl), (by show (-1 : Int32).toInt = (opLose a (mC h)).1 ∧ mC h = (opLose a (mC h)).2; rw [ti_n1]; rw [show opLose a (mC h) = _ from lose_bad (fun z => absurd (show 0 ≤ a.toInt ∧ a.toInt < (h 1 6).toInt from z) (by omega))]; exact ⟨rfl, rfl⟩)⟩
