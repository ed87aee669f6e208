theorem ti_n14 : (-14 : Int32).toInt = -14 := by decide
-- ThreadBank$Sheets.isSheet(I)Z
set_option maxRecDepth 100000 in
set_option maxHeartbeats 4000000 in
theorem sg_65 (X : qm_X) (h : qm_H) (a : Int32) (hp : True) (Q : qm_Q) (hq : ∀ r : Int32, ((r = 0 ∨ r = 1) ∧ (¬ r = 0 → 0 ≤ a.toInt ∧ a.toInt < 4) ∧ (r = 0 → a.toInt < 0 ∨ 4 ≤ a.toInt)) → Q (some (.int r)) h) : qm_PW X 65 [.int a] h Q := by
  refine qm_seg_ok (C := qc_65) (rt := some .boolean) rfl rfl (cuts := []) 400 _ _ _ _ ?_
  show (a.toInt < 0 → (((0 : Int32) = 0 ∨ (0 : Int32) = 1) ∧ Q (some (.int 0)) h)) ∧ (0 ≤ a.toInt → ((4 ≤ a.toInt → (((0 : Int32) = 0 ∨ (0 : Int32) = 1) ∧ Q (some (.int 0)) h)) ∧ (a.toInt < 4 → (((1 : Int32) = 0 ∨ (1 : Int32) = 1) ∧ Q (some (.int 1)) h))))
  refine ⟨fun c1 => ?_, fun c2 => ?_⟩
  · exact ⟨Or.inl rfl, hq 0 (by first | exact ⟨Or.inl rfl, fun hc => absurd rfl hc, fun _ => by omega⟩ | exact ⟨Or.inr rfl, fun _ => by omega, fun hc => absurd hc (by decide)⟩)⟩
  · refine ⟨fun c3 => ?_, fun c4 => ?_⟩
    · exact ⟨Or.inl rfl, hq 0 (by first | exact ⟨Or.inl rfl, fun hc => absurd rfl hc, fun _ => by omega⟩ | exact ⟨Or.inr rfl, fun _ => by omega, fun hc => absurd hc (by decide)⟩)⟩
    · exact ⟨Or.inr rfl, hq 1 (by first | exact ⟨Or.inl rfl, fun hc => absurd rfl hc, fun _ => by omega⟩ | exact ⟨Or.inr rfl, fun _ => by omega, fun hc => absurd hc (by decide)⟩)⟩
-- ThreadBank$Sheets.isLane(I)Z
set_option maxRecDepth 100000 in
set_option maxHeartbeats 4000000 in
theorem sg_66 (X : qm_X) (h : qm_H) (a : Int32) (hp : True) (Q : qm_Q) (hq : ∀ r : Int32, ((r = 0 ∨ r = 1) ∧ (¬ r = 0 → 0 ≤ a.toInt ∧ a.toInt < 3) ∧ (r = 0 → a.toInt < 0 ∨ 3 ≤ a.toInt)) → Q (some (.int r)) h) : qm_PW X 66 [.int a] h Q := by
  refine qm_seg_ok (C := qc_66) (rt := some .boolean) rfl rfl (cuts := []) 400 _ _ _ _ ?_
  show (a.toInt < 0 → (((0 : Int32) = 0 ∨ (0 : Int32) = 1) ∧ Q (some (.int 0)) h)) ∧ (0 ≤ a.toInt → ((3 ≤ a.toInt → (((0 : Int32) = 0 ∨ (0 : Int32) = 1) ∧ Q (some (.int 0)) h)) ∧ (a.toInt < 3 → (((1 : Int32) = 0 ∨ (1 : Int32) = 1) ∧ Q (some (.int 1)) h))))
  refine ⟨fun c1 => ?_, fun c2 => ?_⟩
  · exact ⟨Or.inl rfl, hq 0 (by first | exact ⟨Or.inl rfl, fun hc => absurd rfl hc, fun _ => by omega⟩ | exact ⟨Or.inr rfl, fun _ => by omega, fun hc => absurd hc (by decide)⟩)⟩
  · refine ⟨fun c3 => ?_, fun c4 => ?_⟩
    · exact ⟨Or.inl rfl, hq 0 (by first | exact ⟨Or.inl rfl, fun hc => absurd rfl hc, fun _ => by omega⟩ | exact ⟨Or.inr rfl, fun _ => by omega, fun hc => absurd hc (by decide)⟩)⟩
    · exact ⟨Or.inr rfl, hq 1 (by first | exact ⟨Or.inl rfl, fun hc => absurd rfl hc, fun _ => by omega⟩ | exact ⟨Or.inr rfl, fun _ => by omega, fun hc => absurd hc (by decide)⟩)⟩
-- ThreadBank.sheet(III)I
set_option maxRecDepth 100000 in
set_option maxHeartbeats 4000000 in
theorem sg_125 (X : qm_X) (h : qm_H) (a : Int32) (b : Int32) (c : Int32) (hp : mq 1 h ∧ mq 8 h ∧ mq 15 h ∧ sq h) (Q : qm_Q) (hq : ∀ r : Int32, ∀ h' : qm_H, (mq 1 h' ∧ mq 8 h' ∧ mq 15 h' ∧ sq h' ∧ (∀ k, (k < 0 ∨ 38 < k) → h' k = h k) ∧ ((r.toInt = -1 ∧ ((a.toInt < 0 ∨ 3 < a.toInt) ∨ (b.toInt < 0 ∨ 2 < b.toInt) ∨ 40 < c.toInt)) ∨ (r.toInt = -14 ∧ ((0 ≤ a.toInt ∧ a.toInt ≤ 3) ∧ (0 ≤ b.toInt ∧ b.toInt ≤ 2)) ∧ c.toInt < 0) ∨ (r.toInt = 1 ∧ ((0 ≤ a.toInt ∧ a.toInt ≤ 3) ∧ (0 ≤ b.toInt ∧ b.toInt ≤ 2)) ∧ 0 ≤ c.toInt ∧ c.toInt ≤ 40))) → Q (some (.int r)) h') : qm_PW X 125 [.ref 0, .int a, .int b, .int c] h Q := by
  have hm1 : mq 1 h := hp.1
  have ⟨⟨_, _⟩, ⟨_, _⟩, _, _⟩ := hm1
  have hm8 : mq 8 h := hp.2.1
  have ⟨⟨_, _⟩, ⟨_, _⟩, _, _⟩ := hm8
  have hm15 : mq 15 h := hp.2.2.1
  have ⟨⟨_, _⟩, ⟨_, _⟩, _, _⟩ := hm15
  have hmsq : sq h := hp.2.2.2
  refine qm_seg_ok (C := qc_125) (rt := some .int) rfl rfl (cuts := []) 400 _ _ _ _ ?_
  show qm_PW X 65 [.int a] h _
  refine sg_65 X h a trivial _ (fun r1 p2 => ?_)
  show (r1 = 0 → (Q (some (.int (-1 : Int32))) h)) ∧ (¬ r1 = 0 → (qm_PW X 66 [.int b] h _))
  refine ⟨fun c3 => ?_, fun c4 => ?_⟩
  · have := p2.2.2 c3
    exact hq (-1 : Int32) h ⟨hm1, hm8, hm15, hmsq, (fun k hk => rfl), (by show ((-1 : Int32).toInt = -1 ∧ ((a.toInt < 0 ∨ 3 < a.toInt) ∨ (b.toInt < 0 ∨ 2 < b.toInt) ∨ 40 < c.toInt)) ∨ ((-1 : Int32).toInt = -14 ∧ ((0 ≤ a.toInt ∧ a.toInt ≤ 3) ∧ (0 ≤ b.toInt ∧ b.toInt ≤ 2)) ∧ c.toInt < 0) ∨ ((-1 : Int32).toInt = 1 ∧ ((0 ≤ a.toInt ∧ a.toInt ≤ 3) ∧ (0 ≤ b.toInt ∧ b.toInt ≤ 2)) ∧ 0 ≤ c.toInt ∧ c.toInt ≤ 40); rw [ti_n1]; omega)⟩
  · have := p2.2.1 c4
    refine sg_66 X h b trivial _ (fun r5 p6 => ?_)
    show (r5 = 0 → (Q (some (.int (-1 : Int32))) h)) ∧ (¬ r5 = 0 → ((c.toInt ≤ 40 → ((0 ≤ c.toInt → (qm_PW X 70 [.ref 34, .int a, .int b, .int c] h _)) ∧ (c.toInt < 0 → (Q (some (.int (-14 : Int32))) h)))) ∧ (40 < c.toInt → (Q (some (.int (-1 : Int32))) h))))
    refine ⟨fun c7 => ?_, fun c8 => ?_⟩
    · have := p6.2.2 c7
      exact hq (-1 : Int32) h ⟨hm1, hm8, hm15, hmsq, (fun k hk => rfl), (by show ((-1 : Int32).toInt = -1 ∧ ((a.toInt < 0 ∨ 3 < a.toInt) ∨ (b.toInt < 0 ∨ 2 < b.toInt) ∨ 40 < c.toInt)) ∨ ((-1 : Int32).toInt = -14 ∧ ((0 ≤ a.toInt ∧ a.toInt ≤ 3) ∧ (0 ≤ b.toInt ∧ b.toInt ≤ 2)) ∧ c.toInt < 0) ∨ ((-1 : Int32).toInt = 1 ∧ ((0 ≤ a.toInt ∧ a.toInt ≤ 3) ∧ (0 ≤ b.toInt ∧ b.toInt ≤ 2)) ∧ 0 ≤ c.toInt ∧ c.toInt ≤ 40); rw [ti_n1]; omega)⟩
    · have := p6.2.1 c8
      refine ⟨fun c9 => ?_, fun c10 => ?_⟩
      · refine ⟨fun c11 => ?_, fun c12 => ?_⟩
        · refine sf_70_34 X h a b c hmsq _ (fun g13 p14 => ?_)
          have f15 : ∀ k, (k < 0 ∨ 38 < k) → g13 k = h k := fun k hk => (p14.2 k (by omega)).trans (rfl)
          have k16 : mq 1 g13 := by unfold mq; rw [p14.2 1 (by omega)]; exact hm1
          have k17 : mq 8 g13 := by unfold mq; rw [p14.2 8 (by omega)]; exact hm8
          have k18 : mq 15 g13 := by unfold mq; rw [p14.2 15 (by omega)]; exact hm15
          show Q (some (.int 1)) g13
          exact hq 1 g13 ⟨k16, k17, k18, p14.1, (fun k hk => f15 k hk), (by have : (1 : Int32).toInt = 1 := rfl; show ((1 : Int32).toInt = -1 ∧ ((a.toInt < 0 ∨ 3 < a.toInt) ∨ (b.toInt < 0 ∨ 2 < b.toInt) ∨ 40 < c.toInt)) ∨ ((1 : Int32).toInt = -14 ∧ ((0 ≤ a.toInt ∧ a.toInt ≤ 3) ∧ (0 ≤ b.toInt ∧ b.toInt ≤ 2)) ∧ c.toInt < 0) ∨ ((1 : Int32).toInt = 1 ∧ ((0 ≤ a.toInt ∧ a.toInt ≤ 3) ∧ (0 ≤ b.toInt ∧ b.toInt ≤ 2)) ∧ 0 ≤ c.toInt ∧ c.toInt ≤ 40); omega)⟩
        · exact hq (-14 : Int32) h ⟨hm1, hm8, hm15, hmsq, (fun k hk => rfl), (by show ((-14 : Int32).toInt = -1 ∧ ((a.toInt < 0 ∨ 3 < a.toInt) ∨ (b.toInt < 0 ∨ 2 < b.toInt) ∨ 40 < c.toInt)) ∨ ((-14 : Int32).toInt = -14 ∧ ((0 ≤ a.toInt ∧ a.toInt ≤ 3) ∧ (0 ≤ b.toInt ∧ b.toInt ≤ 2)) ∧ c.toInt < 0) ∨ ((-14 : Int32).toInt = 1 ∧ ((0 ≤ a.toInt ∧ a.toInt ≤ 3) ∧ (0 ≤ b.toInt ∧ b.toInt ≤ 2)) ∧ 0 ≤ c.toInt ∧ c.toInt ≤ 40); rw [ti_n14]; omega)⟩
      · exact hq (-1 : Int32) h ⟨hm1, hm8, hm15, hmsq, (fun k hk => rfl), (by show ((-1 : Int32).toInt = -1 ∧ ((a.toInt < 0 ∨ 3 < a.toInt) ∨ (b.toInt < 0 ∨ 2 < b.toInt) ∨ 40 < c.toInt)) ∨ ((-1 : Int32).toInt = -14 ∧ ((0 ≤ a.toInt ∧ a.toInt ≤ 3) ∧ (0 ≤ b.toInt ∧ b.toInt ≤ 2)) ∧ c.toInt < 0) ∨ ((-1 : Int32).toInt = 1 ∧ ((0 ≤ a.toInt ∧ a.toInt ≤ 3) ∧ (0 ≤ b.toInt ∧ b.toInt ≤ 2)) ∧ 0 ≤ c.toInt ∧ c.toInt ≤ 40); rw [ti_n1]; omega)⟩
-- ThreadBankModel.isSheet(II)Z
set_option maxRecDepth 100000 in
set_option maxHeartbeats 4000000 in
theorem sg_233 (X : qm_X) (h : qm_H) (a : Int32) (b : Int32) (hp : True) (Q : qm_Q) (hq : ∀ r : Int32, ((r = 0 ∨ r = 1) ∧ (¬ r = 0 → 0 ≤ a.toInt ∧ a.toInt ≤ 3 ∧ 0 ≤ b.toInt ∧ b.toInt ≤ 2) ∧ (r = 0 → (a.toInt < 0 ∨ 3 < a.toInt) ∨ (b.toInt < 0 ∨ 2 < b.toInt))) → Q (some (.int r)) h) : qm_PW X 233 [.int a, .int b] h Q := by
  refine qm_seg_ok (C := qc_233) (rt := some .boolean) rfl rfl (cuts := []) 400 _ _ _ _ ?_
  show qm_PW X 141 [.long (Int32.toInt64 a), .long 0, .long 3] h _
  refine sf_141 X h ((Int32.toInt64 a) : Int64) (0 : Int64) (3 : Int64) trivial _ (fun r1 p2 => ?_)
  show (r1 = 0 → (((0 : Int32) = 0 ∨ (0 : Int32) = 1) ∧ Q (some (.int 0)) h)) ∧ (¬ r1 = 0 → (qm_PW X 141 [.long (Int32.toInt64 b), .long 0, .long 2] h _))
  refine ⟨fun c3 => ?_, fun c4 => ?_⟩
  · have := p2.2.2 c3
    exact ⟨Or.inl rfl, hq 0 (by have : (0 : Int64).toInt = 0 := rfl; have : (3 : Int64).toInt = 3 := rfl; have := i64 a; first | exact ⟨Or.inl rfl, fun hc => absurd rfl hc, fun _ => by omega⟩ | exact ⟨Or.inr rfl, fun _ => by omega, fun hc => absurd hc (by decide)⟩)⟩
  · have := p2.2.1 c4
    refine sf_141 X h ((Int32.toInt64 b) : Int64) (0 : Int64) (2 : Int64) trivial _ (fun r5 p6 => ?_)
    show (r5 = 0 → (((0 : Int32) = 0 ∨ (0 : Int32) = 1) ∧ Q (some (.int 0)) h)) ∧ (¬ r5 = 0 → (((1 : Int32) = 0 ∨ (1 : Int32) = 1) ∧ Q (some (.int 1)) h))
    refine ⟨fun c7 => ?_, fun c8 => ?_⟩
    · have := p6.2.2 c7
      exact ⟨Or.inl rfl, hq 0 (by have : (0 : Int64).toInt = 0 := rfl; have : (3 : Int64).toInt = 3 := rfl; have := i64 a; have : (2 : Int64).toInt = 2 := rfl; have := i64 b; first | exact ⟨Or.inl rfl, fun hc => absurd rfl hc, fun _ => by omega⟩ | exact ⟨Or.inr rfl, fun _ => by omega, fun hc => absurd hc (by decide)⟩)⟩
    · have := p6.2.1 c8
      exact ⟨Or.inr rfl, hq 1 (by have : (0 : Int64).toInt = 0 := rfl; have : (3 : Int64).toInt = 3 := rfl; have := i64 a; have : (2 : Int64).toInt = 2 := rfl; have := i64 b; first | exact ⟨Or.inl rfl, fun hc => absurd rfl hc, fun _ => by omega⟩ | exact ⟨Or.inr rfl, fun _ => by omega, fun hc => absurd hc (by decide)⟩)⟩
-- ThreadBankModel.sheet(III)I
set_option maxRecDepth 100000 in
set_option maxHeartbeats 4000000 in
theorem sg_234_c (X : qm_X) (h : qm_H) (a : Int32) (b : Int32) (c : Int32) (hp : mi h ∧ sm h ∧ zs h ∧ rw_ h) (Q : qm_Q) (hq : ∀ r : Int32, ∀ h' : qm_H, (mi h' ∧ sm h' ∧ zs h' ∧ rw_ h' ∧ (∀ k, (k < 39 ∨ 50 < k) → h' k = h k) ∧ ((r.toInt = -1 ∧ ((a.toInt < 0 ∨ 3 < a.toInt) ∨ (b.toInt < 0 ∨ 2 < b.toInt) ∨ 40 < c.toInt)) ∨ (r.toInt = -14 ∧ ((0 ≤ a.toInt ∧ a.toInt ≤ 3) ∧ (0 ≤ b.toInt ∧ b.toInt ≤ 2)) ∧ c.toInt < 0) ∨ (r.toInt = 1 ∧ ((0 ≤ a.toInt ∧ a.toInt ≤ 3) ∧ (0 ≤ b.toInt ∧ b.toInt ≤ 2)) ∧ 0 ≤ c.toInt ∧ c.toInt ≤ 40))) → Q (some (.int r)) h') : ∀ n : Nat, (∀ (l4 : Int32) (g : qm_H), (((0 ≤ l4.toInt ∧ l4.toInt ≤ 40) ∧ ((0 ≤ a.toInt ∧ a.toInt ≤ 3) ∧ (0 ≤ b.toInt ∧ b.toInt ≤ 2)) ∧ 0 ≤ c.toInt ∧ c.toInt ≤ 40) ∧ mi g ∧ sm g ∧ zs g ∧ rw_ g ∧ ∀ k, (k < 39 ∨ 50 < k) → g k = h k) → (40 - l4.toInt).toNat < n → qm_PA X 234 40 [(0, .ref 39), (1, .int a), (2, .int b), (3, .int c), (4, .int l4)] [] g Q) := by
  have hmmi : mi h := hp.1
  have ⟨⟨_, _⟩, ⟨_, _⟩, ⟨_, _⟩, ⟨_, _⟩, _, _⟩ := hmmi
  have hmsm : sm h := hp.2.1
  have ⟨⟨⟨_, _⟩, _, _⟩, _, _, _⟩ := hmsm
  have hmzs : zs h := hp.2.2.1
  have hmrw : rw_ h := hp.2.2.2
  intro n
  induction n with
  | zero => exact fun _ _ _ h0 => absurd h0 (Nat.not_lt_zero _)
  | succ n ih =>
    intro l4 g hi hr
    obtain ⟨hi0, hgmi, hgsm, hgzs, hgrw, hgf⟩ := hi
    have ⟨⟨_, _⟩, ⟨_, _⟩, ⟨_, _⟩, ⟨_, _⟩, _, _⟩ := hgmi
    have ⟨⟨⟨_, _⟩, _, _⟩, _, _, _⟩ := hgsm
    refine qm_seg_ok (C := qc_234) (rt := some .int) rfl rfl (cuts := [(40, [0, 1, 2, 3, 4])]) 400 _ _ _ _ ?_
    show (40 ≤ l4.toInt → (Q (some (.int 1)) g)) ∧ (l4.toInt < 40 → ((0 ≤ ((40 * a) + l4).toInt ∧ ((40 * a) + l4).toInt < 160) ∧ (qm_PA X 234 40 [(0, .ref 39), (1, .int a), (2, .int b), (3, .int c), (4, .int (l4 + 1))] [] (qm_row g 50 (upd (g 50) ((40 * a) + l4).toInt.toNat 0)) Q)))
    refine ⟨fun c1 => ?_, fun c2 => ?_⟩
    · exact hq 1 g ⟨hgmi, hgsm, hgzs, hgrw, (fun k hk => hgf k hk), (by have : (1 : Int32).toInt = 1 := rfl; show ((1 : Int32).toInt = -1 ∧ ((a.toInt < 0 ∨ 3 < a.toInt) ∨ (b.toInt < 0 ∨ 2 < b.toInt) ∨ 40 < c.toInt)) ∨ ((1 : Int32).toInt = -14 ∧ ((0 ≤ a.toInt ∧ a.toInt ≤ 3) ∧ (0 ≤ b.toInt ∧ b.toInt ≤ 2)) ∧ c.toInt < 0) ∨ ((1 : Int32).toInt = 1 ∧ ((0 ≤ a.toInt ∧ a.toInt ≤ 3) ∧ (0 ≤ b.toInt ∧ b.toInt ≤ 2)) ∧ 0 ≤ c.toInt ∧ c.toInt ≤ 40); omega)⟩
    · refine ⟨(by have := ti_mulL (40 : Int32) 40 rfl a; have := ti_add (40 * a) l4; omega), ?_⟩
      exact ih (l4 + 1) (qm_row g 50 (upd (g 50) ((40 * a) + l4).toInt.toNat 0)) ⟨(by have := ti_addK l4 (1 : Int32) 1 rfl; show (0 ≤ (l4 + 1).toInt ∧ (l4 + 1).toInt ≤ 40) ∧ ((0 ≤ a.toInt ∧ a.toInt ≤ 3) ∧ (0 ≤ b.toInt ∧ b.toInt ≤ 2)) ∧ 0 ≤ c.toInt ∧ c.toInt ≤ 40; omega), (by exact hgmi), (by exact hgsm), (by exact hgzs), (by exact hgrw), (fun k hk => by simp only [qm_row]; rw [if_neg (by omega)]; exact hgf k hk)⟩ (by have := ti_addK l4 (1 : Int32) 1 rfl; show (40 - (l4 + 1).toInt).toNat < n; omega)
set_option maxRecDepth 100000 in
set_option maxHeartbeats 4000000 in
theorem sg_234 (X : qm_X) (h : qm_H) (a : Int32) (b : Int32) (c : Int32) (hp : mi h ∧ sm h ∧ zs h ∧ rw_ h) (Q : qm_Q) (hq : ∀ r : Int32, ∀ h' : qm_H, (mi h' ∧ sm h' ∧ zs h' ∧ rw_ h' ∧ (∀ k, (k < 39 ∨ 50 < k) → h' k = h k) ∧ ((r.toInt = -1 ∧ ((a.toInt < 0 ∨ 3 < a.toInt) ∨ (b.toInt < 0 ∨ 2 < b.toInt) ∨ 40 < c.toInt)) ∨ (r.toInt = -14 ∧ ((0 ≤ a.toInt ∧ a.toInt ≤ 3) ∧ (0 ≤ b.toInt ∧ b.toInt ≤ 2)) ∧ c.toInt < 0) ∨ (r.toInt = 1 ∧ ((0 ≤ a.toInt ∧ a.toInt ≤ 3) ∧ (0 ≤ b.toInt ∧ b.toInt ≤ 2)) ∧ 0 ≤ c.toInt ∧ c.toInt ≤ 40))) → Q (some (.int r)) h') : qm_PW X 234 [.ref 39, .int a, .int b, .int c] h Q := by
  have hmmi : mi h := hp.1
  have ⟨⟨_, _⟩, ⟨_, _⟩, ⟨_, _⟩, ⟨_, _⟩, _, _⟩ := hmmi
  have hmsm : sm h := hp.2.1
  have ⟨⟨⟨_, _⟩, _, _⟩, _, _, _⟩ := hmsm
  have hmzs : zs h := hp.2.2.1
  have hmrw : rw_ h := hp.2.2.2
  refine qm_seg_ok (C := qc_234) (rt := some .int) rfl rfl (cuts := [(40, [0, 1, 2, 3, 4])]) 400 _ _ _ _ ?_
  show qm_PW X 233 [.int a, .int b] h _
  refine sg_233 X h a b trivial _ (fun r1 p2 => ?_)
  show (r1 = 0 → (Q (some (.int (-1 : Int32))) h)) ∧ (¬ r1 = 0 → ((c.toInt ≤ 40 → ((0 ≤ c.toInt → ((0 ≤ a.toInt ∧ a.toInt < 4) ∧ ((0 ≤ a.toInt ∧ a.toInt < 4) ∧ (qm_PA X 234 40 [(0, .ref 39), (1, .int a), (2, .int b), (3, .int c), (4, .int 0)] [] (qm_row (qm_row h 48 (upd (h 48) a.toInt.toNat b)) 49 (upd (h 49) a.toInt.toNat c)) Q)))) ∧ (c.toInt < 0 → (Q (some (.int (-14 : Int32))) h)))) ∧ (40 < c.toInt → (Q (some (.int (-1 : Int32))) h))))
  refine ⟨fun c3 => ?_, fun c4 => ?_⟩
  · have := p2.2.2 c3
    exact hq (-1 : Int32) h ⟨hmmi, hmsm, hmzs, hmrw, (fun k hk => rfl), (by show ((-1 : Int32).toInt = -1 ∧ ((a.toInt < 0 ∨ 3 < a.toInt) ∨ (b.toInt < 0 ∨ 2 < b.toInt) ∨ 40 < c.toInt)) ∨ ((-1 : Int32).toInt = -14 ∧ ((0 ≤ a.toInt ∧ a.toInt ≤ 3) ∧ (0 ≤ b.toInt ∧ b.toInt ≤ 2)) ∧ c.toInt < 0) ∨ ((-1 : Int32).toInt = 1 ∧ ((0 ≤ a.toInt ∧ a.toInt ≤ 3) ∧ (0 ≤ b.toInt ∧ b.toInt ≤ 2)) ∧ 0 ≤ c.toInt ∧ c.toInt ≤ 40); rw [ti_n1]; omega)⟩
  · have := p2.2.1 c4
    refine ⟨fun c5 => ?_, fun c6 => ?_⟩
    · refine ⟨fun c7 => ?_, fun c8 => ?_⟩
      · refine ⟨(by omega), ?_⟩
        refine ⟨(by omega), ?_⟩
        exact (sg_234_c X h a b c hp Q hq _) (0 : Int32) (qm_row (qm_row h 48 (upd (h 48) a.toInt.toNat b)) 49 (upd (h 49) a.toInt.toNat c)) ⟨(by have : (0 : Int32).toInt = 0 := rfl; show (0 ≤ (0 : Int32).toInt ∧ (0 : Int32).toInt ≤ 40) ∧ ((0 ≤ a.toInt ∧ a.toInt ≤ 3) ∧ (0 ≤ b.toInt ∧ b.toInt ≤ 2)) ∧ 0 ≤ c.toInt ∧ c.toInt ≤ 40; omega), (by exact hmmi), (by exact hmsm), (by intro j; show 0 ≤ (upd _ _ _ j).toInt ∧ (upd _ _ _ j).toInt ≤ 40; unfold upd; (split <;> first | omega | exact hmzs j)), (by exact hmrw), (fun k hk => by simp only [qm_row]; rw [if_neg (by omega)]; rw [if_neg (by omega)])⟩ (Nat.lt_succ_self _)
      · exact hq (-14 : Int32) h ⟨hmmi, hmsm, hmzs, hmrw, (fun k hk => rfl), (by show ((-14 : Int32).toInt = -1 ∧ ((a.toInt < 0 ∨ 3 < a.toInt) ∨ (b.toInt < 0 ∨ 2 < b.toInt) ∨ 40 < c.toInt)) ∨ ((-14 : Int32).toInt = -14 ∧ ((0 ≤ a.toInt ∧ a.toInt ≤ 3) ∧ (0 ≤ b.toInt ∧ b.toInt ≤ 2)) ∧ c.toInt < 0) ∨ ((-14 : Int32).toInt = 1 ∧ ((0 ≤ a.toInt ∧ a.toInt ≤ 3) ∧ (0 ≤ b.toInt ∧ b.toInt ≤ 2)) ∧ 0 ≤ c.toInt ∧ c.toInt ≤ 40); rw [ti_n14]; omega)⟩
    · exact hq (-1 : Int32) h ⟨hmmi, hmsm, hmzs, hmrw, (fun k hk => rfl), (by show ((-1 : Int32).toInt = -1 ∧ ((a.toInt < 0 ∨ 3 < a.toInt) ∨ (b.toInt < 0 ∨ 2 < b.toInt) ∨ 40 < c.toInt)) ∨ ((-1 : Int32).toInt = -14 ∧ ((0 ≤ a.toInt ∧ a.toInt ≤ 3) ∧ (0 ≤ b.toInt ∧ b.toInt ≤ 2)) ∧ c.toInt < 0) ∨ ((-1 : Int32).toInt = 1 ∧ ((0 ≤ a.toInt ∧ a.toInt ≤ 3) ∧ (0 ≤ b.toInt ∧ b.toInt ≤ 2)) ∧ 0 ≤ c.toInt ∧ c.toInt ≤ 40); rw [ti_n1]; omega)⟩
