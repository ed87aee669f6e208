-- ThreadBank$Sheets.isSheet(I)Z
set_option maxRecDepth 100000 in
set_option maxHeartbeats 4000000 in
theorem sf_65 (X : qm_X) (h : qm_H) (a : Int32) (hp : True) (Q : qm_Q) (hq : ∀ r : Int32, ((r = 0 ∨ r = 1) ∧ (¬ r = 0 → 0 ≤ a.toInt ∧ a.toInt < 4)) → Q (some (.int r)) h) : qm_PW X 65 [.int a] h Q := by
  refine qm_seg_ok (C := qc_65) (rt := some .boolean) rfl rfl (cuts := []) 400 _ _ _ _ ?_
  show (a.toInt < 0 → (((0 : Int32) = 0 ∨ (0 : Int32) = 1) ∧ Q (some (.int 0)) h)) ∧ (0 ≤ a.toInt → ((4 ≤ a.toInt → (((0 : Int32) = 0 ∨ (0 : Int32) = 1) ∧ Q (some (.int 0)) h)) ∧ (a.toInt < 4 → (((1 : Int32) = 0 ∨ (1 : Int32) = 1) ∧ Q (some (.int 1)) h))))
  refine ⟨fun c1 => ?_, fun c2 => ?_⟩
  · exact ⟨Or.inl rfl, hq 0 (by first | omega | exact ⟨Or.inl rfl, fun hc => absurd rfl hc⟩ | exact ⟨Or.inr rfl, fun hc => absurd hc (by decide)⟩ | (refine ⟨Or.inr rfl, fun _ => ?_⟩; omega) | (refine ⟨Or.inl rfl, fun _ => ?_⟩; omega) | (simp; done))⟩
  · refine ⟨fun c3 => ?_, fun c4 => ?_⟩
    · exact ⟨Or.inl rfl, hq 0 (by first | omega | exact ⟨Or.inl rfl, fun hc => absurd rfl hc⟩ | exact ⟨Or.inr rfl, fun hc => absurd hc (by decide)⟩ | (refine ⟨Or.inr rfl, fun _ => ?_⟩; omega) | (refine ⟨Or.inl rfl, fun _ => ?_⟩; omega) | (simp; done))⟩
    · exact ⟨Or.inr rfl, hq 1 (by first | omega | exact ⟨Or.inl rfl, fun hc => absurd rfl hc⟩ | exact ⟨Or.inr rfl, fun hc => absurd hc (by decide)⟩ | (refine ⟨Or.inr rfl, fun _ => ?_⟩; omega) | (refine ⟨Or.inl rfl, fun _ => ?_⟩; omega) | (simp; done))⟩
-- ThreadBank$Sheets.isLane(I)Z
set_option maxRecDepth 100000 in
set_option maxHeartbeats 4000000 in
theorem sf_66 (X : qm_X) (h : qm_H) (a : Int32) (hp : True) (Q : qm_Q) (hq : ∀ r : Int32, (r = 0 ∨ r = 1) → Q (some (.int r)) h) : qm_PW X 66 [.int a] h Q := by
  refine qm_seg_ok (C := qc_66) (rt := some .boolean) rfl rfl (cuts := []) 400 _ _ _ _ ?_
  show (a.toInt < 0 → (((0 : Int32) = 0 ∨ (0 : Int32) = 1) ∧ Q (some (.int 0)) h)) ∧ (0 ≤ a.toInt → ((3 ≤ a.toInt → (((0 : Int32) = 0 ∨ (0 : Int32) = 1) ∧ Q (some (.int 0)) h)) ∧ (a.toInt < 3 → (((1 : Int32) = 0 ∨ (1 : Int32) = 1) ∧ Q (some (.int 1)) h))))
  refine ⟨fun c1 => ?_, fun c2 => ?_⟩
  · exact ⟨Or.inl rfl, hq 0 (Or.inl rfl)⟩
  · refine ⟨fun c3 => ?_, fun c4 => ?_⟩
    · exact ⟨Or.inl rfl, hq 0 (Or.inl rfl)⟩
    · exact ⟨Or.inr rfl, hq 1 (Or.inr rfl)⟩
-- ThreadBank$Sheets.isNothing(I)Z
set_option maxRecDepth 100000 in
set_option maxHeartbeats 4000000 in
theorem sf_67_34 (X : qm_X) (h : qm_H) (a : Int32) (hp : True) (Q : qm_Q) (hq : ∀ r : Int32, ((r = 0 ∨ r = 1) ∧ (r = 0 → 0 ≤ a.toInt ∧ a.toInt < 4)) → Q (some (.int r)) h) : qm_PW X 67 [.ref 34, .int a] h Q := by
  refine qm_seg_ok (C := qc_67) (rt := some .boolean) rfl rfl (cuts := []) 400 _ _ _ _ ?_
  show qm_PW X 65 [.int a] h _
  refine sf_65 X h a trivial _ (fun r1 p2 => ?_)
  show (r1 = 0 → (((1 : Int32) = 0 ∨ (1 : Int32) = 1) ∧ Q (some (.int 1)) h)) ∧ (¬ r1 = 0 → ((0 ≤ a.toInt ∧ a.toInt < 4) ∧ ((¬ (h 37 a.toInt.toNat) = (-4 : Int32) → (((0 : Int32) = 0 ∨ (0 : Int32) = 1) ∧ Q (some (.int 0)) h)) ∧ ((h 37 a.toInt.toNat) = (-4 : Int32) → (((1 : Int32) = 0 ∨ (1 : Int32) = 1) ∧ Q (some (.int 1)) h)))))
  refine ⟨fun c3 => ?_, fun c4 => ?_⟩
  · exact ⟨Or.inr rfl, hq 1 (by first | omega | exact ⟨Or.inl rfl, fun hc => absurd rfl hc⟩ | exact ⟨Or.inr rfl, fun hc => absurd hc (by decide)⟩ | (refine ⟨Or.inr rfl, fun _ => ?_⟩; omega) | (refine ⟨Or.inl rfl, fun _ => ?_⟩; omega) | (simp; done))⟩
  · have := p2.2 c4
    refine ⟨(by omega), ?_⟩
    refine ⟨fun c5 => ?_, fun c6 => ?_⟩
    · exact ⟨Or.inl rfl, hq 0 (by first | omega | exact ⟨Or.inl rfl, fun hc => absurd rfl hc⟩ | exact ⟨Or.inr rfl, fun hc => absurd hc (by decide)⟩ | (refine ⟨Or.inr rfl, fun _ => ?_⟩; omega) | (refine ⟨Or.inl rfl, fun _ => ?_⟩; omega) | (simp; done))⟩
    · exact ⟨Or.inr rfl, hq 1 (by first | omega | exact ⟨Or.inl rfl, fun hc => absurd rfl hc⟩ | exact ⟨Or.inr rfl, fun hc => absurd hc (by decide)⟩ | (refine ⟨Or.inr rfl, fun _ => ?_⟩; omega) | (refine ⟨Or.inl rfl, fun _ => ?_⟩; omega) | (simp; done))⟩
-- ThreadBank$Sheets.hasCell(II)Z
set_option maxRecDepth 100000 in
set_option maxHeartbeats 4000000 in
theorem sf_68_34 (X : qm_X) (h : qm_H) (a : Int32) (b : Int32) (hp : True) (Q : qm_Q) (hq : ∀ r : Int32, ((r = 0 ∨ r = 1) ∧ (¬ r = 0 → (0 ≤ a.toInt ∧ a.toInt < 4) ∧ 0 ≤ b.toInt ∧ b.toInt < (h 37 a.toInt.toNat).toInt)) → Q (some (.int r)) h) : qm_PW X 68 [.ref 34, .int a, .int b] h Q := by
  refine qm_seg_ok (C := qc_68) (rt := some .boolean) rfl rfl (cuts := []) 400 _ _ _ _ ?_
  show qm_PW X 67 [.ref 34, .int a] h _
  refine sf_67_34 X h a trivial _ (fun r1 p2 => ?_)
  show (¬ r1 = 0 → (((0 : Int32) = 0 ∨ (0 : Int32) = 1) ∧ Q (some (.int 0)) h)) ∧ (r1 = 0 → ((b.toInt < 0 → (((0 : Int32) = 0 ∨ (0 : Int32) = 1) ∧ Q (some (.int 0)) h)) ∧ (0 ≤ b.toInt → ((0 ≤ a.toInt ∧ a.toInt < 4) ∧ (((h 37 a.toInt.toNat).toInt ≤ b.toInt → (((0 : Int32) = 0 ∨ (0 : Int32) = 1) ∧ Q (some (.int 0)) h)) ∧ (b.toInt < (h 37 a.toInt.toNat).toInt → (((1 : Int32) = 0 ∨ (1 : Int32) = 1) ∧ Q (some (.int 1)) h)))))))
  refine ⟨fun c3 => ?_, fun c4 => ?_⟩
  · exact ⟨Or.inl rfl, hq 0 (by first | omega | exact ⟨Or.inl rfl, fun hc => absurd rfl hc⟩ | exact ⟨Or.inr rfl, fun hc => absurd hc (by decide)⟩ | (refine ⟨Or.inr rfl, fun _ => ?_⟩; omega) | (refine ⟨Or.inl rfl, fun _ => ?_⟩; omega) | (simp; done))⟩
  · have := p2.2 c4
    refine ⟨fun c5 => ?_, fun c6 => ?_⟩
    · exact ⟨Or.inl rfl, hq 0 (by first | omega | exact ⟨Or.inl rfl, fun hc => absurd rfl hc⟩ | exact ⟨Or.inr rfl, fun hc => absurd hc (by decide)⟩ | (refine ⟨Or.inr rfl, fun _ => ?_⟩; omega) | (refine ⟨Or.inl rfl, fun _ => ?_⟩; omega) | (simp; done))⟩
    · refine ⟨(by omega), ?_⟩
      refine ⟨fun c7 => ?_, fun c8 => ?_⟩
      · exact ⟨Or.inl rfl, hq 0 (by first | omega | exact ⟨Or.inl rfl, fun hc => absurd rfl hc⟩ | exact ⟨Or.inr rfl, fun hc => absurd hc (by decide)⟩ | (refine ⟨Or.inr rfl, fun _ => ?_⟩; omega) | (refine ⟨Or.inl rfl, fun _ => ?_⟩; omega) | (simp; done))⟩
      · exact ⟨Or.inr rfl, hq 1 (by first | omega | exact ⟨Or.inl rfl, fun hc => absurd rfl hc⟩ | exact ⟨Or.inr rfl, fun hc => absurd hc (by decide)⟩ | (refine ⟨Or.inr rfl, fun _ => ?_⟩; omega) | (refine ⟨Or.inl rfl, fun _ => ?_⟩; omega) | (simp; done))⟩
-- ThreadBank$Sheets.cell(II)I
set_option maxRecDepth 100000 in
set_option maxHeartbeats 4000000 in
theorem sf_69_34 (X : qm_X) (h : qm_H) (a : Int32) (b : Int32) (hp : sq h) (Q : qm_Q) (hq : ∀ r : Int32, (True) → Q (some (.int r)) h) : qm_PW X 69 [.ref 34, .int a, .int b] h Q := by
  have hmsq : sq h := hp
  refine qm_seg_ok (C := qc_69) (rt := some .int) rfl rfl (cuts := []) 400 _ _ _ _ ?_
  show qm_PW X 68 [.ref 34, .int a, .int b] h _
  refine sf_68_34 X h a b trivial _ (fun r1 p2 => ?_)
  show (r1 = 0 → (Q (some (.int 0)) h)) ∧ (¬ r1 = 0 → ((0 ≤ ((40 * a) + b).toInt ∧ ((40 * a) + b).toInt < 160) ∧ (Q (some (.int (h 35 ((40 * a) + b).toInt.toNat))) h)))
  refine ⟨fun c3 => ?_, fun c4 => ?_⟩
  · exact hq 0 trivial
  · have := p2.2 c4
    refine ⟨(by have := hmsq (a.toInt.toNat); have := ti_mulL (40 : Int32) 40 rfl a; have := ti_add (40 * a) b; omega), ?_⟩
    exact hq (h 35 ((40 * a) + b).toInt.toNat) trivial
-- ThreadBank$Sheets.renew(III)V
set_option maxRecDepth 100000 in
set_option maxHeartbeats 4000000 in
theorem sf_70_34_c (X : qm_X) (h : qm_H) (a : Int32) (b : Int32) (c : Int32) (hp : sq h) (Q : qm_Q) (hq : ∀ h' : qm_H, (sq h' ∧ (∀ k, (k < 35 ∨ 37 < k) → h' k = h k)) → Q none h') : ∀ n : Nat, (∀ (l4 : Int32) (g : qm_H), ((0 ≤ l4.toInt ∧ l4.toInt ≤ 40 ∧ 0 ≤ a.toInt ∧ a.toInt < 4 ∧ 0 ≤ c.toInt ∧ c.toInt ≤ 40) ∧ sq g ∧ ∀ k, (k < 35 ∨ 37 < k) → g k = h k) → (40 - l4.toInt).toNat < n → qm_PA X 70 20 [(0, .ref 34), (1, .int a), (2, .int b), (3, .int c), (4, .int l4)] [] g Q) := by
  have hmsq : sq h := hp
  intro n
  induction n with
  | zero => exact fun _ _ _ h0 => absurd h0 (Nat.not_lt_zero _)
  | succ n ih =>
    intro l4 g hi hr
    obtain ⟨hi0, hgsq, hgf⟩ := hi
    refine qm_seg_ok (C := qc_70) (rt := none) rfl rfl (cuts := [(20, [0, 1, 2, 3, 4])]) 400 _ _ _ _ ?_
    show (c.toInt ≤ l4.toInt → ((0 ≤ a.toInt ∧ a.toInt < 4) ∧ ((0 ≤ a.toInt ∧ a.toInt < 4) ∧ (Q none (qm_row (qm_row g 36 (upd (g 36) a.toInt.toNat b)) 37 (upd (g 37) a.toInt.toNat c)))))) ∧ (l4.toInt < c.toInt → ((0 ≤ ((40 * a) + l4).toInt ∧ ((40 * a) + l4).toInt < 160) ∧ (qm_PA X 70 20 [(0, .ref 34), (1, .int a), (2, .int b), (3, .int c), (4, .int (l4 + 1))] [] (qm_row g 35 (upd (g 35) ((40 * a) + l4).toInt.toNat 0)) Q)))
    refine ⟨fun c1 => ?_, fun c2 => ?_⟩
    · refine ⟨(by omega), ?_⟩
      refine ⟨(by omega), ?_⟩
      exact hq (qm_row (qm_row g 36 (upd (g 36) a.toInt.toNat b)) 37 (upd (g 37) a.toInt.toNat c)) ⟨(by intro j; show (upd _ _ _ j).toInt ≤ 40; unfold upd; (split <;> first | omega | exact hgsq j)), (fun k hk => by simp only [qm_row]; rw [if_neg (by omega)]; rw [if_neg (by omega)]; exact hgf k hk)⟩
    · refine ⟨(by have := ti_mulL (40 : Int32) 40 rfl a; have := ti_add (40 * a) l4; omega), ?_⟩
      exact ih (l4 + 1) (qm_row g 35 (upd (g 35) ((40 * a) + l4).toInt.toNat 0)) ⟨(by have := ti_addK l4 (1 : Int32) 1 rfl; show 0 ≤ (l4 + 1).toInt ∧ (l4 + 1).toInt ≤ 40 ∧ 0 ≤ a.toInt ∧ a.toInt < 4 ∧ 0 ≤ c.toInt ∧ c.toInt ≤ 40; omega), (by exact hgsq), (fun k hk => by simp only [qm_row]; rw [if_neg (by omega)]; exact hgf k hk)⟩ (by have := ti_addK l4 (1 : Int32) 1 rfl; show (40 - (l4 + 1).toInt).toNat < n; omega)
set_option maxRecDepth 100000 in
set_option maxHeartbeats 4000000 in
theorem sf_70_34 (X : qm_X) (h : qm_H) (a : Int32) (b : Int32) (c : Int32) (hp : sq h) (Q : qm_Q) (hq : ∀ h' : qm_H, (sq h' ∧ (∀ k, (k < 35 ∨ 37 < k) → h' k = h k)) → Q none h') : qm_PW X 70 [.ref 34, .int a, .int b, .int c] h Q := by
  have hmsq : sq h := hp
  refine qm_seg_ok (C := qc_70) (rt := none) rfl rfl (cuts := [(20, [0, 1, 2, 3, 4])]) 400 _ _ _ _ ?_
  show qm_PW X 65 [.int a] h _
  refine sf_65 X h a trivial _ (fun r1 p2 => ?_)
  show (r1 = 0 → (Q none h)) ∧ (¬ r1 = 0 → ((c.toInt < 0 → (Q none h)) ∧ (0 ≤ c.toInt → ((40 < c.toInt → (Q none h)) ∧ (c.toInt ≤ 40 → (qm_PA X 70 20 [(0, .ref 34), (1, .int a), (2, .int b), (3, .int c), (4, .int 0)] [] h Q))))))
  refine ⟨fun c3 => ?_, fun c4 => ?_⟩
  · exact hq h ⟨hmsq, (fun k hk => rfl)⟩
  · have := p2.2 c4
    refine ⟨fun c5 => ?_, fun c6 => ?_⟩
    · exact hq h ⟨hmsq, (fun k hk => rfl)⟩
    · refine ⟨fun c7 => ?_, fun c8 => ?_⟩
      · exact hq h ⟨hmsq, (fun k hk => rfl)⟩
      · exact (sf_70_34_c X h a b c hp Q hq _) (0 : Int32) h ⟨(by have : (0 : Int32).toInt = 0 := rfl; show 0 ≤ (0 : Int32).toInt ∧ (0 : Int32).toInt ≤ 40 ∧ 0 ≤ a.toInt ∧ a.toInt < 4 ∧ 0 ≤ c.toInt ∧ c.toInt ≤ 40; omega), hmsq, (fun k hk => rfl)⟩ (Nat.lt_succ_self _)
-- ThreadBank$Sheets.lowestBits(II)I
set_option maxRecDepth 100000 in
set_option maxHeartbeats 4000000 in
theorem sf_72 (X : qm_X) (h : qm_H) (a : Int32) (b : Int32) (hp : True) (Q : qm_Q) (hq : ∀ r : Int32, (True) → Q (some (.int r)) h) : qm_PW X 72 [.int a, .int b] h Q := by
  refine qm_seg_ok (C := qc_72) (rt := some .int) rfl rfl (cuts := []) 400 _ _ _ _ ?_
  show ((a = 0 → (Q (some (.int ((Int32.toInt8 b).toInt32))) h)) ∧ (¬ a = 0 → ((a = 1 → (Q (some (.int ((Int32.toInt16 b).toInt32))) h)) ∧ (¬ a = 1 → (Q (some (.int b)) h)))))
  refine ⟨fun c1 => ?_, fun c2 => ?_⟩
  · exact hq ((Int32.toInt8 b).toInt32) trivial
  · refine ⟨fun c3 => ?_, fun c4 => ?_⟩
    · exact hq ((Int32.toInt16 b).toInt32) trivial
    · exact hq b trivial
-- ThreadBank$Sheets.write(III)V
set_option maxRecDepth 100000 in
set_option maxHeartbeats 4000000 in
theorem sf_71_34 (X : qm_X) (h : qm_H) (a : Int32) (b : Int32) (c : Int32) (hp : sq h) (Q : qm_Q) (hq : ∀ h' : qm_H, ((∀ k, (k < 35 ∨ 35 < k) → h' k = h k)) → Q none h') : qm_PW X 71 [.ref 34, .int a, .int b, .int c] h Q := by
  have hmsq : sq h := hp
  refine qm_seg_ok (C := qc_71) (rt := none) rfl rfl (cuts := []) 400 _ _ _ _ ?_
  show qm_PW X 68 [.ref 34, .int a, .int b] h _
  refine sf_68_34 X h a b trivial _ (fun r1 p2 => ?_)
  show (r1 = 0 → (Q none h)) ∧ (¬ r1 = 0 → ((0 ≤ a.toInt ∧ a.toInt < 4) ∧ (qm_PW X 72 [.int (h 36 a.toInt.toNat), .int c] h _)))
  refine ⟨fun c3 => ?_, fun c4 => ?_⟩
  · exact hq h (fun k hk => rfl)
  · have := p2.2 c4
    refine ⟨(by have := hmsq (a.toInt.toNat); omega), ?_⟩
    refine sf_72 X h (h 36 a.toInt.toNat) c trivial _ (fun r5 p6 => ?_)
    show (0 ≤ ((40 * a) + b).toInt ∧ ((40 * a) + b).toInt < 160) ∧ (Q none (qm_row h 35 (upd (h 35) ((40 * a) + b).toInt.toNat r5)))
    refine ⟨(by have := hmsq (a.toInt.toNat); have := ti_mulL (40 : Int32) 40 rfl a; have := ti_add (40 * a) b; omega), ?_⟩
    exact hq (qm_row h 35 (upd (h 35) ((40 * a) + b).toInt.toNat r5)) (fun k hk => by simp only [qm_row]; rw [if_neg (by omega)])
-- ThreadBank$Sheets.faultAsOf(II)I
set_option maxRecDepth 100000 in
set_option maxHeartbeats 4000000 in
theorem sf_73_34 (X : qm_X) (h : qm_H) (a : Int32) (b : Int32) (hp : True) (Q : qm_Q) (hq : ∀ r : Int32, (True) → Q (some (.int r)) h) : qm_PW X 73 [.ref 34, .int a, .int b] h Q := by
  refine qm_seg_ok (C := qc_73) (rt := some .int) rfl rfl (cuts := []) 400 _ _ _ _ ?_
  show qm_PW X 67 [.ref 34, .int a] h _
  refine sf_67_34 X h a trivial _ (fun r1 p2 => ?_)
  show (¬ r1 = 0 → (Q (some (.int 0)) h)) ∧ (r1 = 0 → ((0 ≤ a.toInt ∧ a.toInt < 4) ∧ ((¬ (h 36 a.toInt.toNat) = b → (Q (some (.int 3)) h)) ∧ ((h 36 a.toInt.toNat) = b → (Q (some (.int 0)) h)))))
  refine ⟨fun c3 => ?_, fun c4 => ?_⟩
  · exact hq 0 trivial
  · have := p2.2 c4
    refine ⟨(by omega), ?_⟩
    refine ⟨fun c5 => ?_, fun c6 => ?_⟩
    · exact hq 3 trivial
    · exact hq 0 trivial
-- ThreadBank$Sheets.faultOfThree(II)I
set_option maxRecDepth 100000 in
set_option maxHeartbeats 4000000 in
theorem sf_74_34 (X : qm_X) (h : qm_H) (a : Int32) (b : Int32) (hp : sq h) (Q : qm_Q) (hq : ∀ r : Int32, (True) → Q (some (.int r)) h) : qm_PW X 74 [.ref 34, .int a, .int b] h Q := by
  have hmsq : sq h := hp
  refine qm_seg_ok (C := qc_74) (rt := some .int) rfl rfl (cuts := []) 400 _ _ _ _ ?_
  show qm_PW X 67 [.ref 34, .int a] h _
  refine sf_67_34 X h a trivial _ (fun r1 p2 => ?_)
  show (r1 = 0 → (qm_PW X 68 [.ref 34, .int a, .int b] h _)) ∧ (¬ r1 = 0 → (Q (some (.int 1)) h))
  refine ⟨fun c3 => ?_, fun c4 => ?_⟩
  · have := p2.2 c3
    refine sf_68_34 X h a b trivial _ (fun r5 p6 => ?_)
    show (r5 = 0 → (Q (some (.int 2)) h)) ∧ (¬ r5 = 0 → (qm_PW X 68 [.ref 34, .int a, .int (b + 1)] h _))
    refine ⟨fun c7 => ?_, fun c8 => ?_⟩
    · exact hq 2 trivial
    · have := p6.2 c8
      refine sf_68_34 X h a (b + 1) trivial _ (fun r9 p10 => ?_)
      show (r9 = 0 → (Q (some (.int 2)) h)) ∧ (¬ r9 = 0 → (qm_PW X 68 [.ref 34, .int a, .int (b + 2)] h _))
      refine ⟨fun c11 => ?_, fun c12 => ?_⟩
      · exact hq 2 trivial
      · have := p10.2 c12
        refine sf_68_34 X h a (b + 2) trivial _ (fun r13 p14 => ?_)
        show (r13 = 0 → (Q (some (.int 2)) h)) ∧ (¬ r13 = 0 → (Q (some (.int 0)) h))
        refine ⟨fun c15 => ?_, fun c16 => ?_⟩
        · exact hq 2 trivial
        · have := p14.2 c16
          exact hq 0 trivial
  · exact hq 1 trivial
