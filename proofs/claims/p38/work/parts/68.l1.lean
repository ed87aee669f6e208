theorem ti_n11 : (-11 : Int32).toInt = -11 := by decide
theorem ti_n12 : (-12 : Int32).toInt = -12 := by decide
theorem ti_n14 : (-14 : Int32).toInt = -14 := by decide
/-- the two sides' sheets: nothing there, or as many cells -/
def rsh (h : qm_H) : Prop := ∀ k : Nat, k < 4 → ((h 37 k).toInt = -4 ∧ (h 48 k).toInt = -4) ∨ (¬ (h 48 k).toInt = -4 ∧ 0 ≤ (h 37 k).toInt ∧ (h 37 k).toInt = (h 49 k).toInt)
def shok (a b c : Int32) : Prop := (0 ≤ a.toInt ∧ a.toInt ≤ 3) ∧ (0 ≤ b.toInt ∧ b.toInt ≤ 2) ∧ 0 ≤ c.toInt ∧ c.toInt ≤ 40
/-- a row behind sheet(a, b, c) that notes x of it -/
def shp (a b c x : Int32) (f f' : Nat → Int32) : Prop := (shok a b c → f' = upd f a.toInt.toNat x) ∧ (¬ shok a b c → f' = f)
theorem shp_no {a b c x : Int32} {f : Nat → Int32} (h : ¬ shok a b c) : shp a b c x f f := ⟨fun k => absurd k h, fun _ => rfl⟩
theorem shp_yes {a b c x : Int32} {f f' : Nat → Int32} (h : shok a b c) (e : f' = upd f a.toInt.toNat x) : shp a b c x f f' := ⟨fun _ => e, fun k => absurd h k⟩
theorem rsh_sheet {h h' : qm_H} {a b c : Int32} (hr : rsh h) (h1 : shp a b c c (h 37) (h' 37)) (h2 : shp a b c b (h 48) (h' 48)) (h3 : shp a b c c (h 49) (h' 49)) : rsh h' := by
  by_cases ok : shok a b c
  · intro k hk
    rw [h1.1 ok, h2.1 ok, h3.1 ok]
    unfold shok at ok
    unfold upd
    by_cases e : k = a.toInt.toNat
    · rw [if_pos e, if_pos e, if_pos e]
      exact Or.inr ⟨by omega, by omega, rfl⟩
    · rw [if_neg e, if_neg e, if_neg e]
      exact hr k hk
  · intro k hk
    rw [h1.2 ok, h2.2 ok, h3.2 ok]
    exact hr k hk
-- ThreadBank$Sheets.isSheet(I)Z
set_option maxRecDepth 100000 in
set_option maxHeartbeats 4000000 in
theorem sg_65 (X : qm_X) (h : qm_H) (a : Int32) (hp : True) (Q : qm_Q) (hq : ∀ r : Int32, ((r = 0 ∨ r = 1) ∧ (¬ r = 0 → 0 ≤ a.toInt ∧ a.toInt < 4) ∧ (r = 0 → a.toInt < 0 ∨ 4 ≤ a.toInt)) → Q (some (.int r)) h) : qm_PW X 65 [.int a] h Q := by
  refine qm_seg_ok (C := qc_65) (rt := some .boolean) rfl rfl (cuts := []) 400 _ _ _ _ ?_
  show (a.toInt < 0 → (((0 : Int32) = 0 ∨ (0 : Int32) = 1) ∧ Q (some (.int 0)) h)) ∧ (0 ≤ a.toInt → ((4 ≤ a.toInt → (((0 : Int32) = 0 ∨ (0 : Int32) = 1) ∧ Q (some (.int 0)) h)) ∧ (a.toInt < 4 → (((1 : Int32) = 0 ∨ (1 : Int32) = 1) ∧ Q (some (.int 1)) h))))
  refine ⟨fun c1 => ?_, fun c2 => ?_⟩
  · exact ⟨Or.inl rfl, hq 0 (by first | exact ⟨Or.inl rfl, fun hc => absurd rfl hc, fun _ => by omega⟩ | exact ⟨Or.inr rfl, fun _ => by omega, fun hc => absurd hc (by decide)⟩)⟩
  · refine ⟨fun c3 => ?_, fun c4 => ?_⟩
    · exact ⟨Or.inl rfl, hq 0 (by first | exact ⟨Or.inl rfl, fun hc => absurd rfl hc, fun _ => by omega⟩ | exact ⟨Or.inr rfl, fun _ => by omega, fun hc => absurd hc (by decide)⟩)⟩
    · exact ⟨Or.inr rfl, hq 1 (by first | exact ⟨Or.inl rfl, fun hc => absurd rfl hc, fun _ => by omega⟩ | exact ⟨Or.inr rfl, fun _ => by omega, fun hc => absurd hc (by decide)⟩)⟩
-- ThreadBank$Sheets.isLane(I)Z
set_option maxRecDepth 100000 in
set_option maxHeartbeats 4000000 in
theorem sg_66 (X : qm_X) (h : qm_H) (a : Int32) (hp : True) (Q : qm_Q) (hq : ∀ r : Int32, ((r = 0 ∨ r = 1) ∧ (¬ r = 0 → 0 ≤ a.toInt ∧ a.toInt < 3) ∧ (r = 0 → a.toInt < 0 ∨ 3 ≤ a.toInt)) → Q (some (.int r)) h) : qm_PW X 66 [.int a] h Q := by
  refine qm_seg_ok (C := qc_66) (rt := some .boolean) rfl rfl (cuts := []) 400 _ _ _ _ ?_
  show (a.toInt < 0 → (((0 : Int32) = 0 ∨ (0 : Int32) = 1) ∧ Q (some (.int 0)) h)) ∧ (0 ≤ a.toInt → ((3 ≤ a.toInt → (((0 : Int32) = 0 ∨ (0 : Int32) = 1) ∧ Q (some (.int 0)) h)) ∧ (a.toInt < 3 → (((1 : Int32) = 0 ∨ (1 : Int32) = 1) ∧ Q (some (.int 1)) h))))
  refine ⟨fun c1 => ?_, fun c2 => ?_⟩
  · exact ⟨Or.inl rfl, hq 0 (by first | exact ⟨Or.inl rfl, fun hc => absurd rfl hc, fun _ => by omega⟩ | exact ⟨Or.inr rfl, fun _ => by omega, fun hc => absurd hc (by decide)⟩)⟩
  · refine ⟨fun c3 => ?_, fun c4 => ?_⟩
    · exact ⟨Or.inl rfl, hq 0 (by first | exact ⟨Or.inl rfl, fun hc => absurd rfl hc, fun _ => by omega⟩ | exact ⟨Or.inr rfl, fun _ => by omega, fun hc => absurd hc (by decide)⟩)⟩
    · exact ⟨Or.inr rfl, hq 1 (by first | exact ⟨Or.inl rfl, fun hc => absurd rfl hc, fun _ => by omega⟩ | exact ⟨Or.inr rfl, fun _ => by omega, fun hc => absurd hc (by decide)⟩)⟩
-- ThreadBank$Sheets.isNothing(I)Z
set_option maxRecDepth 100000 in
set_option maxHeartbeats 4000000 in
theorem sg_67 (X : qm_X) (h : qm_H) (a : Int32) (hp : True) (Q : qm_Q) (hq : ∀ r : Int32, ((r = 0 ∨ r = 1) ∧ (¬ r = 0 → (a.toInt < 0 ∨ 4 ≤ a.toInt) ∨ (h 37 a.toInt.toNat).toInt = -4) ∧ (r = 0 → (0 ≤ a.toInt ∧ a.toInt < 4) ∧ ¬ (h 37 a.toInt.toNat).toInt = -4)) → Q (some (.int r)) h) : qm_PW X 67 [.ref 34, .int a] h Q := by
  refine qm_seg_ok (C := qc_67) (rt := some .boolean) rfl rfl (cuts := []) 400 _ _ _ _ ?_
  show qm_PW X 65 [.int a] h _
  refine sg_65 X h a trivial _ (fun r1 p2 => ?_)
  show (r1 = 0 → (((1 : Int32) = 0 ∨ (1 : Int32) = 1) ∧ Q (some (.int 1)) h)) ∧ (¬ r1 = 0 → ((0 ≤ a.toInt ∧ a.toInt < 4) ∧ ((¬ (h 37 a.toInt.toNat) = (-4 : Int32) → (((0 : Int32) = 0 ∨ (0 : Int32) = 1) ∧ Q (some (.int 0)) h)) ∧ ((h 37 a.toInt.toNat) = (-4 : Int32) → (((1 : Int32) = 0 ∨ (1 : Int32) = 1) ∧ Q (some (.int 1)) h)))))
  refine ⟨fun c3 => ?_, fun c4 => ?_⟩
  · have := p2.2.2 c3
    have := ti_eqK 0 rfl c3
    exact ⟨Or.inr rfl, hq 1 (by first | exact ⟨Or.inl rfl, fun hc => absurd rfl hc, fun _ => by omega⟩ | exact ⟨Or.inr rfl, fun _ => by omega, fun hc => absurd hc (by decide)⟩)⟩
  · have := p2.2.1 c4
    have := ti_neK 0 rfl c4
    refine ⟨(by omega), ?_⟩
    refine ⟨fun c5 => ?_, fun c6 => ?_⟩
    · have := ti_neK (-4) ti_n4 c5
      exact ⟨Or.inl rfl, hq 0 (by first | exact ⟨Or.inl rfl, fun hc => absurd rfl hc, fun _ => by omega⟩ | exact ⟨Or.inr rfl, fun _ => by omega, fun hc => absurd hc (by decide)⟩)⟩
    · have := ti_eqK (-4) ti_n4 c6
      exact ⟨Or.inr rfl, hq 1 (by first | exact ⟨Or.inl rfl, fun hc => absurd rfl hc, fun _ => by omega⟩ | exact ⟨Or.inr rfl, fun _ => by omega, fun hc => absurd hc (by decide)⟩)⟩
-- ThreadBank$Sheets.hasCell(II)Z
set_option maxRecDepth 100000 in
set_option maxHeartbeats 4000000 in
theorem sg_68 (X : qm_X) (h : qm_H) (a : Int32) (b : Int32) (hp : True) (Q : qm_Q) (hq : ∀ r : Int32, ((r = 0 ∨ r = 1) ∧ (¬ r = 0 → (0 ≤ a.toInt ∧ a.toInt < 4) ∧ (0 ≤ b.toInt ∧ b.toInt < (h 37 a.toInt.toNat).toInt) ∧ ¬ (h 37 a.toInt.toNat).toInt = -4) ∧ (r = 0 → (a.toInt < 0 ∨ 4 ≤ a.toInt) ∨ (h 37 a.toInt.toNat).toInt = -4 ∨ b.toInt < 0 ∨ (h 37 a.toInt.toNat).toInt ≤ b.toInt)) → Q (some (.int r)) h) : qm_PW X 68 [.ref 34, .int a, .int b] h Q := by
  refine qm_seg_ok (C := qc_68) (rt := some .boolean) rfl rfl (cuts := []) 400 _ _ _ _ ?_
  show qm_PW X 67 [.ref 34, .int a] h _
  refine sg_67 X h a trivial _ (fun r1 p2 => ?_)
  show (¬ r1 = 0 → (((0 : Int32) = 0 ∨ (0 : Int32) = 1) ∧ Q (some (.int 0)) h)) ∧ (r1 = 0 → ((b.toInt < 0 → (((0 : Int32) = 0 ∨ (0 : Int32) = 1) ∧ Q (some (.int 0)) h)) ∧ (0 ≤ b.toInt → ((0 ≤ a.toInt ∧ a.toInt < 4) ∧ (((h 37 a.toInt.toNat).toInt ≤ b.toInt → (((0 : Int32) = 0 ∨ (0 : Int32) = 1) ∧ Q (some (.int 0)) h)) ∧ (b.toInt < (h 37 a.toInt.toNat).toInt → (((1 : Int32) = 0 ∨ (1 : Int32) = 1) ∧ Q (some (.int 1)) h)))))))
  refine ⟨fun c3 => ?_, fun c4 => ?_⟩
  · have := p2.2.1 c3
    have := ti_neK 0 rfl c3
    exact ⟨Or.inl rfl, hq 0 (by first | exact ⟨Or.inl rfl, fun hc => absurd rfl hc, fun _ => by omega⟩ | exact ⟨Or.inr rfl, fun _ => by omega, fun hc => absurd hc (by decide)⟩)⟩
  · have := p2.2.2 c4
    have := ti_eqK 0 rfl c4
    refine ⟨fun c5 => ?_, fun c6 => ?_⟩
    · exact ⟨Or.inl rfl, hq 0 (by first | exact ⟨Or.inl rfl, fun hc => absurd rfl hc, fun _ => by omega⟩ | exact ⟨Or.inr rfl, fun _ => by omega, fun hc => absurd hc (by decide)⟩)⟩
    · refine ⟨(by omega), ?_⟩
      refine ⟨fun c7 => ?_, fun c8 => ?_⟩
      · exact ⟨Or.inl rfl, hq 0 (by first | exact ⟨Or.inl rfl, fun hc => absurd rfl hc, fun _ => by omega⟩ | exact ⟨Or.inr rfl, fun _ => by omega, fun hc => absurd hc (by decide)⟩)⟩
      · exact ⟨Or.inr rfl, hq 1 (by first | exact ⟨Or.inl rfl, fun hc => absurd rfl hc, fun _ => by omega⟩ | exact ⟨Or.inr rfl, fun _ => by omega, fun hc => absurd hc (by decide)⟩)⟩
-- ThreadBank.lay(III)I
set_option maxRecDepth 100000 in
set_option maxHeartbeats 4000000 in
theorem sg_126 (X : qm_X) (h : qm_H) (a : Int32) (b : Int32) (c : Int32) (hp : mq 1 h ∧ mq 8 h ∧ mq 15 h ∧ sq h) (Q : qm_Q) (hq : ∀ r : Int32, ∀ h' : qm_H, (mq 1 h' ∧ mq 8 h' ∧ mq 15 h' ∧ sq h' ∧ (∀ k, (k < 35 ∨ 35 < k) → h' k = h k) ∧ ((r.toInt = -1 ∧ (a.toInt < 0 ∨ 4 ≤ a.toInt)) ∨ (r.toInt = -11 ∧ (0 ≤ a.toInt ∧ a.toInt < 4) ∧ (h 37 a.toInt.toNat).toInt = -4) ∨ (r.toInt = -12 ∧ (0 ≤ a.toInt ∧ a.toInt < 4) ∧ ¬ (h 37 a.toInt.toNat).toInt = -4 ∧ (b.toInt < 0 ∨ (h 37 a.toInt.toNat).toInt ≤ b.toInt)) ∨ (r.toInt = 1 ∧ (0 ≤ a.toInt ∧ a.toInt < 4) ∧ ¬ (h 37 a.toInt.toNat).toInt = -4 ∧ 0 ≤ b.toInt ∧ b.toInt < (h 37 a.toInt.toNat).toInt))) → Q (some (.int r)) h') : qm_PW X 126 [.ref 0, .int a, .int b, .int c] h Q := by
  have hm1 : mq 1 h := hp.1
  have ⟨⟨_, _⟩, ⟨_, _⟩, _, _⟩ := hm1
  have hm8 : mq 8 h := hp.2.1
  have ⟨⟨_, _⟩, ⟨_, _⟩, _, _⟩ := hm8
  have hm15 : mq 15 h := hp.2.2.1
  have ⟨⟨_, _⟩, ⟨_, _⟩, _, _⟩ := hm15
  have hmsq : sq h := hp.2.2.2
  refine qm_seg_ok (C := qc_126) (rt := some .int) rfl rfl (cuts := []) 400 _ _ _ _ ?_
  show qm_PW X 65 [.int a] h _
  refine sg_65 X h a trivial _ (fun r1 p2 => ?_)
  show (¬ r1 = 0 → (qm_PW X 67 [.ref 34, .int a] h _)) ∧ (r1 = 0 → (Q (some (.int (-1 : Int32))) h))
  refine ⟨fun c3 => ?_, fun c4 => ?_⟩
  · have := p2.2.1 c3
    refine sg_67 X h a trivial _ (fun r5 p6 => ?_)
    show (r5 = 0 → (qm_PW X 68 [.ref 34, .int a, .int b] h _)) ∧ (¬ r5 = 0 → (Q (some (.int (-11 : Int32))) h))
    refine ⟨fun c7 => ?_, fun c8 => ?_⟩
    · have := p6.2.2 c7
      refine sg_68 X h a b trivial _ (fun r9 p10 => ?_)
      show (¬ r9 = 0 → (qm_PW X 71 [.ref 34, .int a, .int b, .int c] h _)) ∧ (r9 = 0 → (Q (some (.int (-12 : Int32))) h))
      refine ⟨fun c11 => ?_, fun c12 => ?_⟩
      · have := p10.2.1 c11
        refine sf_71_34 X h a b c hmsq _ (fun g13 p14 => ?_)
        have f15 : ∀ k, (k < 35 ∨ 35 < k) → g13 k = h k := fun k hk => (p14 k (by omega)).trans (rfl)
        have k16 : mq 1 g13 := by unfold mq; rw [p14 1 (by omega)]; exact hm1
        have k17 : mq 8 g13 := by unfold mq; rw [p14 8 (by omega)]; exact hm8
        have k18 : mq 15 g13 := by unfold mq; rw [p14 15 (by omega)]; exact hm15
        have k19 : sq g13 := by unfold sq; rw [p14 37 (by omega)]; exact hmsq
        show Q (some (.int 1)) g13
        exact hq 1 g13 ⟨k16, k17, k18, k19, (fun k hk => f15 k hk), (by have := hmsq (a.toInt.toNat); have : (1 : Int32).toInt = 1 := rfl; show ((1 : Int32).toInt = -1 ∧ (a.toInt < 0 ∨ 4 ≤ a.toInt)) ∨ ((1 : Int32).toInt = -11 ∧ (0 ≤ a.toInt ∧ a.toInt < 4) ∧ (h 37 a.toInt.toNat).toInt = -4) ∨ ((1 : Int32).toInt = -12 ∧ (0 ≤ a.toInt ∧ a.toInt < 4) ∧ ¬ (h 37 a.toInt.toNat).toInt = -4 ∧ (b.toInt < 0 ∨ (h 37 a.toInt.toNat).toInt ≤ b.toInt)) ∨ ((1 : Int32).toInt = 1 ∧ (0 ≤ a.toInt ∧ a.toInt < 4) ∧ ¬ (h 37 a.toInt.toNat).toInt = -4 ∧ 0 ≤ b.toInt ∧ b.toInt < (h 37 a.toInt.toNat).toInt); omega)⟩
      · have := p10.2.2 c12
        exact hq (-12 : Int32) h ⟨hm1, hm8, hm15, hmsq, (fun k hk => rfl), (by have := hmsq (a.toInt.toNat); show ((-12 : Int32).toInt = -1 ∧ (a.toInt < 0 ∨ 4 ≤ a.toInt)) ∨ ((-12 : Int32).toInt = -11 ∧ (0 ≤ a.toInt ∧ a.toInt < 4) ∧ (h 37 a.toInt.toNat).toInt = -4) ∨ ((-12 : Int32).toInt = -12 ∧ (0 ≤ a.toInt ∧ a.toInt < 4) ∧ ¬ (h 37 a.toInt.toNat).toInt = -4 ∧ (b.toInt < 0 ∨ (h 37 a.toInt.toNat).toInt ≤ b.toInt)) ∨ ((-12 : Int32).toInt = 1 ∧ (0 ≤ a.toInt ∧ a.toInt < 4) ∧ ¬ (h 37 a.toInt.toNat).toInt = -4 ∧ 0 ≤ b.toInt ∧ b.toInt < (h 37 a.toInt.toNat).toInt); rw [ti_n12]; omega)⟩
    · have := p6.2.1 c8
      exact hq (-11 : Int32) h ⟨hm1, hm8, hm15, hmsq, (fun k hk => rfl), (by have := hmsq (a.toInt.toNat); show ((-11 : Int32).toInt = -1 ∧ (a.toInt < 0 ∨ 4 ≤ a.toInt)) ∨ ((-11 : Int32).toInt = -11 ∧ (0 ≤ a.toInt ∧ a.toInt < 4) ∧ (h 37 a.toInt.toNat).toInt = -4) ∨ ((-11 : Int32).toInt = -12 ∧ (0 ≤ a.toInt ∧ a.toInt < 4) ∧ ¬ (h 37 a.toInt.toNat).toInt = -4 ∧ (b.toInt < 0 ∨ (h 37 a.toInt.toNat).toInt ≤ b.toInt)) ∨ ((-11 : Int32).toInt = 1 ∧ (0 ≤ a.toInt ∧ a.toInt < 4) ∧ ¬ (h 37 a.toInt.toNat).toInt = -4 ∧ 0 ≤ b.toInt ∧ b.toInt < (h 37 a.toInt.toNat).toInt); rw [ti_n11]; omega)⟩
  · have := p2.2.2 c4
    exact hq (-1 : Int32) h ⟨hm1, hm8, hm15, hmsq, (fun k hk => rfl), (by have := hmsq (a.toInt.toNat); show ((-1 : Int32).toInt = -1 ∧ (a.toInt < 0 ∨ 4 ≤ a.toInt)) ∨ ((-1 : Int32).toInt = -11 ∧ (0 ≤ a.toInt ∧ a.toInt < 4) ∧ (h 37 a.toInt.toNat).toInt = -4) ∨ ((-1 : Int32).toInt = -12 ∧ (0 ≤ a.toInt ∧ a.toInt < 4) ∧ ¬ (h 37 a.toInt.toNat).toInt = -4 ∧ (b.toInt < 0 ∨ (h 37 a.toInt.toNat).toInt ≤ b.toInt)) ∨ ((-1 : Int32).toInt = 1 ∧ (0 ≤ a.toInt ∧ a.toInt < 4) ∧ ¬ (h 37 a.toInt.toNat).toInt = -4 ∧ 0 ≤ b.toInt ∧ b.toInt < (h 37 a.toInt.toNat).toInt); rw [ti_n1]; omega)⟩
-- ThreadBankModel.isSheet(II)Z
set_option maxRecDepth 100000 in
set_option maxHeartbeats 4000000 in
theorem sg_233 (X : qm_X) (h : qm_H) (a : Int32) (b : Int32) (hp : True) (Q : qm_Q) (hq : ∀ r : Int32, ((r = 0 ∨ r = 1) ∧ (¬ r = 0 → 0 ≤ a.toInt ∧ a.toInt ≤ 3 ∧ 0 ≤ b.toInt ∧ b.toInt ≤ 2) ∧ (r = 0 → (a.toInt < 0 ∨ 3 < a.toInt) ∨ (b.toInt < 0 ∨ 2 < b.toInt))) → Q (some (.int r)) h) : qm_PW X 233 [.int a, .int b] h Q := by
  refine qm_seg_ok (C := qc_233) (rt := some .boolean) rfl rfl (cuts := []) 400 _ _ _ _ ?_
  show qm_PW X 141 [.long (Int32.toInt64 a), .long 0, .long 3] h _
  refine sf_141 X h ((Int32.toInt64 a) : Int64) (0 : Int64) (3 : Int64) trivial _ (fun r1 p2 => ?_)
  show (r1 = 0 → (((0 : Int32) = 0 ∨ (0 : Int32) = 1) ∧ Q (some (.int 0)) h)) ∧ (¬ r1 = 0 → (qm_PW X 141 [.long (Int32.toInt64 b), .long 0, .long 2] h _))
  refine ⟨fun c3 => ?_, fun c4 => ?_⟩
  · have := p2.2.2 c3
    exact ⟨Or.inl rfl, hq 0 (by have : (0 : Int64).toInt = 0 := rfl; have : (3 : Int64).toInt = 3 := rfl; have := i64 a; first | exact ⟨Or.inl rfl, fun hc => absurd rfl hc, fun _ => by omega⟩ | exact ⟨Or.inr rfl, fun _ => by omega, fun hc => absurd hc (by decide)⟩)⟩
  · have := p2.2.1 c4
    refine sf_141 X h ((Int32.toInt64 b) : Int64) (0 : Int64) (2 : Int64) trivial _ (fun r5 p6 => ?_)
    show (r5 = 0 → (((0 : Int32) = 0 ∨ (0 : Int32) = 1) ∧ Q (some (.int 0)) h)) ∧ (¬ r5 = 0 → (((1 : Int32) = 0 ∨ (1 : Int32) = 1) ∧ Q (some (.int 1)) h))
    refine ⟨fun c7 => ?_, fun c8 => ?_⟩
    · have := p6.2.2 c7
      exact ⟨Or.inl rfl, hq 0 (by have : (0 : Int64).toInt = 0 := rfl; have : (3 : Int64).toInt = 3 := rfl; have := i64 a; have : (2 : Int64).toInt = 2 := rfl; have := i64 b; first | exact ⟨Or.inl rfl, fun hc => absurd rfl hc, fun _ => by omega⟩ | exact ⟨Or.inr rfl, fun _ => by omega, fun hc => absurd hc (by decide)⟩)⟩
    · have := p6.2.1 c8
      exact ⟨Or.inr rfl, hq 1 (by have : (0 : Int64).toInt = 0 := rfl; have : (3 : Int64).toInt = 3 := rfl; have := i64 a; have : (2 : Int64).toInt = 2 := rfl; have := i64 b; first | exact ⟨Or.inl rfl, fun hc => absurd rfl hc, fun _ => by omega⟩ | exact ⟨Or.inr rfl, fun _ => by omega, fun hc => absurd hc (by decide)⟩)⟩
-- ThreadBankModel.lay(III)I
set_option maxRecDepth 100000 in
set_option maxHeartbeats 4000000 in
theorem sg_235 (X : qm_X) (h : qm_H) (a : Int32) (b : Int32) (c : Int32) (hp : mi h ∧ sm h ∧ zs h ∧ rw_ h) (Q : qm_Q) (hq : ∀ r : Int32, ∀ h' : qm_H, (mi h' ∧ sm h' ∧ zs h' ∧ rw_ h' ∧ (∀ k, (k < 50 ∨ 50 < k) → h' k = h k) ∧ ((r.toInt = -1 ∧ (a.toInt < 0 ∨ 4 ≤ a.toInt)) ∨ (r.toInt = -11 ∧ (0 ≤ a.toInt ∧ a.toInt < 4) ∧ (h 48 a.toInt.toNat).toInt = -4) ∨ (r.toInt = -12 ∧ (0 ≤ a.toInt ∧ a.toInt < 4) ∧ ¬ (h 48 a.toInt.toNat).toInt = -4 ∧ (b.toInt < 0 ∨ (h 49 a.toInt.toNat).toInt ≤ b.toInt)) ∨ (r.toInt = 1 ∧ (0 ≤ a.toInt ∧ a.toInt < 4) ∧ ¬ (h 48 a.toInt.toNat).toInt = -4 ∧ 0 ≤ b.toInt ∧ b.toInt < (h 49 a.toInt.toNat).toInt))) → Q (some (.int r)) h') : qm_PW X 235 [.ref 39, .int a, .int b, .int c] h Q := by
  have hmmi : mi h := hp.1
  have ⟨⟨_, _⟩, ⟨_, _⟩, ⟨_, _⟩, ⟨_, _⟩, _, _⟩ := hmmi
  have hmsm : sm h := hp.2.1
  have ⟨⟨⟨_, _⟩, _, _⟩, _, _, _⟩ := hmsm
  have hmzs : zs h := hp.2.2.1
  have hmrw : rw_ h := hp.2.2.2
  refine qm_seg_ok (C := qc_235) (rt := some .int) rfl rfl (cuts := []) 400 _ _ _ _ ?_
  show qm_PW X 233 [.int a, .int 0] h _
  refine sg_233 X h a (0 : Int32) trivial _ (fun r1 p2 => ?_)
  show (¬ r1 = 0 → ((0 ≤ a.toInt ∧ a.toInt < 4) ∧ ((¬ (h 48 a.toInt.toNat) = (-4 : Int32) → ((0 ≤ a.toInt ∧ a.toInt < 4) ∧ (qm_PW X 141 [.long (Int32.toInt64 b), .long 0, .long (Int32.toInt64 ((h 49 a.toInt.toNat) - 1))] h _))) ∧ ((h 48 a.toInt.toNat) = (-4 : Int32) → (Q (some (.int (-11 : Int32))) h))))) ∧ (r1 = 0 → (Q (some (.int (-1 : Int32))) h))
  refine ⟨fun c3 => ?_, fun c4 => ?_⟩
  · have := p2.2.1 c3
    have := ti_neK 0 rfl c3
    refine ⟨(by have : (0 : Int32).toInt = 0 := rfl; omega), ?_⟩
    refine ⟨fun c5 => ?_, fun c6 => ?_⟩
    · have := ti_neK (-4) ti_n4 c5
      refine ⟨(by have : (0 : Int32).toInt = 0 := rfl; omega), ?_⟩
      refine sf_141 X h ((Int32.toInt64 b) : Int64) (0 : Int64) ((Int32.toInt64 ((h 49 a.toInt.toNat) - 1)) : Int64) trivial _ (fun r7 p8 => ?_)
      show (¬ r7 = 0 → ((0 ≤ a.toInt ∧ a.toInt < 4) ∧ ((¬ (h 48 a.toInt.toNat) = 0 → ((0 ≤ a.toInt ∧ a.toInt < 4) ∧ ((¬ (h 48 a.toInt.toNat) = 1 → ((0 ≤ ((40 * a) + b).toInt ∧ ((40 * a) + b).toInt < 160) ∧ (Q (some (.int 1)) (qm_row h 50 (upd (h 50) ((40 * a) + b).toInt.toNat c))))) ∧ ((h 48 a.toInt.toNat) = 1 → ((0 ≤ ((40 * a) + b).toInt ∧ ((40 * a) + b).toInt < 160) ∧ (Q (some (.int 1)) (qm_row h 50 (upd (h 50) ((40 * a) + b).toInt.toNat ((Int32.toInt16 c).toInt32))))))))) ∧ ((h 48 a.toInt.toNat) = 0 → ((0 ≤ ((40 * a) + b).toInt ∧ ((40 * a) + b).toInt < 160) ∧ (Q (some (.int 1)) (qm_row h 50 (upd (h 50) ((40 * a) + b).toInt.toNat ((Int32.toInt8 c).toInt32))))))))) ∧ (r7 = 0 → (Q (some (.int (-12 : Int32))) h))
      refine ⟨fun c9 => ?_, fun c10 => ?_⟩
      · have := p8.2.1 c9
        have := ti_neK 0 rfl c9
        refine ⟨(by have := hmzs (a.toInt.toNat); have : (0 : Int32).toInt = 0 := rfl; have := ti_subK (h 49 a.toInt.toNat) (1 : Int32) 1 rfl; have : (0 : Int64).toInt = 0 := rfl; have := i64 b; have := i64 ((h 49 a.toInt.toNat) - 1); omega), ?_⟩
        refine ⟨fun c11 => ?_, fun c12 => ?_⟩
        · have := ti_neK 0 rfl c11
          refine ⟨(by have := hmzs (a.toInt.toNat); have : (0 : Int32).toInt = 0 := rfl; have := ti_subK (h 49 a.toInt.toNat) (1 : Int32) 1 rfl; have : (0 : Int64).toInt = 0 := rfl; have := i64 b; have := i64 ((h 49 a.toInt.toNat) - 1); omega), ?_⟩
          refine ⟨fun c13 => ?_, fun c14 => ?_⟩
          · have := ti_neK 1 rfl c13
            refine ⟨(by have := hmzs (a.toInt.toNat); have : (0 : Int32).toInt = 0 := rfl; have := ti_mulL (40 : Int32) 40 rfl a; have := ti_add (40 * a) b; have := ti_subK (h 49 a.toInt.toNat) (1 : Int32) 1 rfl; have : (0 : Int64).toInt = 0 := rfl; have := i64 b; have := i64 ((h 49 a.toInt.toNat) - 1); omega), ?_⟩
            exact hq 1 (qm_row h 50 (upd (h 50) ((40 * a) + b).toInt.toNat c)) ⟨(by exact hmmi), (by exact hmsm), (by exact hmzs), (by exact hmrw), (fun k hk => by simp only [qm_row]; rw [if_neg (by omega)]), (by have := hmzs (a.toInt.toNat); have : (1 : Int32).toInt = 1 := rfl; have : (0 : Int32).toInt = 0 := rfl; have := ti_subK (h 49 a.toInt.toNat) (1 : Int32) 1 rfl; have : (0 : Int64).toInt = 0 := rfl; have := i64 b; have := i64 ((h 49 a.toInt.toNat) - 1); show ((1 : Int32).toInt = -1 ∧ (a.toInt < 0 ∨ 4 ≤ a.toInt)) ∨ ((1 : Int32).toInt = -11 ∧ (0 ≤ a.toInt ∧ a.toInt < 4) ∧ (h 48 a.toInt.toNat).toInt = -4) ∨ ((1 : Int32).toInt = -12 ∧ (0 ≤ a.toInt ∧ a.toInt < 4) ∧ ¬ (h 48 a.toInt.toNat).toInt = -4 ∧ (b.toInt < 0 ∨ (h 49 a.toInt.toNat).toInt ≤ b.toInt)) ∨ ((1 : Int32).toInt = 1 ∧ (0 ≤ a.toInt ∧ a.toInt < 4) ∧ ¬ (h 48 a.toInt.toNat).toInt = -4 ∧ 0 ≤ b.toInt ∧ b.toInt < (h 49 a.toInt.toNat).toInt); omega)⟩
          · have := ti_eqK 1 rfl c14
            refine ⟨(by have := hmzs (a.toInt.toNat); have : (0 : Int32).toInt = 0 := rfl; have := ti_mulL (40 : Int32) 40 rfl a; have := ti_add (40 * a) b; have := ti_subK (h 49 a.toInt.toNat) (1 : Int32) 1 rfl; have : (0 : Int64).toInt = 0 := rfl; have := i64 b; have := i64 ((h 49 a.toInt.toNat) - 1); omega), ?_⟩
            exact hq 1 (qm_row h 50 (upd (h 50) ((40 * a) + b).toInt.toNat ((Int32.toInt16 c).toInt32))) ⟨(by exact hmmi), (by exact hmsm), (by exact hmzs), (by exact hmrw), (fun k hk => by simp only [qm_row]; rw [if_neg (by omega)]), (by have := hmzs (a.toInt.toNat); have : (1 : Int32).toInt = 1 := rfl; have : (0 : Int32).toInt = 0 := rfl; have := ti_subK (h 49 a.toInt.toNat) (1 : Int32) 1 rfl; have : (0 : Int64).toInt = 0 := rfl; have := i64 b; have := i64 ((h 49 a.toInt.toNat) - 1); show ((1 : Int32).toInt = -1 ∧ (a.toInt < 0 ∨ 4 ≤ a.toInt)) ∨ ((1 : Int32).toInt = -11 ∧ (0 ≤ a.toInt ∧ a.toInt < 4) ∧ (h 48 a.toInt.toNat).toInt = -4) ∨ ((1 : Int32).toInt = -12 ∧ (0 ≤ a.toInt ∧ a.toInt < 4) ∧ ¬ (h 48 a.toInt.toNat).toInt = -4 ∧ (b.toInt < 0 ∨ (h 49 a.toInt.toNat).toInt ≤ b.toInt)) ∨ ((1 : Int32).toInt = 1 ∧ (0 ≤ a.toInt ∧ a.toInt < 4) ∧ ¬ (h 48 a.toInt.toNat).toInt = -4 ∧ 0 ≤ b.toInt ∧ b.toInt < (h 49 a.toInt.toNat).toInt); omega)⟩
        · have := ti_eqK 0 rfl c12
          refine ⟨(by have := hmzs (a.toInt.toNat); have : (0 : Int32).toInt = 0 := rfl; have := ti_mulL (40 : Int32) 40 rfl a; have := ti_add (40 * a) b; have := ti_subK (h 49 a.toInt.toNat) (1 : Int32) 1 rfl; have : (0 : Int64).toInt = 0 := rfl; have := i64 b; have := i64 ((h 49 a.toInt.toNat) - 1); omega), ?_⟩
          exact hq 1 (qm_row h 50 (upd (h 50) ((40 * a) + b).toInt.toNat ((Int32.toInt8 c).toInt32))) ⟨(by exact hmmi), (by exact hmsm), (by exact hmzs), (by exact hmrw), (fun k hk => by simp only [qm_row]; rw [if_neg (by omega)]), (by have := hmzs (a.toInt.toNat); have : (1 : Int32).toInt = 1 := rfl; have : (0 : Int32).toInt = 0 := rfl; have := ti_subK (h 49 a.toInt.toNat) (1 : Int32) 1 rfl; have : (0 : Int64).toInt = 0 := rfl; have := i64 b; have := i64 ((h 49 a.toInt.toNat) - 1); show ((1 : Int32).toInt = -1 ∧ (a.toInt < 0 ∨ 4 ≤ a.toInt)) ∨ ((1 : Int32).toInt = -11 ∧ (0 ≤ a.toInt ∧ a.toInt < 4) ∧ (h 48 a.toInt.toNat).toInt = -4) ∨ ((1 : Int32).toInt = -12 ∧ (0 ≤ a.toInt ∧ a.toInt < 4) ∧ ¬ (h 48 a.toInt.toNat).toInt = -4 ∧ (b.toInt < 0 ∨ (h 49 a.toInt.toNat).toInt ≤ b.toInt)) ∨ ((1 : Int32).toInt = 1 ∧ (0 ≤ a.toInt ∧ a.toInt < 4) ∧ ¬ (h 48 a.toInt.toNat).toInt = -4 ∧ 0 ≤ b.toInt ∧ b.toInt < (h 49 a.toInt.toNat).toInt); omega)⟩
      · have := p8.2.2 c10
        have := ti_eqK 0 rfl c10
        exact hq (-12 : Int32) h ⟨hmmi, hmsm, hmzs, hmrw, (fun k hk => rfl), (by have := hmzs (a.toInt.toNat); have : (0 : Int32).toInt = 0 := rfl; have := ti_subK (h 49 a.toInt.toNat) (1 : Int32) 1 rfl; have : (0 : Int64).toInt = 0 := rfl; have := i64 b; have := i64 ((h 49 a.toInt.toNat) - 1); show ((-12 : Int32).toInt = -1 ∧ (a.toInt < 0 ∨ 4 ≤ a.toInt)) ∨ ((-12 : Int32).toInt = -11 ∧ (0 ≤ a.toInt ∧ a.toInt < 4) ∧ (h 48 a.toInt.toNat).toInt = -4) ∨ ((-12 : Int32).toInt = -12 ∧ (0 ≤ a.toInt ∧ a.toInt < 4) ∧ ¬ (h 48 a.toInt.toNat).toInt = -4 ∧ (b.toInt < 0 ∨ (h 49 a.toInt.toNat).toInt ≤ b.toInt)) ∨ ((-12 : Int32).toInt = 1 ∧ (0 ≤ a.toInt ∧ a.toInt < 4) ∧ ¬ (h 48 a.toInt.toNat).toInt = -4 ∧ 0 ≤ b.toInt ∧ b.toInt < (h 49 a.toInt.toNat).toInt); rw [ti_n12]; omega)⟩
    · have := ti_eqK (-4) ti_n4 c6
      exact hq (-11 : Int32) h ⟨hmmi, hmsm, hmzs, hmrw, (fun k hk => rfl), (by have := hmzs (a.toInt.toNat); have : (0 : Int32).toInt = 0 := rfl; show ((-11 : Int32).toInt = -1 ∧ (a.toInt < 0 ∨ 4 ≤ a.toInt)) ∨ ((-11 : Int32).toInt = -11 ∧ (0 ≤ a.toInt ∧ a.toInt < 4) ∧ (h 48 a.toInt.toNat).toInt = -4) ∨ ((-11 : Int32).toInt = -12 ∧ (0 ≤ a.toInt ∧ a.toInt < 4) ∧ ¬ (h 48 a.toInt.toNat).toInt = -4 ∧ (b.toInt < 0 ∨ (h 49 a.toInt.toNat).toInt ≤ b.toInt)) ∨ ((-11 : Int32).toInt = 1 ∧ (0 ≤ a.toInt ∧ a.toInt < 4) ∧ ¬ (h 48 a.toInt.toNat).toInt = -4 ∧ 0 ≤ b.toInt ∧ b.toInt < (h 49 a.toInt.toNat).toInt); rw [ti_n11]; omega)⟩
  · have := p2.2.2 c4
    have := ti_eqK 0 rfl c4
    exact hq (-1 : Int32) h ⟨hmmi, hmsm, hmzs, hmrw, (fun k hk => rfl), (by have := hmzs (a.toInt.toNat); have : (0 : Int32).toInt = 0 := rfl; show ((-1 : Int32).toInt = -1 ∧ (a.toInt < 0 ∨ 4 ≤ a.toInt)) ∨ ((-1 : Int32).toInt = -11 ∧ (0 ≤ a.toInt ∧ a.toInt < 4) ∧ (h 48 a.toInt.toNat).toInt = -4) ∨ ((-1 : Int32).toInt = -12 ∧ (0 ≤ a.toInt ∧ a.toInt < 4) ∧ ¬ (h 48 a.toInt.toNat).toInt = -4 ∧ (b.toInt < 0 ∨ (h 49 a.toInt.toNat).toInt ≤ b.toInt)) ∨ ((-1 : Int32).toInt = 1 ∧ (0 ≤ a.toInt ∧ a.toInt < 4) ∧ ¬ (h 48 a.toInt.toNat).toInt = -4 ∧ 0 ≤ b.toInt ∧ b.toInt < (h 49 a.toInt.toNat).toInt); rw [ti_n1]; omega)⟩
-- ThreadBank$Sheets.renew(III)V
set_option maxRecDepth 100000 in
set_option maxHeartbeats 4000000 in
theorem sg_70_c (X : qm_X) (h : qm_H) (a : Int32) (b : Int32) (c : Int32) (hp : sq h ∧ ((0 ≤ a.toInt ∧ a.toInt < 4) ∧ 0 ≤ c.toInt ∧ c.toInt ≤ 40)) (Q : qm_Q) (hq : ∀ h' : qm_H, (sq h' ∧ (∀ k, (k < 35 ∨ 37 < k) → h' k = h k) ∧ (h' 37 = upd (h 37) a.toInt.toNat c)) → Q none h') : ∀ n : Nat, (∀ (l4 : Int32) (g : qm_H), (((0 ≤ l4.toInt ∧ l4.toInt ≤ 40) ∧ (0 ≤ a.toInt ∧ a.toInt < 4 ∧ 0 ≤ c.toInt ∧ c.toInt ≤ 40) ∧ g 37 = h 37) ∧ sq g ∧ ∀ k, (k < 35 ∨ 37 < k) → g k = h k) → (40 - l4.toInt).toNat < n → qm_PA X 70 20 [(0, .ref 34), (1, .int a), (2, .int b), (3, .int c), (4, .int l4)] [] g Q) := by
  have hmsq : sq h := hp.1
  have hp0 : (0 ≤ a.toInt ∧ a.toInt < 4) ∧ 0 ≤ c.toInt ∧ c.toInt ≤ 40 := hp.2
  intro n
  induction n with
  | zero => exact fun _ _ _ h0 => absurd h0 (Nat.not_lt_zero _)
  | succ n ih =>
    intro l4 g hi hr
    obtain ⟨hi0, hgsq, hgf⟩ := hi
    refine qm_seg_ok (C := qc_70) (rt := none) rfl rfl (cuts := [(20, [0, 1, 2, 3, 4])]) 400 _ _ _ _ ?_
    show (c.toInt ≤ l4.toInt → ((0 ≤ a.toInt ∧ a.toInt < 4) ∧ ((0 ≤ a.toInt ∧ a.toInt < 4) ∧ (Q none (qm_row (qm_row g 36 (upd (g 36) a.toInt.toNat b)) 37 (upd (g 37) a.toInt.toNat c)))))) ∧ (l4.toInt < c.toInt → ((0 ≤ ((40 * a) + l4).toInt ∧ ((40 * a) + l4).toInt < 160) ∧ (qm_PA X 70 20 [(0, .ref 34), (1, .int a), (2, .int b), (3, .int c), (4, .int (l4 + 1))] [] (qm_row g 35 (upd (g 35) ((40 * a) + l4).toInt.toNat 0)) Q)))
    refine ⟨fun c1 => ?_, fun c2 => ?_⟩
    · refine ⟨(by omega), ?_⟩
      refine ⟨(by omega), ?_⟩
      exact hq (qm_row (qm_row g 36 (upd (g 36) a.toInt.toNat b)) 37 (upd (g 37) a.toInt.toNat c)) ⟨(by intro j; show (upd _ _ _ j).toInt ≤ 40; unfold upd; (split <;> first | omega | exact hgsq j)), (fun k hk => by simp only [qm_row]; rw [if_neg (by omega)]; rw [if_neg (by omega)]; exact hgf k hk), (by first | (exfalso; omega) | (show upd (g 37) a.toInt.toNat c = _; rw [hi0.2.2]))⟩
    · refine ⟨(by have := ti_mulL (40 : Int32) 40 rfl a; have := ti_add (40 * a) l4; omega), ?_⟩
      exact ih (l4 + 1) (qm_row g 35 (upd (g 35) ((40 * a) + l4).toInt.toNat 0)) ⟨(by have := ti_addK l4 (1 : Int32) 1 rfl; have := ti_mulL (40 : Int32) 40 rfl a; have := ti_add (40 * a) l4; first | exact ⟨by decide, by omega, rfl⟩ | exact ⟨by omega, by omega, hi0.2.2⟩), (by exact hgsq), (fun k hk => by simp only [qm_row]; rw [if_neg (by omega)]; exact hgf k hk)⟩ (by have := ti_addK l4 (1 : Int32) 1 rfl; show (40 - (l4 + 1).toInt).toNat < n; omega)
set_option maxRecDepth 100000 in
set_option maxHeartbeats 4000000 in
theorem sg_70 (X : qm_X) (h : qm_H) (a : Int32) (b : Int32) (c : Int32) (hp : sq h ∧ ((0 ≤ a.toInt ∧ a.toInt < 4) ∧ 0 ≤ c.toInt ∧ c.toInt ≤ 40)) (Q : qm_Q) (hq : ∀ h' : qm_H, (sq h' ∧ (∀ k, (k < 35 ∨ 37 < k) → h' k = h k) ∧ (h' 37 = upd (h 37) a.toInt.toNat c)) → Q none h') : qm_PW X 70 [.ref 34, .int a, .int b, .int c] h Q := by
  have hmsq : sq h := hp.1
  have hp0 : (0 ≤ a.toInt ∧ a.toInt < 4) ∧ 0 ≤ c.toInt ∧ c.toInt ≤ 40 := hp.2
  refine qm_seg_ok (C := qc_70) (rt := none) rfl rfl (cuts := [(20, [0, 1, 2, 3, 4])]) 400 _ _ _ _ ?_
  show qm_PW X 65 [.int a] h _
  refine sg_65 X h a trivial _ (fun r1 p2 => ?_)
  show (r1 = 0 → (Q none h)) ∧ (¬ r1 = 0 → ((c.toInt < 0 → (Q none h)) ∧ (0 ≤ c.toInt → ((40 < c.toInt → (Q none h)) ∧ (c.toInt ≤ 40 → (qm_PA X 70 20 [(0, .ref 34), (1, .int a), (2, .int b), (3, .int c), (4, .int 0)] [] h Q))))))
  refine ⟨fun c3 => ?_, fun c4 => ?_⟩
  · have := p2.2.2 c3
    exact hq h ⟨hmsq, (fun k hk => rfl), (by first | (exfalso; omega) | (show upd (g 37) a.toInt.toNat c = _; rw [hi0.2.2]))⟩
  · have := p2.2.1 c4
    refine ⟨fun c5 => ?_, fun c6 => ?_⟩
    · exact hq h ⟨hmsq, (fun k hk => rfl), (by first | (exfalso; omega) | (show upd (g 37) a.toInt.toNat c = _; rw [hi0.2.2]))⟩
    · refine ⟨fun c7 => ?_, fun c8 => ?_⟩
      · exact hq h ⟨hmsq, (fun k hk => rfl), (by first | (exfalso; omega) | (show upd (g 37) a.toInt.toNat c = _; rw [hi0.2.2]))⟩
      · exact (sg_70_c X h a b c hp Q hq _) (0 : Int32) h ⟨(by have : (0 : Int32).toInt = 0 := rfl; first | exact ⟨by decide, by omega, rfl⟩ | exact ⟨by omega, by omega, hi0.2.2⟩), hmsq, (fun k hk => rfl)⟩ (Nat.lt_succ_self _)
-- ThreadBank.sheet(III)I
set_option maxRecDepth 100000 in
set_option maxHeartbeats 4000000 in
theorem sg_125 (X : qm_X) (h : qm_H) (a : Int32) (b : Int32) (c : Int32) (hp : mq 1 h ∧ mq 8 h ∧ mq 15 h ∧ sq h) (Q : qm_Q) (hq : ∀ r : Int32, ∀ h' : qm_H, (mq 1 h' ∧ mq 8 h' ∧ mq 15 h' ∧ sq h' ∧ (∀ k, (k < 35 ∨ 37 < k) → h' k = h k) ∧ (shp a b c c (h 37) (h' 37))) → Q (some (.int r)) h') : qm_PW X 125 [.ref 0, .int a, .int b, .int c] h Q := by
  have hm1 : mq 1 h := hp.1
  have ⟨⟨_, _⟩, ⟨_, _⟩, _, _⟩ := hm1
  have hm8 : mq 8 h := hp.2.1
  have ⟨⟨_, _⟩, ⟨_, _⟩, _, _⟩ := hm8
  have hm15 : mq 15 h := hp.2.2.1
  have ⟨⟨_, _⟩, ⟨_, _⟩, _, _⟩ := hm15
  have hmsq : sq h := hp.2.2.2
  refine qm_seg_ok (C := qc_125) (rt := some .int) rfl rfl (cuts := []) 400 _ _ _ _ ?_
  show qm_PW X 65 [.int a] h _
  refine sg_65 X h a trivial _ (fun r1 p2 => ?_)
  show (r1 = 0 → (Q (some (.int (-1 : Int32))) h)) ∧ (¬ r1 = 0 → (qm_PW X 66 [.int b] h _))
  refine ⟨fun c3 => ?_, fun c4 => ?_⟩
  · have := p2.2.2 c3
    exact hq (-1 : Int32) h ⟨hm1, hm8, hm15, hmsq, (fun k hk => rfl), (by first | exact shp_no (by unfold shok; omega) | (exact shp_yes (by unfold shok; omega) (by assumption)))⟩
  · have := p2.2.1 c4
    refine sg_66 X h b trivial _ (fun r5 p6 => ?_)
    show (r5 = 0 → (Q (some (.int (-1 : Int32))) h)) ∧ (¬ r5 = 0 → ((c.toInt ≤ 40 → ((0 ≤ c.toInt → (qm_PW X 70 [.ref 34, .int a, .int b, .int c] h _)) ∧ (c.toInt < 0 → (Q (some (.int (-14 : Int32))) h)))) ∧ (40 < c.toInt → (Q (some (.int (-1 : Int32))) h))))
    refine ⟨fun c7 => ?_, fun c8 => ?_⟩
    · have := p6.2.2 c7
      exact hq (-1 : Int32) h ⟨hm1, hm8, hm15, hmsq, (fun k hk => rfl), (by first | exact shp_no (by unfold shok; omega) | (exact shp_yes (by unfold shok; omega) (by assumption)))⟩
    · have := p6.2.1 c8
      refine ⟨fun c9 => ?_, fun c10 => ?_⟩
      · refine ⟨fun c11 => ?_, fun c12 => ?_⟩
        · refine sg_70 X h a b c ⟨hmsq, (by omega)⟩ _ (fun g13 p14 => ?_)
          have f15 : ∀ k, (k < 35 ∨ 37 < k) → g13 k = h k := fun k hk => (p14.2.1 k (by omega)).trans (rfl)
          have k16 : mq 1 g13 := by unfold mq; rw [p14.2.1 1 (by omega)]; exact hm1
          have k17 : mq 8 g13 := by unfold mq; rw [p14.2.1 8 (by omega)]; exact hm8
          have k18 : mq 15 g13 := by unfold mq; rw [p14.2.1 15 (by omega)]; exact hm15
          have := p14.2.2
          show Q (some (.int 1)) g13
          exact hq 1 g13 ⟨k16, k17, k18, p14.1, (fun k hk => f15 k hk), (by first | exact shp_no (by unfold shok; omega) | (exact shp_yes (by unfold shok; omega) (by assumption)))⟩
        · exact hq (-14 : Int32) h ⟨hm1, hm8, hm15, hmsq, (fun k hk => rfl), (by first | exact shp_no (by unfold shok; omega) | (exact shp_yes (by unfold shok; omega) (by assumption)))⟩
      · exact hq (-1 : Int32) h ⟨hm1, hm8, hm15, hmsq, (fun k hk => rfl), (by first | exact shp_no (by unfold shok; omega) | (exact shp_yes (by unfold shok; omega) (by assumption)))⟩
-- ThreadBankModel.sheet(III)I
set_option maxRecDepth 100000 in
set_option maxHeartbeats 4000000 in
theorem sg_234_c (X : qm_X) (h : qm_H) (a : Int32) (b : Int32) (c : Int32) (hp : mi h ∧ sm h ∧ zs h ∧ rw_ h) (Q : qm_Q) (hq : ∀ r : Int32, ∀ h' : qm_H, (mi h' ∧ sm h' ∧ zs h' ∧ rw_ h' ∧ (∀ k, (k < 48 ∨ 50 < k) → h' k = h k) ∧ (shp a b c b (h 48) (h' 48) ∧ shp a b c c (h 49) (h' 49))) → Q (some (.int r)) h') : ∀ n : Nat, (∀ (l4 : Int32) (g : qm_H), (((0 ≤ l4.toInt ∧ l4.toInt ≤ 40) ∧ ((0 ≤ a.toInt ∧ a.toInt ≤ 3) ∧ (0 ≤ b.toInt ∧ b.toInt ≤ 2) ∧ 0 ≤ c.toInt ∧ c.toInt ≤ 40) ∧ g 48 = upd (h 48) a.toInt.toNat b ∧ g 49 = upd (h 49) a.toInt.toNat c) ∧ mi g ∧ sm g ∧ zs g ∧ rw_ g ∧ ∀ k, (k < 48 ∨ 50 < k) → g k = h k) → (40 - l4.toInt).toNat < n → qm_PA X 234 40 [(0, .ref 39), (1, .int a), (2, .int b), (3, .int c), (4, .int l4)] [] g Q) := by
  have hmmi : mi h := hp.1
  have ⟨⟨_, _⟩, ⟨_, _⟩, ⟨_, _⟩, ⟨_, _⟩, _, _⟩ := hmmi
  have hmsm : sm h := hp.2.1
  have ⟨⟨⟨_, _⟩, _, _⟩, _, _, _⟩ := hmsm
  have hmzs : zs h := hp.2.2.1
  have hmrw : rw_ h := hp.2.2.2
  intro n
  induction n with
  | zero => exact fun _ _ _ h0 => absurd h0 (Nat.not_lt_zero _)
  | succ n ih =>
    intro l4 g hi hr
    obtain ⟨hi0, hgmi, hgsm, hgzs, hgrw, hgf⟩ := hi
    have ⟨⟨_, _⟩, ⟨_, _⟩, ⟨_, _⟩, ⟨_, _⟩, _, _⟩ := hgmi
    have ⟨⟨⟨_, _⟩, _, _⟩, _, _, _⟩ := hgsm
    refine qm_seg_ok (C := qc_234) (rt := some .int) rfl rfl (cuts := [(40, [0, 1, 2, 3, 4])]) 400 _ _ _ _ ?_
    show (40 ≤ l4.toInt → (Q (some (.int 1)) g)) ∧ (l4.toInt < 40 → ((0 ≤ ((40 * a) + l4).toInt ∧ ((40 * a) + l4).toInt < 160) ∧ (qm_PA X 234 40 [(0, .ref 39), (1, .int a), (2, .int b), (3, .int c), (4, .int (l4 + 1))] [] (qm_row g 50 (upd (g 50) ((40 * a) + l4).toInt.toNat 0)) Q)))
    refine ⟨fun c1 => ?_, fun c2 => ?_⟩
    · exact hq 1 g ⟨hgmi, hgsm, hgzs, hgrw, (fun k hk => hgf k hk), (by first | exact ⟨shp_no (by unfold shok; omega), shp_no (by unfold shok; omega)⟩ | exact ⟨shp_yes hi0.2.1 hi0.2.2.1, shp_yes hi0.2.1 hi0.2.2.2⟩)⟩
    · refine ⟨(by have := ti_mulL (40 : Int32) 40 rfl a; have := ti_add (40 * a) l4; omega), ?_⟩
      exact ih (l4 + 1) (qm_row g 50 (upd (g 50) ((40 * a) + l4).toInt.toNat 0)) ⟨(by have := ti_addK l4 (1 : Int32) 1 rfl; have := ti_mulL (40 : Int32) 40 rfl a; have := ti_add (40 * a) l4; first | exact ⟨by decide, by omega, rfl, rfl⟩ | exact ⟨by omega, hi0.2.1, hi0.2.2.1, hi0.2.2.2⟩), (by exact hgmi), (by exact hgsm), (by exact hgzs), (by exact hgrw), (fun k hk => by simp only [qm_row]; rw [if_neg (by omega)]; exact hgf k hk)⟩ (by have := ti_addK l4 (1 : Int32) 1 rfl; show (40 - (l4 + 1).toInt).toNat < n; omega)
set_option maxRecDepth 100000 in
set_option maxHeartbeats 4000000 in
theorem sg_234 (X : qm_X) (h : qm_H) (a : Int32) (b : Int32) (c : Int32) (hp : mi h ∧ sm h ∧ zs h ∧ rw_ h) (Q : qm_Q) (hq : ∀ r : Int32, ∀ h' : qm_H, (mi h' ∧ sm h' ∧ zs h' ∧ rw_ h' ∧ (∀ k, (k < 48 ∨ 50 < k) → h' k = h k) ∧ (shp a b c b (h 48) (h' 48) ∧ shp a b c c (h 49) (h' 49))) → Q (some (.int r)) h') : qm_PW X 234 [.ref 39, .int a, .int b, .int c] h Q := by
  have hmmi : mi h := hp.1
  have ⟨⟨_, _⟩, ⟨_, _⟩, ⟨_, _⟩, ⟨_, _⟩, _, _⟩ := hmmi
  have hmsm : sm h := hp.2.1
  have ⟨⟨⟨_, _⟩, _, _⟩, _, _, _⟩ := hmsm
  have hmzs : zs h := hp.2.2.1
  have hmrw : rw_ h := hp.2.2.2
  refine qm_seg_ok (C := qc_234) (rt := some .int) rfl rfl (cuts := [(40, [0, 1, 2, 3, 4])]) 400 _ _ _ _ ?_
  show qm_PW X 233 [.int a, .int b] h _
  refine sg_233 X h a b trivial _ (fun r1 p2 => ?_)
  show (r1 = 0 → (Q (some (.int (-1 : Int32))) h)) ∧ (¬ r1 = 0 → ((c.toInt ≤ 40 → ((0 ≤ c.toInt → ((0 ≤ a.toInt ∧ a.toInt < 4) ∧ ((0 ≤ a.toInt ∧ a.toInt < 4) ∧ (qm_PA X 234 40 [(0, .ref 39), (1, .int a), (2, .int b), (3, .int c), (4, .int 0)] [] (qm_row (qm_row h 48 (upd (h 48) a.toInt.toNat b)) 49 (upd (h 49) a.toInt.toNat c)) Q)))) ∧ (c.toInt < 0 → (Q (some (.int (-14 : Int32))) h)))) ∧ (40 < c.toInt → (Q (some (.int (-1 : Int32))) h))))
  refine ⟨fun c3 => ?_, fun c4 => ?_⟩
  · have := p2.2.2 c3
    exact hq (-1 : Int32) h ⟨hmmi, hmsm, hmzs, hmrw, (fun k hk => rfl), (by first | exact ⟨shp_no (by unfold shok; omega), shp_no (by unfold shok; omega)⟩ | exact ⟨shp_yes hi0.2.1 hi0.2.2.1, shp_yes hi0.2.1 hi0.2.2.2⟩)⟩
  · have := p2.2.1 c4
    refine ⟨fun c5 => ?_, fun c6 => ?_⟩
    · refine ⟨fun c7 => ?_, fun c8 => ?_⟩
      · refine ⟨(by omega), ?_⟩
        refine ⟨(by omega), ?_⟩
        exact (sg_234_c X h a b c hp Q hq _) (0 : Int32) (qm_row (qm_row h 48 (upd (h 48) a.toInt.toNat b)) 49 (upd (h 49) a.toInt.toNat c)) ⟨(by have : (0 : Int32).toInt = 0 := rfl; first | exact ⟨by decide, by omega, rfl, rfl⟩ | exact ⟨by omega, hi0.2.1, hi0.2.2.1, hi0.2.2.2⟩), (by exact hmmi), (by exact hmsm), (by intro j; show 0 ≤ (upd _ _ _ j).toInt ∧ (upd _ _ _ j).toInt ≤ 40; unfold upd; (split <;> first | omega | exact hmzs j)), (by exact hmrw), (fun k hk => by simp only [qm_row]; rw [if_neg (by omega)]; rw [if_neg (by omega)])⟩ (Nat.lt_succ_self _)
      · exact hq (-14 : Int32) h ⟨hmmi, hmsm, hmzs, hmrw, (fun k hk => rfl), (by first | exact ⟨shp_no (by unfold shok; omega), shp_no (by unfold shok; omega)⟩ | exact ⟨shp_yes hi0.2.1 hi0.2.2.1, shp_yes hi0.2.1 hi0.2.2.2⟩)⟩
    · exact hq (-1 : Int32) h ⟨hmmi, hmsm, hmzs, hmrw, (fun k hk => rfl), (by first | exact ⟨shp_no (by unfold shok; omega), shp_no (by unfold shok; omega)⟩ | exact ⟨shp_yes hi0.2.1 hi0.2.2.1, shp_yes hi0.2.1 hi0.2.2.2⟩)⟩
