-- ThreadBank.hasBit(II)Z
set_option maxRecDepth 100000 in
set_option maxHeartbeats 4000000 in
theorem ty_138 (X : qm_X) (h : qm_H) (a : Int32) (b : Int32) (hp : True) (Q : qm_Q) (hq : ∀ r : Int32, ((r = 0 ∨ r = 1) ∧ ((r.toInt = 1 ∧ hbQ a b) ∨ (r.toInt = 0 ∧ ¬ hbQ a b))) → Q (some (.int r)) h) : qm_PW X 138 [.int a, .int b] h Q := by
  refine qm_seg_ok (C := qc_138) (rt := some .boolean) rfl rfl (cuts := []) 400 _ _ _ _ ?_
  show (((a >>> (b &&& 31)) &&& 1) = 0 → (((0 : Int32) = 0 ∨ (0 : Int32) = 1) ∧ Q (some (.int 0)) h)) ∧ (¬ ((a >>> (b &&& 31)) &&& 1) = 0 → (((1 : Int32) = 0 ∨ (1 : Int32) = 1) ∧ Q (some (.int 1)) h))
  refine ⟨fun c1 => ?_, fun c2 => ?_⟩
  · exact ⟨Or.inl rfl, hq 0 (by have : (0 : Int32).toInt = 0 := rfl; show ((0 : Int32) = 0 ∨ (0 : Int32) = 1) ∧ (((0 : Int32).toInt = 1 ∧ hbQ a b) ∨ ((0 : Int32).toInt = 0 ∧ ¬ hbQ a b)); first | exact ⟨Or.inr rfl, Or.inl ⟨rfl, (show ¬ ((a >>> (b &&& 31)) &&& 1) = 0 from by assumption)⟩⟩ | exact ⟨Or.inl rfl, Or.inr ⟨rfl, fun w => w (by assumption)⟩⟩)⟩
  · exact ⟨Or.inr rfl, hq 1 (by have : (1 : Int32).toInt = 1 := rfl; show ((1 : Int32) = 0 ∨ (1 : Int32) = 1) ∧ (((1 : Int32).toInt = 1 ∧ hbQ a b) ∨ ((1 : Int32).toInt = 0 ∧ ¬ hbQ a b)); first | exact ⟨Or.inr rfl, Or.inl ⟨rfl, (show ¬ ((a >>> (b &&& 31)) &&& 1) = 0 from by assumption)⟩⟩ | exact ⟨Or.inl rfl, Or.inr ⟨rfl, fun w => w (by assumption)⟩⟩)⟩
-- ThreadBank$Memory.isKeptWithout(II)Z
set_option maxRecDepth 100000 in
set_option maxHeartbeats 4000000 in
theorem ty_61_c (X : qm_X) (h : qm_H) (a : Int32) (b : Int32) (hp : mq 1 h ∧ wc h ∧ (0 ≤ a.toInt ∧ a.toInt < (h 1 7).toInt)) (Q : qm_Q) (hq : ∀ r : Int32, ((r = 0 ∨ r = 1) ∧ ((r.toInt = 1 ∧ kwA (h 3) (h 4) (h 5) (h 1 7).toInt.toNat a.toInt.toNat b) ∨ (r.toInt = 0 ∧ ¬ kwA (h 3) (h 4) (h 5) (h 1 7).toInt.toNat a.toInt.toNat b))) → Q (some (.int r)) h) : ∀ n : Nat, (∀ (l3 : Int32), ((0 ≤ l3.toInt ∧ l3.toInt ≤ (h 1 7).toInt) ∧ ∀ u : Nat, (u : Int) < l3.toInt → ¬ kvF (h 3) (h 4) (h 5) a.toInt.toNat b u) → (10 - l3.toInt).toNat < n → qm_PA X 61 2 [(0, .ref 1), (1, .int a), (2, .int b), (3, .int l3)] [] h Q) := by
  have hm1 : mq 1 h := hp.1
  have ⟨⟨_, _⟩, ⟨_, _⟩, _, _⟩ := hm1
  have hmwc : wc h := hp.2.1
  have hp0 : 0 ≤ a.toInt ∧ a.toInt < (h 1 7).toInt := hp.2.2
  intro n
  induction n with
  | zero => exact fun _ _ h0 => absurd h0 (Nat.not_lt_zero _)
  | succ n ih =>
    intro l3 hi hr
    have ti_l3 := ti_rng l3
    refine qm_seg_ok (C := qc_61) (rt := some .boolean) rfl rfl (cuts := [(2, [0, 1, 2, 3])]) 400 _ _ _ _ ?_
    show ((h 1 7).toInt ≤ l3.toInt → (((0 : Int32) = 0 ∨ (0 : Int32) = 1) ∧ Q (some (.int 0)) h)) ∧ (l3.toInt < (h 1 7).toInt → (qm_PW X 49 [.ref 1, .int a, .int l3] h _))
    refine ⟨fun c1 => ?_, fun c2 => ?_⟩
    · exact ⟨Or.inl rfl, hq 0 (by have : (0 : Int32).toInt = 0 := rfl; show ((0 : Int32) = 0 ∨ (0 : Int32) = 1) ∧ (((0 : Int32).toInt = 1 ∧ kwA (h 3) (h 4) (h 5) (h 1 7).toInt.toNat a.toInt.toNat b) ∨ ((0 : Int32).toInt = 0 ∧ ¬ kwA (h 3) (h 4) (h 5) (h 1 7).toInt.toNat a.toInt.toNat b)); exact ⟨Or.inl rfl, Or.inr ⟨rfl, fun w => Exists.elim w (fun u z => hi.2 u (by have := z.1; omega) z.2)⟩⟩)⟩
    · refine ty_49 X h a l3 hm1 _ (fun r3 p4 => ?_)
      have o5 : (r3 = 0 ∨ r3 = 1) ∧ ((r3.toInt = 1 ∧ (0 ≤ a.toInt ∧ a.toInt < (h 1 7).toInt) ∧ (0 ≤ l3.toInt ∧ l3.toInt < (h 1 7).toInt) ∧ (h 4 a.toInt.toNat).toInt = (h 4 l3.toInt.toNat).toInt ∧ (h 5 a.toInt.toNat).toInt = (h 5 l3.toInt.toNat).toInt) ∨ (r3.toInt = 0 ∧ ¬ ((0 ≤ a.toInt ∧ a.toInt < (h 1 7).toInt) ∧ (0 ≤ l3.toInt ∧ l3.toInt < (h 1 7).toInt) ∧ (h 4 a.toInt.toNat).toInt = (h 4 l3.toInt.toNat).toInt ∧ (h 5 a.toInt.toNat).toInt = (h 5 l3.toInt.toNat).toInt))) := p4
      clear p4
      show (r3 = 0 → (qm_PA X 61 2 [(0, .ref 1), (1, .int a), (2, .int b), (3, .int (l3 + 1))] [] h Q)) ∧ (¬ r3 = 0 → (qm_PW X 33 [.ref 1, .int l3] h _))
      refine ⟨fun c6 => ?_, fun c7 => ?_⟩
      · have := ti_eqK 0 rfl c6
        exact ih (l3 + 1) (by have := ti_addK l3 (1 : Int32) 1 rfl; exact ⟨by omega, fun u hu => if w : (u : Int) < l3.toInt then hi.2 u w else (by rw [show u = l3.toInt.toNat by omega]; intro z; have z1 : (h 4 a.toInt.toNat).toInt = (h 4 l3.toInt.toNat).toInt ∧ (h 5 a.toInt.toNat).toInt = (h 5 l3.toInt.toNat).toInt := z.1; omega)⟩) (by have := ti_addK l3 (1 : Int32) 1 rfl; omega)
      · have := ti_neK 0 rfl c7
        refine ty_33 X h l3 hm1 _ (fun r8 p9 => ?_)
        have o10 : ((0 ≤ l3.toInt ∧ l3.toInt < (h 1 7).toInt) ∧ r8.toInt = ((h 3 l3.toInt.toNat) / 10).toInt) ∨ (¬ (0 ≤ l3.toInt ∧ l3.toInt < (h 1 7).toInt) ∧ r8.toInt = -4) := p9
        clear p9
        show qm_PW X 138 [.int b, .int r8] h _
        refine ty_138 X h b r8 trivial _ (fun r11 p12 => ?_)
        have o13 : (r11 = 0 ∨ r11 = 1) ∧ ((r11.toInt = 1 ∧ hbQ b r8) ∨ (r11.toInt = 0 ∧ ¬ hbQ b r8)) := p12
        clear p12
        show (¬ r11 = 0 → (qm_PA X 61 2 [(0, .ref 1), (1, .int a), (2, .int b), (3, .int (l3 + 1))] [] h Q)) ∧ (r11 = 0 → (((1 : Int32) = 0 ∨ (1 : Int32) = 1) ∧ Q (some (.int 1)) h))
        refine ⟨fun c14 => ?_, fun c15 => ?_⟩
        · have := ti_neK 0 rfl c14
          exact ih (l3 + 1) (by have := ti_addK l3 (1 : Int32) 1 rfl; have := ti_div (10 : Int32) 10 rfl (h 3 l3.toInt.toNat) (by decide); have hw := wf_hd (show wfM (mC h) from hmwc) (j := l3.toInt.toNat) (by omega); have hh := hb_bi (b := b) (l := r8) (k := ((h 3 l3.toInt.toNat) / 10).toInt.toNat) (by omega) (by omega); have hB := hh.1 ((o13.2.resolve_right (fun w => absurd w.1 (by omega))).2); exact ⟨by omega, fun u hu => if w : (u : Int) < l3.toInt then hi.2 u w else (by rw [show u = l3.toInt.toNat by omega]; intro z; have z2 : bi b ((h 3 l3.toInt.toNat) / 10).toInt.toNat = false := z.2; rw [hB] at z2; exact Bool.noConfusion z2)⟩) (by have := ti_addK l3 (1 : Int32) 1 rfl; have := ti_div (10 : Int32) 10 rfl (h 3 l3.toInt.toNat) (by decide); omega)
        · have := ti_eqK 0 rfl c15
          exact ⟨Or.inr rfl, hq 1 (by have : (1 : Int32).toInt = 1 := rfl; have := ti_div (10 : Int32) 10 rfl (h 3 l3.toInt.toNat) (by decide); show ((1 : Int32) = 0 ∨ (1 : Int32) = 1) ∧ (((1 : Int32).toInt = 1 ∧ kwA (h 3) (h 4) (h 5) (h 1 7).toInt.toNat a.toInt.toNat b) ∨ ((1 : Int32).toInt = 0 ∧ ¬ kwA (h 3) (h 4) (h 5) (h 1 7).toInt.toNat a.toInt.toNat b)); have hw := wf_hd (show wfM (mC h) from hmwc) (j := l3.toInt.toNat) (by omega); have hh := hb_bi (b := b) (l := r8) (k := ((h 3 l3.toInt.toNat) / 10).toInt.toNat) (by omega) (by omega); have hB := hh.2 ((o13.2.resolve_left (fun w => absurd w.1 (by omega))).2); exact ⟨Or.inr rfl, Or.inl ⟨rfl, ⟨l3.toInt.toNat, by omega, (show (h 4 a.toInt.toNat).toInt = (h 4 l3.toInt.toNat).toInt ∧ (h 5 a.toInt.toNat).toInt = (h 5 l3.toInt.toNat).toInt by omega), hB⟩⟩⟩)⟩
set_option maxRecDepth 100000 in
set_option maxHeartbeats 4000000 in
theorem ty_61 (X : qm_X) (h : qm_H) (a : Int32) (b : Int32) (hp : mq 1 h ∧ wc h ∧ (0 ≤ a.toInt ∧ a.toInt < (h 1 7).toInt)) (Q : qm_Q) (hq : ∀ r : Int32, ((r = 0 ∨ r = 1) ∧ ((r.toInt = 1 ∧ kwA (h 3) (h 4) (h 5) (h 1 7).toInt.toNat a.toInt.toNat b) ∨ (r.toInt = 0 ∧ ¬ kwA (h 3) (h 4) (h 5) (h 1 7).toInt.toNat a.toInt.toNat b))) → Q (some (.int r)) h) : qm_PW X 61 [.ref 1, .int a, .int b] h Q := by
  have hm1 : mq 1 h := hp.1
  have ⟨⟨_, _⟩, ⟨_, _⟩, _, _⟩ := hm1
  have hmwc : wc h := hp.2.1
  have hp0 : 0 ≤ a.toInt ∧ a.toInt < (h 1 7).toInt := hp.2.2
  refine qm_seg_ok (C := qc_61) (rt := some .boolean) rfl rfl (cuts := [(2, [0, 1, 2, 3])]) 400 _ _ _ _ ?_
  show qm_PA X 61 2 [(0, .ref 1), (1, .int a), (2, .int b), (3, .int 0)] [] h Q
  exact (ty_61_c X h a b hp Q hq _) (0 : Int32) (by have : (0 : Int32).toInt = 0 := rfl; exact ⟨by have : (0 : Int32).toInt = 0 := rfl; omega, fun u hu => absurd hu (by have : (0 : Int32).toInt = 0 := rfl; omega)⟩) (Nat.lt_succ_self _)
-- ThreadBank$Memory.debtsLostWith(I)I
set_option maxRecDepth 100000 in
set_option maxHeartbeats 4000000 in
theorem ty_62_c (X : qm_X) (h : qm_H) (a : Int32) (hp : mq 1 h ∧ wc h) (Q : qm_Q) (hq : ∀ r : Int32, (r.toInt = cntP (rkA (h 3) (h 4) (h 5) (h 1 7).toInt.toNat a) (h 1 7).toInt.toNat ∧ (0 ≤ r.toInt ∧ r.toInt ≤ 10)) → Q (some (.int r)) h) : ∀ n : Nat, (∀ (l2 : Int32) (l3 : Int32), ((0 ≤ l3.toInt ∧ l3.toInt ≤ (h 1 7).toInt) ∧ l2.toInt = cntP (rkA (h 3) (h 4) (h 5) (h 1 7).toInt.toNat a) l3.toInt.toNat) → (10 - l3.toInt).toNat < n → qm_PA X 62 4 [(0, .ref 1), (1, .int a), (2, .int l2), (3, .int l3)] [] h Q) := by
  have hm1 : mq 1 h := hp.1
  have ⟨⟨_, _⟩, ⟨_, _⟩, _, _⟩ := hm1
  have hmwc : wc h := hp.2
  intro n
  induction n with
  | zero => exact fun _ _ _ h0 => absurd h0 (Nat.not_lt_zero _)
  | succ n ih =>
    intro l2 l3 hi hr
    have ti_l3 := ti_rng l3
    have hcr := cntP_rng (P := rkA (h 3) (h 4) (h 5) (h 1 7).toInt.toNat a) (n := l3.toInt.toNat)
    refine qm_seg_ok (C := qc_62) (rt := some .int) rfl rfl (cuts := [(4, [0, 1, 2, 3])]) 400 _ _ _ _ ?_
    show ((h 1 7).toInt ≤ l3.toInt → (Q (some (.int l2)) h)) ∧ (l3.toInt < (h 1 7).toInt → (qm_PW X 59 [.ref 1, .int l3] h _))
    refine ⟨fun c1 => ?_, fun c2 => ?_⟩
    · exact hq l2 (by show l2.toInt = cntP (rkA (h 3) (h 4) (h 5) (h 1 7).toInt.toNat a) (h 1 7).toInt.toNat ∧ (0 ≤ l2.toInt ∧ l2.toInt ≤ 10); have hi2 := hi.2; rw [show l3.toInt.toNat = (h 1 7).toInt.toNat by omega] at hi2; have hcr := cntP_rng (P := rkA (h 3) (h 4) (h 5) (h 1 7).toInt.toNat a) (n := (h 1 7).toInt.toNat); exact ⟨hi2, by omega⟩)
    · refine ty_59 X h l3 ⟨hm1, (by show 0 ≤ l3.toInt ∧ l3.toInt < (h 1 7).toInt; omega)⟩ _ (fun r3 p4 => ?_)
      have o5 : (r3 = 0 ∨ r3 = 1) ∧ ((r3.toInt = 1 ∧ fsA (h 4) (h 5) l3.toInt.toNat) ∨ (r3.toInt = 0 ∧ ¬ fsA (h 4) (h 5) l3.toInt.toNat)) := p4
      clear p4
      show (r3 = 0 → (qm_PA X 62 4 [(0, .ref 1), (1, .int a), (2, .int l2), (3, .int (l3 + 1))] [] h Q)) ∧ (¬ r3 = 0 → (qm_PW X 61 [.ref 1, .int l3, .int a] h _))
      refine ⟨fun c6 => ?_, fun c7 => ?_⟩
      · have := ti_eqK 0 rfl c6
        exact ih l2 (l3 + 1) (by have := ti_addK l3 (1 : Int32) 1 rfl; have hF := (o5.2.resolve_left (fun w => absurd w.1 (by omega))).2; exact ⟨by omega, by rw [show (l3 + 1).toInt.toNat = l3.toInt.toNat + 1 by omega, cntP_f (fun w => hF w.1)]; omega⟩) (by have := ti_addK l3 (1 : Int32) 1 rfl; omega)
      · have := ti_neK 0 rfl c7
        refine ty_61 X h l3 a ⟨hm1, hmwc, (by show 0 ≤ l3.toInt ∧ l3.toInt < (h 1 7).toInt; omega)⟩ _ (fun r8 p9 => ?_)
        have o10 : (r8 = 0 ∨ r8 = 1) ∧ ((r8.toInt = 1 ∧ kwA (h 3) (h 4) (h 5) (h 1 7).toInt.toNat l3.toInt.toNat a) ∨ (r8.toInt = 0 ∧ ¬ kwA (h 3) (h 4) (h 5) (h 1 7).toInt.toNat l3.toInt.toNat a)) := p9
        clear p9
        show (¬ r8 = 0 → (qm_PA X 62 4 [(0, .ref 1), (1, .int a), (2, .int l2), (3, .int (l3 + 1))] [] h Q)) ∧ (r8 = 0 → (qm_PA X 62 4 [(0, .ref 1), (1, .int a), (2, .int (l2 + 1)), (3, .int (l3 + 1))] [] h Q))
        refine ⟨fun c11 => ?_, fun c12 => ?_⟩
        · have := ti_neK 0 rfl c11
          exact ih l2 (l3 + 1) (by have := ti_addK l3 (1 : Int32) 1 rfl; have hK := (o10.2.resolve_right (fun w => absurd w.1 (by omega))).2; exact ⟨by omega, by rw [show (l3 + 1).toInt.toNat = l3.toInt.toNat + 1 by omega, cntP_f (fun w => w.2 hK)]; omega⟩) (by have := ti_addK l3 (1 : Int32) 1 rfl; omega)
        · have := ti_eqK 0 rfl c12
          exact ih (l2 + 1) (l3 + 1) (by have := ti_addK l3 (1 : Int32) 1 rfl; have := ti_addK l2 (1 : Int32) 1 rfl; have hF := (o5.2.resolve_right (fun w => absurd w.1 (by omega))).2; have hK := (o10.2.resolve_left (fun w => absurd w.1 (by omega))).2; exact ⟨by omega, by rw [show (l3 + 1).toInt.toNat = l3.toInt.toNat + 1 by omega, cntP_t (P := rkA (h 3) (h 4) (h 5) (h 1 7).toInt.toNat a) ⟨hF, hK⟩]; omega⟩) (by have := ti_addK l3 (1 : Int32) 1 rfl; omega)
set_option maxRecDepth 100000 in
set_option maxHeartbeats 4000000 in
theorem ty_62 (X : qm_X) (h : qm_H) (a : Int32) (hp : mq 1 h ∧ wc h) (Q : qm_Q) (hq : ∀ r : Int32, (r.toInt = cntP (rkA (h 3) (h 4) (h 5) (h 1 7).toInt.toNat a) (h 1 7).toInt.toNat ∧ (0 ≤ r.toInt ∧ r.toInt ≤ 10)) → Q (some (.int r)) h) : qm_PW X 62 [.ref 1, .int a] h Q := by
  have hm1 : mq 1 h := hp.1
  have ⟨⟨_, _⟩, ⟨_, _⟩, _, _⟩ := hm1
  have hmwc : wc h := hp.2
  refine qm_seg_ok (C := qc_62) (rt := some .int) rfl rfl (cuts := [(4, [0, 1, 2, 3])]) 400 _ _ _ _ ?_
  show qm_PA X 62 4 [(0, .ref 1), (1, .int a), (2, .int 0), (3, .int 0)] [] h Q
  exact (ty_62_c X h a hp Q hq _) (0 : Int32) (0 : Int32) (by have : (0 : Int32).toInt = 0 := rfl; exact ⟨by have : (0 : Int32).toInt = 0 := rfl; omega, rfl⟩) (Nat.lt_succ_self _)
-- ThreadBank.risk(I)I
set_option maxRecDepth 100000 in
set_option maxHeartbeats 4000000 in
theorem ty_112 (X : qm_X) (h : qm_H) (a : Int32) (hp : mq 1 h ∧ wc h) (Q : qm_Q) (hq : ∀ r : Int32, (r.toInt = qRisk a.toInt (mC h)) → Q (some (.int r)) h) : qm_PW X 112 [.ref 0, .int a] h Q := by
  have hm1 : mq 1 h := hp.1
  have ⟨⟨_, _⟩, ⟨_, _⟩, _, _⟩ := hm1
  have hmwc : wc h := hp.2
  refine qm_seg_ok (C := qc_112) (rt := some .int) rfl rfl (cuts := []) 400 _ _ _ _ ?_
  show qm_PW X 28 [.ref 1, .int a] h _
  refine ty_28 X h a trivial _ (fun r1 p2 => ?_)
  have o3 : (r1 = 0 ∨ r1 = 1) ∧ ((r1.toInt = 1 ∧ 0 ≤ a.toInt ∧ a.toInt < (h 1 6).toInt) ∨ (r1.toInt = 0 ∧ ¬ (0 ≤ a.toInt ∧ a.toInt < (h 1 6).toInt))) := p2
  clear p2
  show (r1 = 0 → (Q (some (.int (-1 : Int32))) h)) ∧ (¬ r1 = 0 → (qm_PW X 62 [.ref 1, .int (1 <<< (a &&& 31))] h _))
  refine ⟨fun c4 => ?_, fun c5 => ?_⟩
  · have := ti_eqK 0 rfl c4
    exact hq (-1 : Int32) (by show (-1 : Int32).toInt = qRisk a.toInt (mC h); rw [ti_n1]; exact (risk_no (M := mC h) (show ¬ (0 ≤ a.toInt ∧ a.toInt < (h 1 6).toInt) by omega)).symm)
  · have := ti_neK 0 rfl c5
    refine ty_62 X h (1 <<< (a &&& 31)) ⟨hm1, hmwc⟩ _ (fun r6 p7 => ?_)
    have o8 : r6.toInt = cntP (rkA (h 3) (h 4) (h 5) (h 1 7).toInt.toNat (1 <<< (a &&& 31))) (h 1 7).toInt.toNat ∧ (0 ≤ r6.toInt ∧ r6.toInt ≤ 10) := p7
    clear p7
    show Q (some (.int r6)) h
    exact hq r6 (by show r6.toInt = qRisk a.toInt (mC h); exact (rk_sh (c := a) (k := a.toInt.toNat) (by omega) o8.1).trans (show qRisk a.toInt (mC h) = _ from risk_ok (by omega)).symm)
