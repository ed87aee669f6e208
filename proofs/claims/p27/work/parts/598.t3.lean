/-! ===== numbers, stops, lines: what is read against what is told by the pure text ===== -/
noncomputable def nmI (f : Nat → Int32) (s e : Nat) (i v : Int) : Prop := ((s : Int) ≤ i ∧ i ≤ (e : Int)) ∧ (0 ≤ v ∧ v ≤ 99) ∧ ((i = (s : Int) ∧ v = 0) ∨ (i = (s : Int) + 1 ∧ v = (f s).toInt - 48) ∨ (i = (s : Int) + 2 ∧ v = 10 * ((f s).toInt - 48) + ((f (s + 1)).toInt - 48)))
noncomputable def numI (f : Nat → Int32) (n p : Nat) (st e i v : Int) : Prop := tkO f n (tkS f n p) ∧ tkK f n (tkS f n p) = 2 ∧ st = ((tkS f n p : Nat) : Int) ∧ e = ((tkE f n (tkS f n p) : Nat) : Int) ∧ nmI f (tkS f n p) (tkE f n (tkS f n p)) i v
theorem numI_0 {f : Nat → Int32} {n p : Nat} {r st k e fk fp fk0 fp0 : Int} (h : tkR f n p r st k e fk fp fk0 fp0) (hr : ¬ r = 0) (hk : k = 2) : numI f n p st e st 0 ∧ fk = fk0 ∧ fp = fp0 := by
  obtain ⟨h1, h2 | h2⟩ := h
  · have hk2 : tkK f n (tkS f n p) = 2 := h2.2.2.1.symm.trans hk
    have ht := tk_two h2.2.1 hk2
    exact ⟨⟨h2.2.1, hk2, h1, h2.2.2.2.1, ⟨by omega, by omega⟩, by omega, Or.inl ⟨h1, rfl⟩⟩, h2.2.2.2.2⟩
  · exact absurd h2.1 hr
theorem numI_b {f : Nat → Int32} {n p : Nat} {st e i v : Int} (h : numI f n p st e i v) : i < e → 48 ≤ (f i.toNat).toInt ∧ (f i.toNat).toInt ≤ 57 := by
  intro hl
  obtain ⟨ho, hk, _, he, ⟨_, _⟩, _, h3⟩ := h
  have ht := tk_two ho hk
  obtain q | q | q := h3
  · rw [show i.toNat = tkS f n p by omega]; exact ht.2.1
  · rw [show i.toNat = tkS f n p + 1 by omega]; exact ht.2.2 (by omega)
  · exact absurd hl (by omega)
theorem numI_v {f : Nat → Int32} {n p : Nat} {st e i v : Int} (h : numI f n p st e i v) : (0 ≤ v ∧ v ≤ 99) ∧ (0 ≤ i ∧ i ≤ e) := by
  obtain ⟨_, _, _, he, ⟨_, _⟩, h2, _⟩ := h
  exact ⟨h2, by omega, by omega⟩
theorem numI_s {f : Nat → Int32} {n p : Nat} {st e i v i2 v2 b : Int} (h : numI f n p st e i v) (hl : i < e) (hb : b = (f i.toNat).toInt) (hi : i2 = i + 1) (hv : v2 = 10 * v + b - 48) : numI f n p st e i2 v2 := by
  have hb2 := numI_b h hl
  obtain ⟨ho, hk, hs, he, ⟨_, _⟩, _, h3⟩ := h
  have ht := tk_two ho hk
  obtain q | q | q := h3
  · have e1 : i.toNat = tkS f n p := by omega
    rw [e1] at hb hb2
    exact ⟨ho, hk, hs, he, by omega, by omega, Or.inr (Or.inl (by omega))⟩
  · have e1 : i.toNat = tkS f n p + 1 := by omega
    rw [e1] at hb hb2
    exact ⟨ho, hk, hs, he, by omega, by omega, Or.inr (Or.inr (by omega))⟩
  · exact absurd hl (by omega)
theorem numI_e {f : Nat → Int32} {n p : Nat} {r st e i v fk fp fk0 fp0 : Int} (h : numI f n p st e i v) (hl : ¬ i < e) (hr : r = 1) (h4 : fk = fk0) (h5 : fp = fp0) : numR f n p r st e v fk fp fk0 fp0 := by
  obtain ⟨ho, hk, hs, he, ⟨_, _⟩, _, h3⟩ := h
  have ht := tk_two ho hk
  refine Or.inl ⟨hr, ho, hk, hs, he, ?_, h4, h5⟩
  unfold nm
  obtain q | q | q := h3
  · exact absurd hl (by omega)
  · rw [if_pos (by omega)]; exact q.2
  · rw [if_neg (by omega)]; exact q.2
theorem numR_b1 {f : Nat → Int32} {n p : Nat} {r st k e fk fp fk0 fp0 r2 st2 e2 v2 : Int} (h : tkR f n p r st k e fk fp fk0 fp0) (hr : r = 0) (hr2 : r2 = 0) : numR f n p r2 st2 e2 v2 fk fp fk0 fp0 := by
  obtain ⟨h1, h2 | h2⟩ := h
  · exact absurd (h2.1.symm.trans hr) (by decide)
  · exact Or.inr ⟨hr2, Or.inl ⟨h2.2.1, h2.2.2.1⟩, h2.2.2.2⟩
theorem numR_b2 {f : Nat → Int32} {n p : Nat} {r st k e fk fp fk0 fp0 r2 st2 e2 v2 fk2 fp2 : Int} (h : tkR f n p r st k e fk fp fk0 fp0) (hr : ¬ r = 0) (hk : ¬ k = 2) (hr2 : r2 = 0) (h4 : fk2 = 2) (h5 : fp2 = st) : numR f n p r2 st2 e2 v2 fk2 fp2 fk0 fp0 := by
  obtain ⟨h1, h2 | h2⟩ := h
  · exact Or.inr ⟨hr2, Or.inr ⟨h2.2.1, fun q => hk (h2.2.2.1.trans q), h4⟩, h5.trans h1⟩
  · exact absurd h2.1 hr
theorem stopR_b1 {f : Nat → Int32} {n p : Nat} {r st k e fk fp fk0 fp0 r2 e2 : Int} (h : tkR f n p r st k e fk fp fk0 fp0) (hr : r = 0) (hr2 : r2 = 0) : stopR f n p r2 e2 fk fp fk0 fp0 := by
  obtain ⟨h1, h2 | h2⟩ := h
  · exact absurd (h2.1.symm.trans hr) (by decide)
  · exact Or.inr ⟨hr2, Or.inl ⟨h2.2.1, h2.2.2.1⟩, h2.2.2.2⟩
theorem stopR_b2 {f : Nat → Int32} {n p : Nat} {r st k e fk fp fk0 fp0 r2 e2 fk2 fp2 : Int} (h : tkR f n p r st k e fk fp fk0 fp0) (hr : ¬ r = 0) (hk : ¬ k = 3) (hr2 : r2 = 0) (h4 : fk2 = 2) (h5 : fp2 = st) : stopR f n p r2 e2 fk2 fp2 fk0 fp0 := by
  obtain ⟨h1, h2 | h2⟩ := h
  · exact Or.inr ⟨hr2, Or.inr ⟨h2.2.1, fun q => hk (h2.2.2.1.trans q), h4⟩, h5.trans h1⟩
  · exact absurd h2.1 hr
theorem stopR_ok {f : Nat → Int32} {n p : Nat} {r st k e fk fp fk0 fp0 r2 : Int} (h : tkR f n p r st k e fk fp fk0 fp0) (hr : ¬ r = 0) (hk : k = 3) (hr2 : r2 = 1) : stopR f n p r2 e fk fp fk0 fp0 := by
  obtain ⟨h1, h2 | h2⟩ := h
  · exact Or.inl ⟨hr2, h2.2.1, h2.2.2.1.symm.trans hk, h2.2.2.2.1, h2.2.2.2.2.1, h2.2.2.2.2.2⟩
  · exact absurd h2.1 hr
theorem numF_ok {f : Nat → Int32} {n p : Nat} {r st e v fk fp fk0 fp0 : Int} (h : numR f n p r st e v fk fp fk0 fp0) (hr : ¬ r = 0) (k : Nat → Nat → Int → lnT) : numF f n p k = k st.toNat e.toNat v := by
  obtain h2 | h2 := h
  · unfold numF
    rw [if_neg (fun q => q h2.2.1), if_neg (fun q => q h2.2.2.1), show st.toNat = tkS f n p by omega, show e.toNat = tkE f n (tkS f n p) by omega, h2.2.2.2.2.2.1]
  · exact absurd h2.1 hr
theorem numF_bad {f : Nat → Int32} {n p : Nat} {r st e v fk fp fk0 fp0 : Int} (h : numR f n p r st e v fk fp fk0 fp0) (hr : r = 0) (k : Nat → Nat → Int → lnT) : numF f n p k = lnB fk fp.toNat := by
  obtain h2 | ⟨_, h2, h3⟩ := h
  · exact absurd (h2.1.symm.trans hr) (by decide)
  · unfold numF
    rw [show fp.toNat = tkS f n p by omega]
    obtain q | q := h2
    · rw [if_pos q.1, q.2]
    · rw [if_neg (fun z => z q.1), if_pos q.2.1, q.2.2]
theorem stopF_ok {f : Nat → Int32} {n p : Nat} {r e fk fp fk0 fp0 : Int} (h : stopR f n p r e fk fp fk0 fp0) (hr : ¬ r = 0) (k : Nat → lnT) : stopF f n p k = k e.toNat := by
  obtain h2 | h2 := h
  · unfold stopF
    rw [if_neg (fun q => q h2.2.1), if_neg (fun q => q h2.2.2.1), show e.toNat = tkE f n (tkS f n p) by omega]
  · exact absurd h2.1 hr
theorem stopF_bad {f : Nat → Int32} {n p : Nat} {r e fk fp fk0 fp0 : Int} (h : stopR f n p r e fk fp fk0 fp0) (hr : r = 0) (k : Nat → lnT) : stopF f n p k = lnB fk fp.toNat := by
  obtain h2 | ⟨_, h2, h3⟩ := h
  · exact absurd (h2.1.symm.trans hr) (by decide)
  · unfold stopF
    rw [show fp.toNat = tkS f n p by omega]
    obtain q | q := h2
    · rw [if_pos q.1, q.2]
    · rw [if_neg (fun z => z q.1), if_pos q.2.1, q.2.2]
/-- a stop that was read stands behind -/
theorem stopR_gt {f : Nat → Int32} {n p : Nat} {r e fk fp fk0 fp0 : Int} (h : stopR f n p r e fk fp fk0 fp0) (hr : ¬ r = 0) : (p : Int) < e ∧ fk = fk0 ∧ fp = fp0 := by
  obtain h2 | h2 := h
  · have hge : p ≤ tkS f n p := run_ge
    have hns : tkS f n p < n := by
      by_cases q : n ≤ tkS f n p
      · have := (tk_end (f := f) q).1; omega
      · omega
    have he : tkE f n (tkS f n p) = tkS f n p + 1 := by
      have hk := h2.2.2.1
      by_cases q : (f (tkS f n p)).toInt = 59
      · exact (tk_stop hns q).2.1
      · by_cases q2 : 97 ≤ (f (tkS f n p)).toInt ∧ (f (tkS f n p)).toInt ≤ 122
        · have := (tk_name hns q2).1; omega
        · have := (tk_num hns q q2).1; omega
    exact ⟨by omega, h2.2.2.2.2⟩
  · exact absurd h2.1 hr
theorem numR_ok {f : Nat → Int32} {n p : Nat} {r st e v fk fp fk0 fp0 : Int} (h : numR f n p r st e v fk fp fk0 fp0) (hr : ¬ r = 0) : (0 ≤ v ∧ v ≤ 99) ∧ (0 ≤ st ∧ 0 ≤ e) ∧ fk = fk0 ∧ fp = fp0 := by
  obtain h2 | h2 := h
  · have ht := tk_two h2.2.1 h2.2.2.1
    have hv := h2.2.2.2.2.2.1
    refine ⟨?_, ⟨by omega, by omega⟩, h2.2.2.2.2.2.2⟩
    unfold nm at hv
    obtain q | q := ht.1
    · rw [if_pos q] at hv; omega
    · rw [if_neg (by omega)] at hv
      have := ht.2.2 q
      omega
  · exact absurd h2.1 hr
theorem numR_fp {f : Nat → Int32} {n p : Nat} {r st e v fk fp fk0 fp0 : Int} (h : numR f n p r st e v fk fp fk0 fp0) (hr : r = 0) : 0 ≤ fp ∧ ¬ fk = 0 := by
  obtain h2 | ⟨_, h2, h3⟩ := h
  · exact absurd (h2.1.symm.trans hr) (by decide)
  · omega
theorem stopR_fp {f : Nat → Int32} {n p : Nat} {r e fk fp fk0 fp0 : Int} (h : stopR f n p r e fk fp fk0 fp0) (hr : r = 0) : 0 ≤ fp ∧ ¬ fk = 0 := by
  obtain h2 | ⟨_, h2, h3⟩ := h
  · exact absurd (h2.1.symm.trans hr) (by decide)
  · omega
theorem numR_ge {f : Nat → Int32} {n p : Nat} {r st e v fk fp fk0 fp0 : Int} (h : numR f n p r st e v fk fp fk0 fp0) (hr : ¬ r = 0) : (p : Int) ≤ e := by
  obtain h2 | h2 := h
  · have hge : p ≤ tkS f n p := run_ge
    have ht := tk_two h2.2.1 h2.2.2.1
    have := h2.2.2.2.2.1
    omega
  · exact absurd h2.1 hr
-- ThreadBank$TextReader.readNumber()Z
set_option maxRecDepth 100000 in
set_option maxHeartbeats 4000000 in
theorem tx_82_c (X : qm_X) (h : qm_H) (hp : tc h) (Q : qm_Q) (hq : ∀ r : Int32, ∀ h' : qm_H, (tc h' ∧ (∀ k, (k < 23 ∨ 23 < k) → h' k = h k) ∧ (numR (h 24) (h 23 2).toInt.toNat (h 23 6).toInt.toNat r.toInt (h' 23 8).toInt (h' 23 6).toInt (h' 23 9).toInt (h' 23 4).toInt (h' 23 5).toInt (h 23 4).toInt (h 23 5).toInt ∧ (r = 0 ∨ r = 1) ∧ ((h' 23 2).toInt = (h 23 2).toInt) ∧ ((h' 23 3).toInt = (h 23 3).toInt) ∧ ((h' 23 10).toInt = (h 23 10).toInt))) → Q (some (.int r)) h') : ∀ n : Nat, (∀ (l1 : Int32) (g : qm_H), ((numI (h 24) (h 23 2).toInt.toNat (h 23 6).toInt.toNat (g 23 8).toInt (g 23 6).toInt l1.toInt (g 23 9).toInt ∧ (g 23 4).toInt = (h 23 4).toInt ∧ (g 23 5).toInt = (h 23 5).toInt ∧ (g 23 2).toInt = (h 23 2).toInt ∧ (g 23 3).toInt = (h 23 3).toInt ∧ (g 23 10).toInt = (h 23 10).toInt) ∧ tc g ∧ ∀ k, (k < 23 ∨ 23 < k) → g k = h k) → ((g 23 6).toInt - l1.toInt).toNat < n → qm_PA X 82 37 [(0, .ref 23), (1, .int l1)] [] g Q) := by
  have hmtc : tc h := hp
  have ⟨⟨_, _⟩, _, _⟩ := hmtc
  intro n
  induction n with
  | zero => exact fun _ _ _ h0 => absurd h0 (Nat.not_lt_zero _)
  | succ n ih =>
    intro l1 g hi hr
    obtain ⟨hi0, hgtc, hgf⟩ := hi
    have ⟨⟨_, _⟩, _, _⟩ := hgtc
    have e24_g : g 24 = h 24 := hgf 24 (by omega)
    have e2_g : (g 23 2).toInt = (h 23 2).toInt := (by omega)
    have hb := numI_b hi0.1
    have hv := numI_v hi0.1
    have hi2 := hi0.2
    refine qm_seg_ok (C := qc_82) (rt := some .boolean) rfl rfl (cuts := [(37, [0, 1])]) 400 _ _ _ _ ?_
    show ((g 23 6).toInt ≤ l1.toInt → (((1 : Int32) = 0 ∨ (1 : Int32) = 1) ∧ Q (some (.int 1)) g)) ∧ (l1.toInt < (g 23 6).toInt → (qm_PW X 87 [.ref 23, .int l1] g _))
    refine ⟨fun c1 => ?_, fun c2 => ?_⟩
    · exact ⟨Or.inr rfl, hq 1 g ⟨hgtc, (fun k hk => hgf k hk), (by have : (1 : Int32).toInt = 1 := rfl; show numR (h 24) (h 23 2).toInt.toNat (h 23 6).toInt.toNat (1 : Int32).toInt (g 23 8).toInt (g 23 6).toInt (g 23 9).toInt (g 23 4).toInt (g 23 5).toInt (h 23 4).toInt (h 23 5).toInt ∧ ((1 : Int32) = 0 ∨ (1 : Int32) = 1) ∧ ((g 23 2).toInt = (h 23 2).toInt) ∧ ((g 23 3).toInt = (h 23 3).toInt) ∧ ((g 23 10).toInt = (h 23 10).toInt); exact ⟨numI_e hi0.1 (by omega) rfl (by omega) (by omega), Or.inr rfl, by omega⟩)⟩⟩
    · refine tx_87 X g l1 (by show 0 ≤ (g 23 2).toInt ∧ (g 23 2).toInt ≤ 160; omega) _ (fun r3 p4 => ?_)
      have o5 : ((0 ≤ l1.toInt ∧ l1.toInt < (g 23 2).toInt) ∧ r3.toInt = (g 24 l1.toInt.toNat).toInt) ∨ ((l1.toInt < 0 ∨ (g 23 2).toInt ≤ l1.toInt) ∧ r3.toInt = -1) := p4
      show qm_PA X 82 37 [(0, .ref 23), (1, .int (l1 + 1))] [] (qm_row g 23 (upd (g 23) 9 (((10 * (g 23 9)) + r3) - 48))) Q
      exact ih (l1 + 1) (qm_row g 23 (upd (g 23) 9 (((10 * (g 23 9)) + r3) - 48))) ⟨(by have := ti_addK l1 (1 : Int32) 1 rfl; have := ti_mulL (10 : Int32) 10 rfl (g 23 9); have := ti_add (10 * (g 23 9)) r3; have := ti_subK ((10 * (g 23 9)) + r3) (48 : Int32) 48 rfl; show numI (h 24) (h 23 2).toInt.toNat (h 23 6).toInt.toNat (g 23 8).toInt (g 23 6).toInt (l1 + 1).toInt (((10 * (g 23 9)) + r3) - 48).toInt ∧ (g 23 4).toInt = (h 23 4).toInt ∧ (g 23 5).toInt = (h 23 5).toInt ∧ (g 23 2).toInt = (h 23 2).toInt ∧ (g 23 3).toInt = (h 23 3).toInt ∧ (g 23 10).toInt = (h 23 10).toInt; rw [e24_g] at o5; exact ⟨numI_s (b := r3.toInt) hi0.1 (by omega) (by omega) (by omega) (by omega), by omega⟩), (by have ⟨⟨_, _⟩, _, _⟩ := hmtc; have ⟨⟨_, _⟩, _, _⟩ := hgtc; show (0 ≤ (g 23 2).toInt ∧ (g 23 2).toInt ≤ 160) ∧ (0 ≤ (g 23 6).toInt ∧ (g 23 6).toInt ≤ (g 23 2).toInt); omega), (fun k hk => by simp only [qm_row]; rw [if_neg (by omega)]; exact hgf k hk)⟩ (by have := ti_addK l1 (1 : Int32) 1 rfl; show ((g 23 6).toInt - (l1 + 1).toInt).toNat < n; omega)
set_option maxRecDepth 100000 in
set_option maxHeartbeats 4000000 in
theorem tx_82 (X : qm_X) (h : qm_H) (hp : tc h) (Q : qm_Q) (hq : ∀ r : Int32, ∀ h' : qm_H, (tc h' ∧ (∀ k, (k < 23 ∨ 23 < k) → h' k = h k) ∧ (numR (h 24) (h 23 2).toInt.toNat (h 23 6).toInt.toNat r.toInt (h' 23 8).toInt (h' 23 6).toInt (h' 23 9).toInt (h' 23 4).toInt (h' 23 5).toInt (h 23 4).toInt (h 23 5).toInt ∧ (r = 0 ∨ r = 1) ∧ ((h' 23 2).toInt = (h 23 2).toInt) ∧ ((h' 23 3).toInt = (h 23 3).toInt) ∧ ((h' 23 10).toInt = (h 23 10).toInt))) → Q (some (.int r)) h') : qm_PW X 82 [.ref 23] h Q := by
  have hmtc : tc h := hp
  have ⟨⟨_, _⟩, _, _⟩ := hmtc
  refine qm_seg_ok (C := qc_82) (rt := some .boolean) rfl rfl (cuts := [(37, [0, 1])]) 400 _ _ _ _ ?_
  show qm_PW X 85 [.ref 23] h _
  refine tx_85 X h  hmtc _ (fun r1 g2 p3 => ?_)
  have f4 : ∀ k, (k < 23 ∨ 23 < k) → g2 k = h k := fun k hk => (p3.2.1 k (by omega)).trans (rfl)
  have o5 : tkR (h 24) (h 23 2).toInt.toNat (h 23 6).toInt.toNat r1.toInt (g2 23 8).toInt (g2 23 7).toInt (g2 23 6).toInt (g2 23 4).toInt (g2 23 5).toInt (h 23 4).toInt (h 23 5).toInt ∧ (r1 = 0 ∨ r1 = 1) ∧ ((g2 23 2).toInt = (h 23 2).toInt) ∧ ((g2 23 3).toInt = (h 23 3).toInt) ∧ ((g2 23 10).toInt = (h 23 10).toInt) := p3.2.2
  have e24_g2 : g2 24 = h 24 := (p3.2.1 24 (by omega))
  have e2_g2 : (g2 23 2).toInt = (h 23 2).toInt := (by omega)
  show (¬ r1 = 0 → (((g2 23 7) = 2 → (qm_PA X 82 37 [(0, .ref 23), (1, .int (g2 23 8))] [] (qm_row g2 23 (upd (g2 23) 9 0)) Q)) ∧ (¬ (g2 23 7) = 2 → (qm_PW X 78 [.ref 23, .int 2, .int (g2 23 8)] g2 _)))) ∧ (r1 = 0 → (((0 : Int32) = 0 ∨ (0 : Int32) = 1) ∧ Q (some (.int 0)) g2))
  refine ⟨fun c6 => ?_, fun c7 => ?_⟩
  · have := ti_neK 0 rfl c6
    refine ⟨fun c8 => ?_, fun c9 => ?_⟩
    · have := ti_eqK 2 rfl c8
      exact (tx_82_c X h hp Q hq _) (g2 23 8) (qm_row g2 23 (upd (g2 23) 9 0)) ⟨(by have : (0 : Int32).toInt = 0 := rfl; show numI (h 24) (h 23 2).toInt.toNat (h 23 6).toInt.toNat (g2 23 8).toInt (g2 23 6).toInt (g2 23 8).toInt (0 : Int32).toInt ∧ (g2 23 4).toInt = (h 23 4).toInt ∧ (g2 23 5).toInt = (h 23 5).toInt ∧ (g2 23 2).toInt = (h 23 2).toInt ∧ (g2 23 3).toInt = (h 23 3).toInt ∧ (g2 23 10).toInt = (h 23 10).toInt; exact ⟨(numI_0 o5.1 (by omega) (by omega)).1, by have := (numI_0 o5.1 (by omega) (by omega)).2; omega⟩), (by have ⟨⟨_, _⟩, _, _⟩ := hmtc; have ⟨⟨_, _⟩, _, _⟩ := p3.1; show (0 ≤ (g2 23 2).toInt ∧ (g2 23 2).toInt ≤ 160) ∧ (0 ≤ (g2 23 6).toInt ∧ (g2 23 6).toInt ≤ (g2 23 2).toInt); omega), (fun k hk => by simp only [qm_row]; rw [if_neg (by omega)]; exact f4 k hk)⟩ (Nat.lt_succ_self _)
    · have := ti_neK 2 rfl c9
      refine tx_78 X g2 (2 : Int32) (g2 23 8) trivial _ (fun r10 g11 p12 => ?_)
      have f13 : ∀ k, (k < 23 ∨ 23 < k) → g11 k = h k := fun k hk => (p12.1 k (by omega)).trans (f4 k hk)
      have o14 : (r10 = 0 ∨ r10 = 1) ∧ r10.toInt = 0 ∧ (g11 23 4).toInt = (2 : Int32).toInt ∧ (g11 23 5).toInt = (g2 23 8).toInt ∧ ((g11 23 2).toInt = (g2 23 2).toInt) ∧ ((g11 23 3).toInt = (g2 23 3).toInt) ∧ ((g11 23 6).toInt = (g2 23 6).toInt) ∧ ((g11 23 7).toInt = (g2 23 7).toInt) ∧ ((g11 23 8).toInt = (g2 23 8).toInt) ∧ ((g11 23 9).toInt = (g2 23 9).toInt) ∧ ((g11 23 10).toInt = (g2 23 10).toInt) := p12.2
      have e24_g11 : g11 24 = h 24 := (p12.1 24 (by omega)).trans e24_g2
      have e2_g11 : (g11 23 2).toInt = (h 23 2).toInt := (by omega)
      (try rw [e24_g2] at o14); (try rw [e2_g2] at o14)
      show (r10 = 0 ∨ r10 = 1) ∧ Q (some (.int r10)) g11
      exact ⟨p12.2.1, hq r10 g11 ⟨(by have ⟨⟨_, _⟩, _, _⟩ := hmtc; have ⟨⟨_, _⟩, _, _⟩ := p3.1; show (0 ≤ (g11 23 2).toInt ∧ (g11 23 2).toInt ≤ 160) ∧ (0 ≤ (g11 23 6).toInt ∧ (g11 23 6).toInt ≤ (g11 23 2).toInt); have : (2 : Int32).toInt = 2 := rfl; omega), (fun k hk => f13 k hk), (by have : (2 : Int32).toInt = 2 := rfl; show numR (h 24) (h 23 2).toInt.toNat (h 23 6).toInt.toNat r10.toInt (g11 23 8).toInt (g11 23 6).toInt (g11 23 9).toInt (g11 23 4).toInt (g11 23 5).toInt (h 23 4).toInt (h 23 5).toInt ∧ (r10 = 0 ∨ r10 = 1) ∧ ((g11 23 2).toInt = (h 23 2).toInt) ∧ ((g11 23 3).toInt = (h 23 3).toInt) ∧ ((g11 23 10).toInt = (h 23 10).toInt); exact ⟨numR_b2 o5.1 (by omega) (by omega) (by omega) (by omega) (by omega), p12.2.1, by omega⟩)⟩⟩
  · have := ti_eqK 0 rfl c7
    exact ⟨Or.inl rfl, hq 0 g2 ⟨p3.1, (fun k hk => f4 k hk), (by have : (0 : Int32).toInt = 0 := rfl; show numR (h 24) (h 23 2).toInt.toNat (h 23 6).toInt.toNat (0 : Int32).toInt (g2 23 8).toInt (g2 23 6).toInt (g2 23 9).toInt (g2 23 4).toInt (g2 23 5).toInt (h 23 4).toInt (h 23 5).toInt ∧ ((0 : Int32) = 0 ∨ (0 : Int32) = 1) ∧ ((g2 23 2).toInt = (h 23 2).toInt) ∧ ((g2 23 3).toInt = (h 23 3).toInt) ∧ ((g2 23 10).toInt = (h 23 10).toInt); exact ⟨numR_b1 o5.1 (by omega) rfl, Or.inl rfl, by omega⟩)⟩⟩
-- ThreadBank$TextReader.readStop()Z
set_option maxRecDepth 100000 in
set_option maxHeartbeats 4000000 in
theorem tx_83 (X : qm_X) (h : qm_H) (hp : tc h) (Q : qm_Q) (hq : ∀ r : Int32, ∀ h' : qm_H, (tc h' ∧ (∀ k, (k < 23 ∨ 23 < k) → h' k = h k) ∧ (stopR (h 24) (h 23 2).toInt.toNat (h 23 6).toInt.toNat r.toInt (h' 23 6).toInt (h' 23 4).toInt (h' 23 5).toInt (h 23 4).toInt (h 23 5).toInt ∧ (r = 0 ∨ r = 1) ∧ ((h' 23 2).toInt = (h 23 2).toInt) ∧ ((h' 23 3).toInt = (h 23 3).toInt) ∧ ((h' 23 10).toInt = (h 23 10).toInt))) → Q (some (.int r)) h') : qm_PW X 83 [.ref 23] h Q := by
  have hmtc : tc h := hp
  have ⟨⟨_, _⟩, _, _⟩ := hmtc
  refine qm_seg_ok (C := qc_83) (rt := some .boolean) rfl rfl (cuts := []) 400 _ _ _ _ ?_
  show qm_PW X 85 [.ref 23] h _
  refine tx_85 X h  hmtc _ (fun r1 g2 p3 => ?_)
  have f4 : ∀ k, (k < 23 ∨ 23 < k) → g2 k = h k := fun k hk => (p3.2.1 k (by omega)).trans (rfl)
  have o5 : tkR (h 24) (h 23 2).toInt.toNat (h 23 6).toInt.toNat r1.toInt (g2 23 8).toInt (g2 23 7).toInt (g2 23 6).toInt (g2 23 4).toInt (g2 23 5).toInt (h 23 4).toInt (h 23 5).toInt ∧ (r1 = 0 ∨ r1 = 1) ∧ ((g2 23 2).toInt = (h 23 2).toInt) ∧ ((g2 23 3).toInt = (h 23 3).toInt) ∧ ((g2 23 10).toInt = (h 23 10).toInt) := p3.2.2
  have e24_g2 : g2 24 = h 24 := (p3.2.1 24 (by omega))
  have e2_g2 : (g2 23 2).toInt = (h 23 2).toInt := (by omega)
  show (r1 = 0 → (((0 : Int32) = 0 ∨ (0 : Int32) = 1) ∧ Q (some (.int 0)) g2)) ∧ (¬ r1 = 0 → (((g2 23 7) = 3 → (((1 : Int32) = 0 ∨ (1 : Int32) = 1) ∧ Q (some (.int 1)) g2)) ∧ (¬ (g2 23 7) = 3 → (qm_PW X 78 [.ref 23, .int 2, .int (g2 23 8)] g2 _))))
  refine ⟨fun c6 => ?_, fun c7 => ?_⟩
  · have := ti_eqK 0 rfl c6
    exact ⟨Or.inl rfl, hq 0 g2 ⟨p3.1, (fun k hk => f4 k hk), (by have : (0 : Int32).toInt = 0 := rfl; show stopR (h 24) (h 23 2).toInt.toNat (h 23 6).toInt.toNat (0 : Int32).toInt (g2 23 6).toInt (g2 23 4).toInt (g2 23 5).toInt (h 23 4).toInt (h 23 5).toInt ∧ ((0 : Int32) = 0 ∨ (0 : Int32) = 1) ∧ ((g2 23 2).toInt = (h 23 2).toInt) ∧ ((g2 23 3).toInt = (h 23 3).toInt) ∧ ((g2 23 10).toInt = (h 23 10).toInt); first | exact ⟨stopR_b1 o5.1 (by omega) rfl, Or.inl rfl, by omega⟩ | exact ⟨stopR_ok o5.1 (by omega) (by omega) rfl, Or.inr rfl, by omega⟩ | exact ⟨stopR_b2 o5.1 (by omega) (by omega) rfl (by omega) (by omega), Or.inl rfl, by omega⟩ | (exfalso; omega))⟩⟩
  · have := ti_neK 0 rfl c7
    refine ⟨fun c8 => ?_, fun c9 => ?_⟩
    · have := ti_eqK 3 rfl c8
      exact ⟨Or.inr rfl, hq 1 g2 ⟨p3.1, (fun k hk => f4 k hk), (by have : (1 : Int32).toInt = 1 := rfl; show stopR (h 24) (h 23 2).toInt.toNat (h 23 6).toInt.toNat (1 : Int32).toInt (g2 23 6).toInt (g2 23 4).toInt (g2 23 5).toInt (h 23 4).toInt (h 23 5).toInt ∧ ((1 : Int32) = 0 ∨ (1 : Int32) = 1) ∧ ((g2 23 2).toInt = (h 23 2).toInt) ∧ ((g2 23 3).toInt = (h 23 3).toInt) ∧ ((g2 23 10).toInt = (h 23 10).toInt); first | exact ⟨stopR_b1 o5.1 (by omega) rfl, Or.inl rfl, by omega⟩ | exact ⟨stopR_ok o5.1 (by omega) (by omega) rfl, Or.inr rfl, by omega⟩ | exact ⟨stopR_b2 o5.1 (by omega) (by omega) rfl (by omega) (by omega), Or.inl rfl, by omega⟩ | (exfalso; omega))⟩⟩
    · have := ti_neK 3 rfl c9
      refine tx_78 X g2 (2 : Int32) (g2 23 8) trivial _ (fun r10 g11 p12 => ?_)
      have f13 : ∀ k, (k < 23 ∨ 23 < k) → g11 k = h k := fun k hk => (p12.1 k (by omega)).trans (f4 k hk)
      have o14 : (r10 = 0 ∨ r10 = 1) ∧ r10.toInt = 0 ∧ (g11 23 4).toInt = (2 : Int32).toInt ∧ (g11 23 5).toInt = (g2 23 8).toInt ∧ ((g11 23 2).toInt = (g2 23 2).toInt) ∧ ((g11 23 3).toInt = (g2 23 3).toInt) ∧ ((g11 23 6).toInt = (g2 23 6).toInt) ∧ ((g11 23 7).toInt = (g2 23 7).toInt) ∧ ((g11 23 8).toInt = (g2 23 8).toInt) ∧ ((g11 23 9).toInt = (g2 23 9).toInt) ∧ ((g11 23 10).toInt = (g2 23 10).toInt) := p12.2
      have e24_g11 : g11 24 = h 24 := (p12.1 24 (by omega)).trans e24_g2
      have e2_g11 : (g11 23 2).toInt = (h 23 2).toInt := (by omega)
      (try rw [e24_g2] at o14); (try rw [e2_g2] at o14)
      show (r10 = 0 → (((0 : Int32) = 0 ∨ (0 : Int32) = 1) ∧ Q (some (.int 0)) g11)) ∧ (¬ r10 = 0 → (((1 : Int32) = 0 ∨ (1 : Int32) = 1) ∧ Q (some (.int 1)) g11))
      refine ⟨fun c15 => ?_, fun c16 => ?_⟩
      · have := ti_eqK 0 rfl c15
        exact ⟨Or.inl rfl, hq 0 g11 ⟨(by have ⟨⟨_, _⟩, _, _⟩ := hmtc; have ⟨⟨_, _⟩, _, _⟩ := p3.1; show (0 ≤ (g11 23 2).toInt ∧ (g11 23 2).toInt ≤ 160) ∧ (0 ≤ (g11 23 6).toInt ∧ (g11 23 6).toInt ≤ (g11 23 2).toInt); have : (2 : Int32).toInt = 2 := rfl; omega), (fun k hk => f13 k hk), (by have : (2 : Int32).toInt = 2 := rfl; have : (0 : Int32).toInt = 0 := rfl; show stopR (h 24) (h 23 2).toInt.toNat (h 23 6).toInt.toNat (0 : Int32).toInt (g11 23 6).toInt (g11 23 4).toInt (g11 23 5).toInt (h 23 4).toInt (h 23 5).toInt ∧ ((0 : Int32) = 0 ∨ (0 : Int32) = 1) ∧ ((g11 23 2).toInt = (h 23 2).toInt) ∧ ((g11 23 3).toInt = (h 23 3).toInt) ∧ ((g11 23 10).toInt = (h 23 10).toInt); first | exact ⟨stopR_b1 o5.1 (by omega) rfl, Or.inl rfl, by omega⟩ | exact ⟨stopR_ok o5.1 (by omega) (by omega) rfl, Or.inr rfl, by omega⟩ | exact ⟨stopR_b2 o5.1 (by omega) (by omega) rfl (by omega) (by omega), Or.inl rfl, by omega⟩ | (exfalso; omega))⟩⟩
      · have := ti_neK 0 rfl c16
        exact ⟨Or.inr rfl, hq 1 g11 ⟨(by have ⟨⟨_, _⟩, _, _⟩ := hmtc; have ⟨⟨_, _⟩, _, _⟩ := p3.1; show (0 ≤ (g11 23 2).toInt ∧ (g11 23 2).toInt ≤ 160) ∧ (0 ≤ (g11 23 6).toInt ∧ (g11 23 6).toInt ≤ (g11 23 2).toInt); have : (2 : Int32).toInt = 2 := rfl; omega), (fun k hk => f13 k hk), (by have : (2 : Int32).toInt = 2 := rfl; have : (1 : Int32).toInt = 1 := rfl; show stopR (h 24) (h 23 2).toInt.toNat (h 23 6).toInt.toNat (1 : Int32).toInt (g11 23 6).toInt (g11 23 4).toInt (g11 23 5).toInt (h 23 4).toInt (h 23 5).toInt ∧ ((1 : Int32) = 0 ∨ (1 : Int32) = 1) ∧ ((g11 23 2).toInt = (h 23 2).toInt) ∧ ((g11 23 3).toInt = (h 23 3).toInt) ∧ ((g11 23 10).toInt = (h 23 10).toInt); first | exact ⟨stopR_b1 o5.1 (by omega) rfl, Or.inl rfl, by omega⟩ | exact ⟨stopR_ok o5.1 (by omega) (by omega) rfl, Or.inr rfl, by omega⟩ | exact ⟨stopR_b2 o5.1 (by omega) (by omega) rfl (by omega) (by omega), Or.inl rfl, by omega⟩ | (exfalso; omega))⟩⟩
