/-! ===== what the reference checks behind all ===== -/
noncomputable def cntD (f : Nat → Int32) : Nat → Int → Int
  | 0, _ => 0
  | k + 1, x => cntD f k x + (if (f (6 + 3 * k)).toInt = x then 1 else 0)
theorem cntD_rng {f : Nat → Int32} {x : Int} : ∀ k : Nat, 0 ≤ cntD f k x ∧ cntD f k x ≤ (k : Int)
  | 0 => ⟨Int.le_refl _, Int.le_refl _⟩
  | k + 1 => by
    have h := cntD_rng (f := f) (x := x) k
    show 0 ≤ cntD f k x + (if (f (6 + 3 * k)).toInt = x then 1 else 0) ∧ cntD f k x + (if (f (6 + 3 * k)).toInt = x then 1 else 0) ≤ ((k + 1 : Nat) : Int)
    split
    · omega
    · omega
theorem cntD_pos {f : Nat → Int32} {k : Nat} {x : Int} (h : (f (6 + 3 * k)).toInt = x) : cntD f (k + 1) x = cntD f k x + 1 := by
  show cntD f k x + (if (f (6 + 3 * k)).toInt = x then 1 else 0) = _
  rw [if_pos h]
theorem cntD_neg {f : Nat → Int32} {k : Nat} {x : Int} (h : ¬ (f (6 + 3 * k)).toInt = x) : cntD f (k + 1) x = cntD f k x := by
  show cntD f k x + (if (f (6 + 3 * k)).toInt = x then 1 else 0) = _
  rw [if_neg h, Int.add_zero]
/-- FINGER b of CLERK c has no more than its ROOM -/
noncomputable def ftD (f : Nat → Int32) (nt : Nat) (c b : Nat) : Prop := cntD f nt (10 * (c : Int) + (b : Int)) ≤ rmF (f c).toInt (b : Int)
noncomputable def ftA (f : Nat → Int32) (nt nc : Nat) : Prop := ∀ c b : Nat, c < nc → b < 5 → ftD f nt c b
/-- all FINGERS before (c, b) fit and l is 1; or not all fit and l is 0 -/
noncomputable def ftI (f : Nat → Int32) (nt nc : Nat) (l c b : Int) : Prop := (l = 1 ∧ ∀ i j : Nat, ((i : Int) < c ∨ ((i : Int) = c ∧ (j : Int) < b)) → j < 5 → ftD f nt i j) ∨ (l = 0 ∧ ¬ ftA f nt nc)
theorem ftI_0 {f : Nat → Int32} {nt nc : Nat} {l c : Int} (hl : l = 1) (hc : c = 0) : ftI f nt nc l c 0 := Or.inl ⟨hl, fun i j h => by omega⟩
theorem ftI_up {f : Nat → Int32} {nt nc : Nat} {l c c2 b : Int} (h : ftI f nt nc l c b) (hb : 5 ≤ b) (hc : c2 = c + 1) : ftI f nt nc l c2 0 := by
  obtain q | q := h
  · exact Or.inl ⟨q.1, fun i j hi hj => q.2 i j (by omega) hj⟩
  · exact Or.inr q
theorem ftI_b0 {f : Nat → Int32} {nt nc : Nat} {l c b : Int} (h : ftI f nt nc l c 0) (hb : b = 0) : ftI f nt nc l c b := by subst hb; exact h
theorem ftI_no {f : Nat → Int32} {nt nc : Nat} {l l2 c c2 b b2 : Int} (h : ftI f nt nc l c b) (hl : l = 0) (h2 : l2 = 0) : ftI f nt nc l2 c2 b2 := by
  obtain q | q := h
  · exact absurd (q.1.symm.trans hl) (by decide)
  · exact Or.inr ⟨h2, q.2⟩
theorem ftI_st {f : Nat → Int32} {nt nc : Nat} {l l2 c b b2 m r : Int} (h : ftI f nt nc l c b) (hl : ¬ l = 0) (hc : 0 ≤ c ∧ c < (nc : Int)) (hb : 0 ≤ b ∧ b < 5) (hm : m = cntD f nt (10 * c + b)) (hr : r = rmF (f c.toNat).toInt b) (hb2 : b2 = b + 1) (hs : (m ≤ r ∧ l2 = 1) ∨ (¬ m ≤ r ∧ l2 = 0)) : ftI f nt nc l2 c b2 := by
  obtain q | q := h
  · have key : ftD f nt c.toNat b.toNat ↔ m ≤ r := by
      unfold ftD
      rw [hm, hr, show ((c.toNat : Nat) : Int) = c by omega, show ((b.toNat : Nat) : Int) = b by omega]
    obtain s | s := hs
    · refine Or.inl ⟨s.2, fun i j hi hj => ?_⟩
      by_cases e : (i : Int) = c ∧ (j : Int) = b
      · rw [show i = c.toNat by omega, show j = b.toNat by omega]
        exact key.mpr s.1
      · exact q.2 i j (by omega) hj
    · exact Or.inr ⟨s.2, fun z => s.1 (key.mp (z c.toNat b.toNat (by omega) (by omega)))⟩
  · exact absurd q.1 hl
theorem ftI_e {f : Nat → Int32} {nt nc : Nat} {l c b : Int} (h : ftI f nt nc l c b) (hc : (nc : Int) ≤ c) : (l = 1 ∧ ftA f nt nc) ∨ (l = 0 ∧ ¬ ftA f nt nc) := by
  obtain q | q := h
  · exact Or.inl ⟨q.1, fun i j hi hj => q.2 i j (by omega) hj⟩
  · exact Or.inr q
theorem rmF_1 {k f : Int} (hk : k = 1) : (f = 3 → rmF k f = 0) ∧ (¬ f = 3 → rmF k f = 2) := by
  unfold rmF
  constructor
  · intro h; rw [if_pos (by omega)]
  · intro h; rw [if_neg (by omega), if_neg (by omega), if_neg (by omega)]
theorem rmF_2 {k f : Int} (hk : k = 2) : (f = 3 → rmF k f = 0) ∧ (¬ f = 3 → rmF k f = 3) := by
  unfold rmF
  constructor
  · intro h; rw [if_pos (by omega)]
  · intro h; rw [if_neg (by omega), if_pos (by omega)]
theorem rmF_3 {k f : Int} (hk : k = 3) : rmF k f = 1 := by
  unfold rmF
  rw [if_neg (by omega), if_neg (by omega), if_pos (by omega)]
theorem rmF_d {k f : Int} (hk : ¬ k = 1 ∧ ¬ k = 2 ∧ ¬ k = 3) : rmF k f = 2 := by
  unfold rmF
  rw [if_neg (by omega), if_neg (by omega), if_neg (by omega)]
/-! against what is told -/
theorem cntS_some {pl : Nat → Int} {x : Int} : ∀ k : Nat, 0 < cntS pl k x → ∃ j : Nat, j < k ∧ pl j = x
  | 0, h => absurd h (by show ¬ (0 : Int) < 0; omega)
  | k + 1, h => by
    have h2 : 0 < cntS pl k x + (if pl k = x then 1 else 0) := h
    by_cases q : pl k = x
    · exact ⟨k, Nat.lt_succ_self _, q⟩
    · rw [if_neg q, Int.add_zero] at h2
      obtain ⟨j, hj, e⟩ := cntS_some k h2
      exact ⟨j, by omega, e⟩
theorem cntD_eq {f : Nat → Int32} {pl : Nat → Int} {n : Nat} {x : Int} (h : ∀ j : Nat, j < n → (f (6 + 3 * j)).toInt = pl j) : ∀ k : Nat, k ≤ n → cntD f k x = cntS pl k x
  | 0, _ => rfl
  | k + 1, hk => by
    show cntD f k x + (if (f (6 + 3 * k)).toInt = x then 1 else 0) = cntS pl k x + (if pl k = x then 1 else 0)
    rw [cntD_eq h k (by omega), h k (by omega)]
theorem ft_ck {S : tS} {h : qm_H} (hc : rP S h) (hw : wfS S) (h6 : ck6 S) : ftA (h 43) (h 43 4).toInt.toNat (h 39 5).toInt.toNat ↔ ck7 S := by
  obtain ⟨⟨a1, a2, a3, a4⟩, b1, b2⟩ := hc
  obtain ⟨_, w1, w2⟩ := hw
  rw [show (h 43 4).toInt.toNat = S.2.1 by omega, show (h 39 5).toInt.toNat = S.1 by omega]
  have hcn : ∀ x : Int, cntD (h 43) S.2.1 x = cntS S.2.2.2.2.2.1 S.2.1 x := fun x => cntD_eq (fun i hi => (b2 i hi).1) S.2.1 (Nat.le_refl _)
  constructor
  · intro q j hj
    have w := w2 j hj
    have s := h6 j hj
    have z := q (S.2.2.2.2.2.1 j / 10).toNat (S.2.2.2.2.2.1 j % 10).toNat (by omega) (by omega)
    unfold ftD at z
    rw [hcn, b1 _ (by omega), show 10 * (((S.2.2.2.2.2.1 j / 10).toNat : Nat) : Int) + (((S.2.2.2.2.2.1 j % 10).toNat : Nat) : Int) = S.2.2.2.2.2.1 j by omega, show (((S.2.2.2.2.2.1 j % 10).toNat : Nat) : Int) = S.2.2.2.2.2.1 j % 10 by omega] at z
    exact z
  · intro q c b hcl hb
    unfold ftD
    rw [hcn, b1 c hcl]
    by_cases z : 0 < cntS S.2.2.2.2.2.1 S.2.1 (10 * (c : Int) + (b : Int))
    · obtain ⟨j, hj, e⟩ := cntS_some _ z
      have y := q j hj
      rw [e, show (10 * (c : Int) + (b : Int)) % 10 = (b : Int) by omega, show ((10 * (c : Int) + (b : Int)) / 10).toNat = c by omega] at y
      exact y
    · have := rmF_rng (k := S.2.2.2.2.1 c) (f := (b : Int))
      omega
theorem hi_ck {S : tS} {h : qm_H} (hc : rP S h) : (h 39 7).toInt < (h 39 5).toInt ↔ ck6 S := by
  obtain ⟨⟨a1, a2, a3, a4⟩, _, _⟩ := hc
  rw [a4, a1, hiS_lt]
  constructor
  · intro q j hj; exact q.2 j hj
  · intro q; exact ⟨by omega, fun j hj => q j hj⟩
theorem rT_0 {g : qm_H} (h5 : (g 39 5).toInt = 0) (h4 : (g 43 4).toInt = 0) (h55 : (g 43 5).toInt = 0) (h7 : (g 39 7).toInt = -4) (h6 : (g 39 6).toInt = 0) : rT txS g := ⟨⟨⟨h5, h4, h55, h7⟩, fun j hj => absurd hj (Nat.not_lt_zero _), fun j hj => absurd hj (Nat.not_lt_zero _)⟩, h6⟩
theorem rfI_le {f : Nat → Int32} {n : Nat} {i F W st k e v : Int} {g : qm_H} (h : rfI f n i F W st k e v g) : F = 0 → (e ≤ (n : Int) ∧ 0 ≤ st ∧ st ≤ e) ∧ (0 ≤ (g 39 6).toInt ∧ (g 39 6).toInt ≤ 1) := by
  intro hF
  obtain q | ⟨_, S, p, W0, hx, c, hw, hp, hS⟩ := h
  · exact absurd hF q.1
  · have hkp := nxR_kp hx
    have hk2 := hkp.2.2 hF
    have hd := hw.1.2.2.1
    have hc := c.2
    obtain ⟨_, u | u⟩ := hx
    · have := tkE_le (f := f) (tkS_le (f := f) hp.2)
      exact ⟨⟨by omega, hkp.1, hk2.2.1⟩, by omega⟩
    · exact absurd (hF.symm.trans u.2.1) (by decide)
theorem rfI_bad {f : Nat → Int32} {n : Nat} {i F W st k e v : Int} {g : qm_H} (h : rfI f n i F W st k e v g) (hF : ¬ F = 0) : (txF f n 161 0 0 txS).1 = F ∧ ((txF f n 161 0 0 txS).2.1 : Int) = W ∧ 0 ≤ W ∧ W ≤ (n : Int) := by
  have hP := txF_P (f := f) (n := n) 161 0 0 txS (Nat.zero_le _)
  obtain q | q := h
  · exact ⟨q.2.1, q.2.2, by omega, by omega⟩
  · exact absurd q.1 hF
theorem rfI_end {f : Nat → Int32} {n : Nat} {i F W st k e v : Int} {g : qm_H} (h : rfI f n i F W st k e v g) (hF : F = 0) (hk : k = 0) (h0 : 0 ≤ i) (hn : n ≤ 160) : st = (n : Int) ∧ ∃ S : tS, txF f n 161 0 0 txS = (0, 0, i.toNat, S) ∧ rT S g ∧ wfS S := by
  obtain q | ⟨_, S, p, W0, hx, c, hw, hp, hS⟩ := h
  · exact absurd hF q.1
  · obtain ⟨h1, u | u⟩ := hx
    · have hz := u.2.1.symm.trans hk
      rw [show (161 - i).toNat = (160 - i).toNat + 1 by omega, txF_end u.1 hz] at hS
      refine ⟨?_, S, hS.symm, c, hw⟩
      have hle := tkS_le (f := f) hp.2
      by_cases hn2 : n ≤ tkS f n p
      · omega
      · by_cases h59 : (f (tkS f n p)).toInt = 59
        · have := (tk_stop (f := f) (n := n) (s := tkS f n p) (by omega) h59).1; omega
        · by_cases haz : 97 ≤ (f (tkS f n p)).toInt ∧ (f (tkS f n p)).toInt ≤ 122
          · have := (tk_name (f := f) (n := n) (s := tkS f n p) (by omega) haz).1; omega
          · have := (tk_num (f := f) (n := n) (s := tkS f n p) (by omega) h59 haz).1; omega
    · exact absurd (hF.symm.trans u.2.1) (by decide)
theorem txQ_bad {R : tR} {r fk n F W : Int} (hF : ¬ F = 0) (h : R.1 = F ∧ (R.2.1 : Int) = W) (hf : fk = F) (hr : r = -10 - W) : txQ R r fk n := Or.inl ⟨by omega, by omega, by omega⟩
theorem txQ_6 {R : tR} {r fk n : Int} {S : tS} {i : Nat} (h : R = (0, 0, i, S)) (h6 : ¬ ck6 S) (hf : fk = 6) (hr : r = -10 - n) : txQ R r fk n := by
  subst h; exact Or.inr (Or.inl ⟨rfl, h6, hf, hr⟩)
theorem txQ_7 {R : tR} {r fk n : Int} {S : tS} {i : Nat} (h : R = (0, 0, i, S)) (h6 : ck6 S) (h7 : ¬ ck7 S) (hf : fk = 7) (hr : r = -10 - n) : txQ R r fk n := by
  subst h; exact Or.inr (Or.inr (Or.inl ⟨rfl, h6, h7, hf, hr⟩))
theorem txQ_ok {R : tR} {r fk n : Int} {S : tS} {i : Nat} (h : R = (0, 0, i, S)) (h6 : ck6 S) (h7 : ck7 S) (hf : fk = 0) (hr : r = (i : Int)) : txQ R r fk n := by
  subst h; exact Or.inr (Or.inr (Or.inr ⟨rfl, h6, h7, hf, hr⟩))
/-- the class's, out of rdQ -/
theorem txQ_rd0 {R : tR} {r fk fp ln n x : Int} {g : qm_H} (h : rdQ R r fk fp ln n g) (hr : r = 0) (hx : x = -10 - fp) : txQ R x fk n := by
  obtain q | q | q | q := h
  · exact Or.inl ⟨q.2.1, q.2.2.1, by omega⟩
  · exact Or.inr (Or.inl ⟨q.1, q.2.2.1, q.2.2.2.1, by omega⟩)
  · exact Or.inr (Or.inr (Or.inl ⟨q.1, q.2.2.1, q.2.2.2.1, q.2.2.2.2.1, by omega⟩))
  · exact absurd (hr.symm.trans q.2.1) (by decide)
theorem txQ_rd1 {R : tR} {r fk fp ln n x : Int} {g : qm_H} (h : rdQ R r fk fp ln n g) (hr : ¬ r = 0) (hx : x = ln) : txQ R x fk n := by
  obtain q | q | q | q := h
  · exact absurd q.1 hr
  · exact absurd q.2.1 hr
  · exact absurd q.2.1 hr
  · exact Or.inr (Or.inr (Or.inr ⟨q.1, q.2.2.1, q.2.2.2.1, q.2.2.2.2.1, by omega⟩))
theorem rd_fp {f : Nat → Int32} {n : Nat} {r fk fp ln m : Int} {g : qm_H} (h : rdQ (txF f n 161 0 0 txS) r fk fp ln m g) (hm : m = (n : Int)) (hr : r = 0) : 0 ≤ fp ∧ fp ≤ (n : Int) := by
  have hP := txF_P (f := f) (n := n) 161 0 0 txS (Nat.zero_le _)
  obtain q | q | q | q := h
  · omega
  · omega
  · omega
  · exact absurd (hr.symm.trans q.2.1) (by decide)
/-- what the sums must not look into -/
noncomputable def hid (p : Prop) : Prop := p
theorem hid_out {p : Prop} (h : hid p) : p := h
noncomputable def ftQ (r : Int32) (f : Nat → Int32) (nt nc : Nat) : Prop := (r.toInt = 1 ∧ ftA f nt nc) ∨ (r.toInt = 0 ∧ ¬ ftA f nt nc)
theorem ftQ_mk {r : Int32} {f : Nat → Int32} {nt nc : Nat} (h : (r.toInt = 1 ∧ ftA f nt nc) ∨ (r.toInt = 0 ∧ ¬ ftA f nt nc)) : ftQ r f nt nc := h
theorem ftQ_1 {r : Int32} {f : Nat → Int32} {nt nc : Nat} (h : ftQ r f nt nc) (hr : ¬ r.toInt = 0) : ftA f nt nc := by
  obtain q | q := h
  · exact q.2
  · exact absurd q.1 hr
theorem ftQ_0 {r : Int32} {f : Nat → Int32} {nt nc : Nat} (h : ftQ r f nt nc) (hr : r.toInt = 0) : ¬ ftA f nt nc := by
  obtain q | q := h
  · exact absurd (q.1.symm.trans hr) (by decide)
  · exact q.2
