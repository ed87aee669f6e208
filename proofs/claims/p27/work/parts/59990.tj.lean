/-! ===== what the reference checks behind all ===== -/
noncomputable def cntD (f : Nat → Int32) : Nat → Int → Int
  | 0, _ => 0
  | k + 1, x => cntD f k x + (if (f (6 + 3 * k)).toInt = x then 1 else 0)
theorem cntD_rng {f : Nat → Int32} {x : Int} : ∀ k : Nat, 0 ≤ cntD f k x ∧ cntD f k x ≤ (k : Int)
  | 0 => ⟨Int.le_refl _, Int.le_refl _⟩
  | k + 1 => by
    have h := cntD_rng (f := f) (x := x) k
    show 0 ≤ cntD f k x + (if (f (6 + 3 * k)).toInt = x then 1 else 0) ∧ cntD f k x + (if (f (6 + 3 * k)).toInt = x then 1 else 0) ≤ ((k + 1 : Nat) : Int)
    split
    · omega
    · omega
theorem cntD_pos {f : Nat → Int32} {k : Nat} {x : Int} (h : (f (6 + 3 * k)).toInt = x) : cntD f (k + 1) x = cntD f k x + 1 := by
  show cntD f k x + (if (f (6 + 3 * k)).toInt = x then 1 else 0) = _
  rw [if_pos h]
theorem cntD_neg {f : Nat → Int32} {k : Nat} {x : Int} (h : ¬ (f (6 + 3 * k)).toInt = x) : cntD f (k + 1) x = cntD f k x := by
  show cntD f k x + (if (f (6 + 3 * k)).toInt = x then 1 else 0) = _
  rw [if_neg h, Int.add_zero]
/-- FINGER b of CLERK c has no more than its ROOM -/
noncomputable def ftD (f : Nat → Int32) (nt : Nat) (c b : Nat) : Prop := cntD f nt (10 * (c : Int) + (b : Int)) ≤ rmF (f c).toInt (b : Int)
noncomputable def ftA (f : Nat → Int32) (nt nc : Nat) : Prop := ∀ c b : Nat, c < nc → b < 5 → ftD f nt c b
/-- all FINGERS before (c, b) fit and l is 1; or not all fit and l is 0 -/
noncomputable def ftI (f : Nat → Int32) (nt nc : Nat) (l c b : Int) : Prop := (l = 1 ∧ ∀ i j : Nat, ((i : Int) < c ∨ ((i : Int) = c ∧ (j : Int) < b)) → j < 5 → ftD f nt i j) ∨ (l = 0 ∧ ¬ ftA f nt nc)
theorem ftI_0 {f : Nat → Int32} {nt nc : Nat} {l c : Int} (hl : l = 1) (hc : c = 0) : ftI f nt nc l c 0 := Or.inl ⟨hl, fun i j h => by omega⟩
theorem ftI_up {f : Nat → Int32} {nt nc : Nat} {l c c2 b : Int} (h : ftI f nt nc l c b) (hb : 5 ≤ b) (hc : c2 = c + 1) : ftI f nt nc l c2 0 := by
  obtain q | q := h
  · exact Or.inl ⟨q.1, fun i j hi hj => q.2 i j (by omega) hj⟩
  · exact Or.inr q
theorem ftI_b0 {f : Nat → Int32} {nt nc : Nat} {l c b : Int} (h : ftI f nt nc l c 0) (hb : b = 0) : ftI f nt nc l c b := by subst hb; exact h
theorem ftI_no {f : Nat → Int32} {nt nc : Nat} {l l2 c c2 b b2 : Int} (h : ftI f nt nc l c b) (hl : l = 0) (h2 : l2 = 0) : ftI f nt nc l2 c2 b2 := by
  obtain q | q := h
  · exact absurd (q.1.symm.trans hl) (by decide)
  · exact Or.inr ⟨h2, q.2⟩
theorem ftI_st {f : Nat → Int32} {nt nc : Nat} {l l2 c b b2 m r : Int} (h : ftI f nt nc l c b) (hl : ¬ l = 0) (hc : 0 ≤ c ∧ c < (nc : Int)) (hb : 0 ≤ b ∧ b < 5) (hm : m = cntD f nt (10 * c + b)) (hr : r = rmF (f c.toNat).toInt b) (hb2 : b2 = b + 1) (hs : (m ≤ r ∧ l2 = 1) ∨ (¬ m ≤ r ∧ l2 = 0)) : ftI f nt nc l2 c b2 := by
  obtain q | q := h
  · have key : ftD f nt c.toNat b.toNat ↔ m ≤ r := by
      unfold ftD
      rw [hm, hr, show ((c.toNat : Nat) : Int) = c by omega, show ((b.toNat : Nat) : Int) = b by omega]
    obtain s | s := hs
    · refine Or.inl ⟨s.2, fun i j hi hj => ?_⟩
      by_cases e : (i : Int) = c ∧ (j : Int) = b
      · rw [show i = c.toNat by omega, show j = b.toNat by omega]
        exact key.mpr s.1
      · exact q.2 i j (by omega) hj
    · exact Or.inr ⟨s.2, fun z => s.1 (key.mp (z c.toNat b.toNat (by omega) (by omega)))⟩
  · exact absurd q.1 hl
theorem ftI_e {f : Nat → Int32} {nt nc : Nat} {l c b : Int} (h : ftI f nt nc l c b) (hc : (nc : Int) ≤ c) : (l = 1 ∧ ftA f nt nc) ∨ (l = 0 ∧ ¬ ftA f nt nc) := by
  obtain q | q := h
  · exact Or.inl ⟨q.1, fun i j hi hj => q.2 i j (by omega) hj⟩
  · exact Or.inr q
theorem rmF_1 {k f : Int} (hk : k = 1) : (f = 3 → rmF k f = 0) ∧ (¬ f = 3 → rmF k f = 2) := by
  unfold rmF
  constructor
  · intro h; rw [if_pos (by omega)]
  · intro h; rw [if_neg (by omega), if_neg (by omega), if_neg (by omega)]
theorem rmF_2 {k f : Int} (hk : k = 2) : (f = 3 → rmF k f = 0) ∧ (¬ f = 3 → rmF k f = 3) := by
  unfold rmF
  constructor
  · intro h; rw [if_pos (by omega)]
  · intro h; rw [if_neg (by omega), if_pos (by omega)]
theorem rmF_3 {k f : Int} (hk : k = 3) : rmF k f = 1 := by
  unfold rmF
  rw [if_neg (by omega), if_neg (by omega), if_pos (by omega)]
theorem rmF_d {k f : Int} (hk : ¬ k = 1 ∧ ¬ k = 2 ∧ ¬ k = 3) : rmF k f = 2 := by
  unfold rmF
  rw [if_neg (by omega), if_neg (by omega), if_neg (by omega)]
/-! against what is told -/
theorem cntS_some {pl : Nat → Int} {x : Int} : ∀ k : Nat, 0 < cntS pl k x → ∃ j : Nat, j < k ∧ pl j = x
  | 0, h => absurd h (by show ¬ (0 : Int) < 0; omega)
  | k + 1, h => by
    have h2 : 0 < cntS pl k x + (if pl k = x then 1 else 0) := h
    by_cases q : pl k = x
    · exact ⟨k, Nat.lt_succ_self _, q⟩
    · rw [if_neg q, Int.add_zero] at h2
      obtain ⟨j, hj, e⟩ := cntS_some k h2
      exact ⟨j, by omega, e⟩
theorem cntD_eq {f : Nat → Int32} {pl : Nat → Int} {n : Nat} {x : Int} (h : ∀ j : Nat, j < n → (f (6 + 3 * j)).toInt = pl j) : ∀ k : Nat, k ≤ n → cntD f k x = cntS pl k x
  | 0, _ => rfl
  | k + 1, hk => by
    show cntD f k x + (if (f (6 + 3 * k)).toInt = x then 1 else 0) = cntS pl k x + (if pl k = x then 1 else 0)
    rw [cntD_eq h k (by omega), h k (by omega)]
theorem ft_ck {S : tS} {h : qm_H} (hc : rP S h) (hw : wfS S) (h6 : ck6 S) : ftA (h 43) (h 43 4).toInt.toNat (h 39 5).toInt.toNat ↔ ck7 S := by
  obtain ⟨⟨a1, a2, a3, a4⟩, b1, b2⟩ := hc
  obtain ⟨_, w1, w2⟩ := hw
  rw [show (h 43 4).toInt.toNat = S.2.1 by omega, show (h 39 5).toInt.toNat = S.1 by omega]
  have hcn : ∀ x : Int, cntD (h 43) S.2.1 x = cntS S.2.2.2.2.2.1 S.2.1 x := fun x => cntD_eq (fun i hi => (b2 i hi).1) S.2.1 (Nat.le_refl _)
  constructor
  · intro q j hj
    have w := w2 j hj
    have s := h6 j hj
    have z := q (S.2.2.2.2.2.1 j / 10).toNat (S.2.2.2.2.2.1 j % 10).toNat (by omega) (by omega)
    unfold ftD at z
    rw [hcn, b1 _ (by omega), show 10 * (((S.2.2.2.2.2.1 j / 10).toNat : Nat) : Int) + (((S.2.2.2.2.2.1 j % 10).toNat : Nat) : Int) = S.2.2.2.2.2.1 j by omega, show (((S.2.2.2.2.2.1 j % 10).toNat : Nat) : Int) = S.2.2.2.2.2.1 j % 10 by omega] at z
    exact z
  · intro q c b hcl hb
    unfold ftD
    rw [hcn, b1 c hcl]
    by_cases z : 0 < cntS S.2.2.2.2.2.1 S.2.1 (10 * (c : Int) + (b : Int))
    · obtain ⟨j, hj, e⟩ := cntS_some _ z
      have y := q j hj
      rw [e, show (10 * (c : Int) + (b : Int)) % 10 = (b : Int) by omega, show ((10 * (c : Int) + (b : Int)) / 10).toNat = c by omega] at y
      exact y
    · have := rmF_rng (k := S.2.2.2.2.1 c) (f := (b : Int))
      omega
theorem hi_ck {S : tS} {h : qm_H} (hc : rP S h) : (h 39 7).toInt < (h 39 5).toInt ↔ ck6 S := by
  obtain ⟨⟨a1, a2, a3, a4⟩, _, _⟩ := hc
  rw [a4, a1, hiS_lt]
  constructor
  · intro q j hj; exact q.2 j hj
  · intro q; exact ⟨by omega, fun j hj => q j hj⟩
theorem rT_0 {g : qm_H} (h5 : (g 39 5).toInt = 0) (h4 : (g 43 4).toInt = 0) (h55 : (g 43 5).toInt = 0) (h7 : (g 39 7).toInt = -4) (h6 : (g 39 6).toInt = 0) : rT txS g := ⟨⟨⟨h5, h4, h55, h7⟩, fun j hj => absurd hj (Nat.not_lt_zero _), fun j hj => absurd hj (Nat.not_lt_zero _)⟩, h6⟩
theorem rfI_le {f : Nat → Int32} {n : Nat} {i F W st k e v : Int} {g : qm_H} (h : rfI f n i F W st k e v g) : F = 0 → (e ≤ (n : Int) ∧ 0 ≤ st ∧ st ≤ e) ∧ (0 ≤ (g 39 6).toInt ∧ (g 39 6).toInt ≤ 1) := by
  intro hF
  obtain q | ⟨_, S, p, W0, hx, c, hw, hp, hS⟩ := h
  · exact absurd hF q.1
  · have hkp := nxR_kp hx
    have hk2 := hkp.2.2 hF
    have hd := hw.1.2.2.1
    have hc := c.2
    obtain ⟨_, u | u⟩ := hx
    · have := tkE_le (f := f) (tkS_le (f := f) hp.2)
      exact ⟨⟨by omega, hkp.1, hk2.2.1⟩, by omega⟩
    · exact absurd (hF.symm.trans u.2.1) (by decide)
theorem rfI_bad {f : Nat → Int32} {n : Nat} {i F W st k e v : Int} {g : qm_H} (h : rfI f n i F W st k e v g) (hF : ¬ F = 0) : (txF f n 161 0 0 txS).1 = F ∧ ((txF f n 161 0 0 txS).2.1 : Int) = W ∧ 0 ≤ W ∧ W ≤ (n : Int) := by
  have hP := txF_P (f := f) (n := n) 161 0 0 txS (Nat.zero_le _)
  obtain q | q := h
  · exact ⟨q.2.1, q.2.2, by omega, by omega⟩
  · exact absurd q.1 hF
theorem rfI_end {f : Nat → Int32} {n : Nat} {i F W st k e v : Int} {g : qm_H} (h : rfI f n i F W st k e v g) (hF : F = 0) (hk : k = 0) (h0 : 0 ≤ i) (hn : n ≤ 160) : st = (n : Int) ∧ ∃ S : tS, txF f n 161 0 0 txS = (0, 0, i.toNat, S) ∧ rT S g ∧ wfS S := by
  obtain q | ⟨_, S, p, W0, hx, c, hw, hp, hS⟩ := h
  · exact absurd hF q.1
  · obtain ⟨h1, u | u⟩ := hx
    · have hz := u.2.1.symm.trans hk
      rw [show (161 - i).toNat = (160 - i).toNat + 1 by omega, txF_end u.1 hz] at hS
      refine ⟨?_, S, hS.symm, c, hw⟩
      have hle := tkS_le (f := f) hp.2
      by_cases hn2 : n ≤ tkS f n p
      · omega
      · by_cases h59 : (f (tkS f n p)).toInt = 59
        · have := (tk_stop (f := f) (n := n) (s := tkS f n p) (by omega) h59).1; omega
        · by_cases haz : 97 ≤ (f (tkS f n p)).toInt ∧ (f (tkS f n p)).toInt ≤ 122
          · have := (tk_name (f := f) (n := n) (s := tkS f n p) (by omega) haz).1; omega
          · have := (tk_num (f := f) (n := n) (s := tkS f n p) (by omega) h59 haz).1; omega
    · exact absurd (hF.symm.trans u.2.1) (by decide)
theorem txQ_bad {R : tR} {r fk n F W : Int} (hF : ¬ F = 0) (h : R.1 = F ∧ (R.2.1 : Int) = W) (hf : fk = F) (hr : r = -10 - W) : txQ R r fk n := Or.inl ⟨by omega, by omega, by omega⟩
theorem txQ_6 {R : tR} {r fk n : Int} {S : tS} {i : Nat} (h : R = (0, 0, i, S)) (h6 : ¬ ck6 S) (hf : fk = 6) (hr : r = -10 - n) : txQ R r fk n := by
  subst h; exact Or.inr (Or.inl ⟨rfl, h6, hf, hr⟩)
theorem txQ_7 {R : tR} {r fk n : Int} {S : tS} {i : Nat} (h : R = (0, 0, i, S)) (h6 : ck6 S) (h7 : ¬ ck7 S) (hf : fk = 7) (hr : r = -10 - n) : txQ R r fk n := by
  subst h; exact Or.inr (Or.inr (Or.inl ⟨rfl, h6, h7, hf, hr⟩))
theorem txQ_ok {R : tR} {r fk n : Int} {S : tS} {i : Nat} (h : R = (0, 0, i, S)) (h6 : ck6 S) (h7 : ck7 S) (hf : fk = 0) (hr : r = (i : Int)) : txQ R r fk n := by
  subst h; exact Or.inr (Or.inr (Or.inr ⟨rfl, h6, h7, hf, hr⟩))
/-- the class's, out of rdQ -/
theorem txQ_rd0 {R : tR} {r fk fp ln n x : Int} {g : qm_H} (h : rdQ R r fk fp ln n g) (hr : r = 0) (hx : x = -10 - fp) : txQ R x fk n := by
  obtain q | q | q | q := h
  · exact Or.inl ⟨q.2.1, q.2.2.1, by omega⟩
  · exact Or.inr (Or.inl ⟨q.1, q.2.2.1, q.2.2.2.1, by omega⟩)
  · exact Or.inr (Or.inr (Or.inl ⟨q.1, q.2.2.1, q.2.2.2.1, q.2.2.2.2.1, by omega⟩))
  · exact absurd (hr.symm.trans q.2.1) (by decide)
theorem txQ_rd1 {R : tR} {r fk fp ln n x : Int} {g : qm_H} (h : rdQ R r fk fp ln n g) (hr : ¬ r = 0) (hx : x = ln) : txQ R x fk n := by
  obtain q | q | q | q := h
  · exact absurd q.1 hr
  · exact absurd q.2.1 hr
  · exact absurd q.2.1 hr
  · exact Or.inr (Or.inr (Or.inr ⟨q.1, q.2.2.1, q.2.2.2.1, q.2.2.2.2.1, by omega⟩))
theorem rd_fp {f : Nat → Int32} {n : Nat} {r fk fp ln m : Int} {g : qm_H} (h : rdQ (txF f n 161 0 0 txS) r fk fp ln m g) (hm : m = (n : Int)) (hr : r = 0) : 0 ≤ fp ∧ fp ≤ (n : Int) := by
  have hP := txF_P (f := f) (n := n) 161 0 0 txS (Nat.zero_le _)
  obtain q | q | q | q := h
  · omega
  · omega
  · omega
  · exact absurd (hr.symm.trans q.2.1) (by decide)
/-- what the sums must not look into -/
noncomputable def hid (p : Prop) : Prop := p
theorem hid_out {p : Prop} (h : hid p) : p := h
noncomputable def ftQ (r : Int32) (f : Nat → Int32) (nt nc : Nat) : Prop := (r.toInt = 1 ∧ ftA f nt nc) ∨ (r.toInt = 0 ∧ ¬ ftA f nt nc)
theorem ftQ_mk {r : Int32} {f : Nat → Int32} {nt nc : Nat} (h : (r.toInt = 1 ∧ ftA f nt nc) ∨ (r.toInt = 0 ∧ ¬ ftA f nt nc)) : ftQ r f nt nc := h
theorem ftQ_1 {r : Int32} {f : Nat → Int32} {nt nc : Nat} (h : ftQ r f nt nc) (hr : ¬ r.toInt = 0) : ftA f nt nc := by
  obtain q | q := h
  · exact q.2
  · exact absurd q.1 hr
theorem ftQ_0 {r : Int32} {f : Nat → Int32} {nt nc : Nat} (h : ftQ r f nt nc) (hr : r.toInt = 0) : ¬ ftA f nt nc := by
  obtain q | q := h
  · exact absurd (q.1.symm.trans hr) (by decide)
  · exact q.2
/-! ===== the Memory of both sides, as one value ===== -/
noncomputable abbrev Mem : Type := Int32 × Int32 × Int32 × Int32 × (Nat → Int32) × (Nat → Int32) × (Nat → Int32) × (Nat → Int32) × (Nat → Int32) × (Nat → Int32)
noncomputable def msk (n : Int32) (f : Nat → Int32) : Nat → Int32 := fun j => if (j : Int) < n.toInt then f j else 0
theorem msk_in {n : Int32} {f : Nat → Int32} {j : Nat} (h : (j : Int) < n.toInt) : msk n f j = f j := if_pos h
theorem msk_out {n : Int32} {f : Nat → Int32} {j : Nat} (h : ¬ (j : Int) < n.toInt) : msk n f j = 0 := if_neg h
theorem msk_eq {n : Int32} {f g : Nat → Int32} (h : ∀ j : Nat, (j : Int) < n.toInt → f j = g j) : msk n f = msk n g := by
  funext j
  by_cases q : (j : Int) < n.toInt
  · rw [msk_in q, msk_in q, h j q]
  · rw [msk_out q, msk_out q]
noncomputable def mkM (cl th dy sn : Int32) (kd pl pa kn sp ss : Nat → Int32) : Mem := (cl, th, dy, sn, msk cl kd, msk th pl, msk th pa, msk th kn, msk sn sp, msk sn ss)
noncomputable abbrev clM (M : Mem) : Int32 := M.1
noncomputable abbrev thM (M : Mem) : Int32 := M.2.1
noncomputable abbrev dyM (M : Mem) : Int32 := M.2.2.1
noncomputable abbrev snM (M : Mem) : Int32 := M.2.2.2.1
noncomputable abbrev kdM (M : Mem) : Nat → Int32 := M.2.2.2.2.1
noncomputable abbrev plM (M : Mem) : Nat → Int32 := M.2.2.2.2.2.1
noncomputable abbrev paM (M : Mem) : Nat → Int32 := M.2.2.2.2.2.2.1
noncomputable abbrev knM (M : Mem) : Nat → Int32 := M.2.2.2.2.2.2.2.1
noncomputable abbrev spM (M : Mem) : Nat → Int32 := M.2.2.2.2.2.2.2.2.1
noncomputable abbrev ssM (M : Mem) : Nat → Int32 := M.2.2.2.2.2.2.2.2.2
theorem mkM_eq {cl th dy sn : Int32} {kd pl pa kn sp ss kd2 pl2 pa2 kn2 sp2 ss2 : Nat → Int32} (h1 : ∀ j : Nat, (j : Int) < cl.toInt → kd j = kd2 j) (h2 : ∀ j : Nat, (j : Int) < th.toInt → pl j = pl2 j ∧ pa j = pa2 j ∧ kn j = kn2 j) (h3 : ∀ j : Nat, (j : Int) < sn.toInt → sp j = sp2 j ∧ ss j = ss2 j) : mkM cl th dy sn kd pl pa kn sp ss = mkM cl th dy sn kd2 pl2 pa2 kn2 sp2 ss2 := by
  unfold mkM
  rw [msk_eq h1, msk_eq (fun j q => (h2 j q).1), msk_eq (fun j q => (h2 j q).2.1), msk_eq (fun j q => (h2 j q).2.2), msk_eq (fun j q => (h3 j q).1), msk_eq (fun j q => (h3 j q).2)]
/-- a Memory made of a Memory's own rows -/
theorem mkM_self {cl th dy sn : Int32} {kd pl pa kn sp ss : Nat → Int32} : mkM cl th dy sn (msk cl kd) (msk th pl) (msk th pa) (msk th kn) (msk sn sp) (msk sn ss) = mkM cl th dy sn kd pl pa kn sp ss := mkM_eq (fun j q => msk_in q) (fun j q => ⟨msk_in q, msk_in q, msk_in q⟩) (fun j q => ⟨msk_in q, msk_in q⟩)
/-- the class's Memories -/
noncomputable def mC (h : qm_H) : Mem := mkM (h 1 6) (h 1 7) (h 1 8) (h 1 9) (h 2) (h 3) (h 4) (h 5) (h 6) (h 7)
noncomputable def mC8 (h : qm_H) : Mem := mkM (h 8 6) (h 8 7) (h 8 8) (h 8 9) (h 9) (h 10) (h 11) (h 12) (h 13) (h 14)
noncomputable def mC15 (h : qm_H) : Mem := mkM (h 15 6) (h 15 7) (h 15 8) (h 15 9) (h 16) (h 17) (h 18) (h 19) (h 20) (h 21)
noncomputable def mCt (h : qm_H) : Mem := mkM (h 25 6) (h 25 7) (h 25 8) (h 25 9) (h 26) (h 27) (h 28) (h 29) (h 30) (h 31)
/-- the reference's rows -/
noncomputable def mG (c : Int32) (f : Nat → Int32) : Mem := mkM c (f 4) (f 5) (f 36) f (fun t => f (6 + 3 * t)) (fun t => f (7 + 3 * t)) (fun t => f (8 + 3 * t)) (fun i => f (37 + 2 * i)) (fun i => f (38 + 2 * i))
noncomputable def mR (h : qm_H) : Mem := mG (h 39 3) (h 40)
noncomputable def mR49 (h : qm_H) : Mem := mG (h 39 3) (fun j => h 40 (49 + j))
noncomputable def mR98 (h : qm_H) : Mem := mG (h 39 3) (fun j => h 40 (98 + j))
theorem mG_eq {c : Int32} {f g : Nat → Int32} (hc : c.toInt ≤ 4) (ht : (f 4).toInt ≤ 10) (hs : (f 36).toInt ≤ 6) (e : ∀ j : Nat, j < 49 → g j = f j) : mG c g = mG c f := by
  unfold mG
  rw [e 4 (by omega), e 5 (by omega), e 36 (by omega)]
  exact mkM_eq (fun j q => e j (by omega)) (fun j q => ⟨e _ (by omega), e _ (by omega), e _ (by omega)⟩) (fun j q => ⟨e _ (by omega), e _ (by omega)⟩)
theorem mC_of {h g : qm_H} (e : ∀ k : Nat, 1 ≤ k → k ≤ 7 → g k = h k) : mC g = mC h := by
  unfold mC
  rw [e 1 (by omega) (by omega), e 2 (by omega) (by omega), e 3 (by omega) (by omega), e 4 (by omega) (by omega), e 5 (by omega) (by omega), e 6 (by omega) (by omega), e 7 (by omega) (by omega)]
theorem mC8_of {h g : qm_H} (e : ∀ k : Nat, 8 ≤ k → k ≤ 14 → g k = h k) : mC8 g = mC8 h := by
  unfold mC8
  rw [e 8 (by omega) (by omega), e 9 (by omega) (by omega), e 10 (by omega) (by omega), e 11 (by omega) (by omega), e 12 (by omega) (by omega), e 13 (by omega) (by omega), e 14 (by omega) (by omega)]
theorem mC15_of {h g : qm_H} (e : ∀ k : Nat, 15 ≤ k → k ≤ 21 → g k = h k) : mC15 g = mC15 h := by
  unfold mC15
  rw [e 15 (by omega) (by omega), e 16 (by omega) (by omega), e 17 (by omega) (by omega), e 18 (by omega) (by omega), e 19 (by omega) (by omega), e 20 (by omega) (by omega), e 21 (by omega) (by omega)]
theorem mR_of {h g : qm_H} (e3 : g 39 3 = h 39 3) (e : g 40 = h 40) : mR g = mR h := by
  unfold mR
  rw [e3, e]
theorem mR49_of {h g : qm_H} (e3 : g 39 3 = h 39 3) (e : ∀ j : Nat, 49 ≤ j → g 40 j = h 40 j) : mR49 g = mR49 h := by
  unfold mR49
  rw [e3, show (fun j => g 40 (49 + j)) = fun j => h 40 (49 + j) from funext fun j => e _ (by omega)]
theorem mR98_of {h g : qm_H} (e3 : g 39 3 = h 39 3) (e : ∀ j : Nat, 49 ≤ j → g 40 j = h 40 j) : mR98 g = mR98 h := by
  unfold mR98
  rw [e3, show (fun j => g 40 (98 + j)) = fun j => h 40 (98 + j) from funext fun j => e _ (by omega)]
/-! what a Memory keeps to -/
noncomputable abbrev okPl (c a : Int) : Prop := 0 ≤ a ∧ a / 10 < c ∧ a % 10 < 5
noncomputable abbrev okPr (c a : Int) : Prop := 0 ≤ a ∧ a / 10 < c ∧ a % 10 < c ∧ ¬ a / 10 = a % 10
noncomputable def wfM (M : Mem) : Prop := ((0 ≤ (clM M).toInt ∧ (clM M).toInt ≤ 4) ∧ (0 ≤ (thM M).toInt ∧ (thM M).toInt ≤ 10) ∧ (0 ≤ (snM M).toInt ∧ (snM M).toInt ≤ 6) ∧ (0 ≤ (dyM M).toInt ∧ (dyM M).toInt ≤ 9)) ∧ (∀ j : Nat, (j : Int) < (clM M).toInt → 0 ≤ (kdM M j).toInt ∧ (kdM M j).toInt ≤ 3) ∧ (∀ j : Nat, (j : Int) < (thM M).toInt → okPl (clM M).toInt (plM M j).toInt ∧ okPr (clM M).toInt (paM M j).toInt ∧ (10 ≤ (knM M j).toInt ∧ (knM M j).toInt ≤ 99)) ∧ (∀ j : Nat, (j : Int) < (snM M).toInt → okPr (clM M).toInt (spM M j).toInt ∧ (0 ≤ (ssM M j).toInt ∧ (ssM M j).toInt ≤ 99))
theorem wf_mk {cl th dy sn : Int32} {kd pl pa kn sp ss : Nat → Int32} (a : (0 ≤ cl.toInt ∧ cl.toInt ≤ 4) ∧ (0 ≤ th.toInt ∧ th.toInt ≤ 10) ∧ (0 ≤ sn.toInt ∧ sn.toInt ≤ 6) ∧ (0 ≤ dy.toInt ∧ dy.toInt ≤ 9)) (b : ∀ j : Nat, (j : Int) < cl.toInt → 0 ≤ (kd j).toInt ∧ (kd j).toInt ≤ 3) (c : ∀ j : Nat, (j : Int) < th.toInt → okPl cl.toInt (pl j).toInt ∧ okPr cl.toInt (pa j).toInt ∧ (10 ≤ (kn j).toInt ∧ (kn j).toInt ≤ 99)) (d : ∀ j : Nat, (j : Int) < sn.toInt → okPr cl.toInt (sp j).toInt ∧ (0 ≤ (ss j).toInt ∧ (ss j).toInt ≤ 99)) : wfM (mkM cl th dy sn kd pl pa kn sp ss) := by
  refine ⟨a, fun j (q : (j : Int) < cl.toInt) => ?_, fun j (q : (j : Int) < th.toInt) => ?_, fun j (q : (j : Int) < sn.toInt) => ?_⟩
  · show 0 ≤ (msk cl kd j).toInt ∧ (msk cl kd j).toInt ≤ 3
    rw [msk_in q]; exact b j q
  · show okPl cl.toInt (msk th pl j).toInt ∧ okPr cl.toInt (msk th pa j).toInt ∧ (10 ≤ (msk th kn j).toInt ∧ (msk th kn j).toInt ≤ 99)
    rw [msk_in q, msk_in q, msk_in q]; exact c j q
  · show okPr cl.toInt (msk sn sp j).toInt ∧ (0 ≤ (msk sn ss j).toInt ∧ (msk sn ss j).toInt ≤ 99)
    rw [msk_in q, msk_in q]; exact d j q
/-- what wfM says of the raw rows -/
theorem wf_raw {cl th dy sn : Int32} {kd pl pa kn sp ss : Nat → Int32} (h : wfM (mkM cl th dy sn kd pl pa kn sp ss)) : ((0 ≤ cl.toInt ∧ cl.toInt ≤ 4) ∧ (0 ≤ th.toInt ∧ th.toInt ≤ 10) ∧ (0 ≤ sn.toInt ∧ sn.toInt ≤ 6) ∧ (0 ≤ dy.toInt ∧ dy.toInt ≤ 9)) ∧ (∀ j : Nat, (j : Int) < cl.toInt → 0 ≤ (kd j).toInt ∧ (kd j).toInt ≤ 3) ∧ (∀ j : Nat, (j : Int) < th.toInt → okPl cl.toInt (pl j).toInt ∧ okPr cl.toInt (pa j).toInt ∧ (10 ≤ (kn j).toInt ∧ (kn j).toInt ≤ 99)) ∧ (∀ j : Nat, (j : Int) < sn.toInt → okPr cl.toInt (sp j).toInt ∧ (0 ≤ (ss j).toInt ∧ (ss j).toInt ≤ 99)) := by
  refine ⟨h.1, fun j q => ?_, fun j q => ?_, fun j q => ?_⟩
  · have := h.2.1 j q
    have e : kdM (mkM cl th dy sn kd pl pa kn sp ss) j = kd j := msk_in q
    rw [e] at this; exact this
  · have := h.2.2.1 j q
    have e1 : plM (mkM cl th dy sn kd pl pa kn sp ss) j = pl j := msk_in q
    have e2 : paM (mkM cl th dy sn kd pl pa kn sp ss) j = pa j := msk_in q
    have e3 : knM (mkM cl th dy sn kd pl pa kn sp ss) j = kn j := msk_in q
    rw [e1, e2, e3] at this; exact this
  · have := h.2.2.2 j q
    have e1 : spM (mkM cl th dy sn kd pl pa kn sp ss) j = sp j := msk_in q
    have e2 : ssM (mkM cl th dy sn kd pl pa kn sp ss) j = ss j := msk_in q
    rw [e1, e2] at this; exact this
theorem cntR_eq {f g : Nat → Int32} {x : Int} : ∀ {n : Nat}, (∀ j : Nat, j < n → f j = g j) → cntR f n x = cntR g n x
  | 0, _ => rfl
  | n + 1, h => by
    show cntR f n x + (if (f n).toInt = x then 1 else 0) = cntR g n x + (if (g n).toInt = x then 1 else 0)
    rw [cntR_eq (fun j q => h j (by omega)), h n (by omega)]
theorem cntR_msk {n : Int32} {f : Nat → Int32} {x : Int} : cntR (msk n f) n.toInt.toNat x = cntR f n.toInt.toNat x := cntR_eq (fun j q => msk_in (by omega))
theorem cntD_R {f : Nat → Int32} {x : Int} : ∀ {n : Nat}, cntD f n x = cntR (fun t => f (6 + 3 * t)) n x
  | 0 => rfl
  | n + 1 => by
    show cntD f n x + (if (f (6 + 3 * n)).toInt = x then 1 else 0) = cntR (fun t => f (6 + 3 * t)) n x + (if (f (6 + 3 * n)).toInt = x then 1 else 0)
    rw [cntD_R]
theorem rmF_C {k f : Int} (hk : 0 ≤ k ∧ k ≤ 3) (hf : 0 ≤ f ∧ f ≤ 4) : rmF k f = rmC k f := by
  unfold rmC
  rw [if_pos ⟨hk, hf⟩]
/-- ROOM of a PLACE, THREADS at it -/
noncomputable def rmM (M : Mem) (x : Int) : Int := rmC (kdM M (x / 10).toNat).toInt (x % 10)
noncomputable def cnM (M : Mem) (x : Int) : Int := cntR (plM M) (thM M).toInt.toNat x
theorem rmM_mk {cl th dy sn : Int32} {kd pl pa kn sp ss : Nat → Int32} {x : Int} (h : 0 ≤ x ∧ x / 10 < cl.toInt) : rmM (mkM cl th dy sn kd pl pa kn sp ss) x = rmC (kd (x / 10).toNat).toInt (x % 10) := by
  show rmC (msk cl kd (x / 10).toNat).toInt (x % 10) = _
  rw [msk_in (by omega)]
theorem cnM_mk {cl th dy sn : Int32} {kd pl pa kn sp ss : Nat → Int32} {x : Int} : cnM (mkM cl th dy sn kd pl pa kn sp ss) x = cntR pl th.toInt.toNat x := cntR_msk
theorem upd_same {f : Nat → Int32} {i : Nat} {x : Int32} : upd f i x i = x := if_pos rfl
theorem upd_ne {f : Nat → Int32} {i j : Nat} {x : Int32} (h : ¬ j = i) : upd f i x j = f j := if_neg h
theorem upd_2 {f g : Nat → Int32} {i j : Nat} {x : Int32} (h : f j = g j) : upd f i x j = upd g i x j := by
  by_cases q : j = i
  · rw [q, upd_same, upd_same]
  · rw [upd_ne q, upd_ne q, h]
theorem bool_i {r : Int32} (h : r = 0 ∨ r = 1) : r.toInt = 0 ∨ r.toInt = 1 := by
  obtain q | q := h
  · exact Or.inl (by rw [q]; rfl)
  · exact Or.inr (by rw [q]; rfl)
/-! a Memory becomes another -/
theorem mk_cpy {cl th dy sn : Int32} {kd pl pa kn sp ss kd2 pl2 pa2 kn2 sp2 ss2 : Nat → Int32} (hc : cl.toInt ≤ 4) (ht : th.toInt ≤ 10) (hs : sn.toInt ≤ 6) : mkM cl th dy sn (va_cpy kd kd2 0 0 4) (va_cpy pl pl2 0 0 10) (va_cpy pa pa2 0 0 10) (va_cpy kn kn2 0 0 10) (va_cpy sp sp2 0 0 6) (va_cpy ss ss2 0 0 6) = mkM cl th dy sn kd pl pa kn sp ss :=
  mkM_eq (fun j w => sb_cpy0 (by omega)) (fun j w => ⟨sb_cpy0 (by omega), sb_cpy0 (by omega), sb_cpy0 (by omega)⟩) (fun j w => ⟨sb_cpy0 (by omega), sb_cpy0 (by omega)⟩)
/-! ===== the Memory that a text tells ===== -/
noncomputable def memT (S : tS) : Mem := mkM (Int32.ofInt (S.1 : Int)) (Int32.ofInt (S.2.1 : Int)) (Int32.ofInt S.2.2.2.1) 0 (fun j => Int32.ofInt (S.2.2.2.2.1 j)) (fun j => Int32.ofInt (S.2.2.2.2.2.1 j)) (fun j => Int32.ofInt (S.2.2.2.2.2.2.1 j)) (fun j => Int32.ofInt (S.2.2.2.2.2.2.2 j)) (fun _ => 0) (fun _ => 0)
theorem of_i {x : Int32} {z : Int} (h : x.toInt = z) : x = Int32.ofInt z := by rw [← h, Int32.ofInt_toInt]
theorem memT_c {S : tS} {g : qm_H} (c : cT S g) (z : (g 25 9).toInt = 0) : mCt g = memT S := by
  obtain ⟨⟨c1, c2, _, c4⟩, c5, c6⟩ := c
  have e0 : g 25 9 = 0 := Int32.toInt_inj.mp z
  unfold mCt memT
  rw [← of_i c1, ← of_i c2, ← of_i c4, e0]
  exact mkM_eq (fun j w => of_i (c5 j (by omega))) (fun j w => ⟨of_i (c6 j (by omega)).1, of_i (c6 j (by omega)).2.1, of_i (c6 j (by omega)).2.2⟩) (fun j w => by have : (0 : Int32).toInt = 0 := rfl; omega)
theorem memT_r {S : tS} {g : qm_H} (c : rP S g) (z : (g 43 36).toInt = 0) : mG (g 39 5) (g 43) = memT S := by
  obtain ⟨⟨c1, c2, c4, _⟩, c5, c6⟩ := c
  have e0 : g 43 36 = 0 := Int32.toInt_inj.mp z
  unfold mG memT
  rw [← of_i c1, ← of_i c2, ← of_i c4, e0]
  exact mkM_eq (fun j w => of_i (c5 j (by omega))) (fun j w => ⟨of_i (c6 j (by omega)).1, of_i (c6 j (by omega)).2.1, of_i (c6 j (by omega)).2.2⟩) (fun j w => by have : (0 : Int32).toInt = 0 := rfl; omega)
/-- behind a text: taken, or all stays -/
noncomputable def txM (fk : Int) (R : tR) (M0 M1 : Mem) : Prop := (fk = 0 ∧ M1 = memT R.2.2.2) ∨ (¬ fk = 0 ∧ M1 = M0)
/-- a text that is not taken leaves the reference's rows -/
noncomputable def txE (fk : Int) (h g : qm_H) : Prop := ¬ fk = 0 → g 39 3 = h 39 3 ∧ g 40 = h 40
theorem txM_ok {fk : Int} {R : tR} {M0 M1 : Mem} {S : tS} {i : Nat} (hf : fk = 0) (h : R = (0, 0, i, S)) (e : M1 = memT S) : txM fk R M0 M1 := Or.inl ⟨hf, by rw [e, h]⟩
theorem i_of {z : Int} (h : -2147483648 ≤ z ∧ z ≤ 2147483647) : (Int32.ofInt z).toInt = z := Int32.toInt_ofInt_of_le (by omega) (by omega)
theorem wf_text {S : tS} (w : wfS S) (c : ck6 S) : wfM (memT S) := by
  obtain ⟨⟨w1, w2, _, w3, w4⟩, w5, w6⟩ := w
  have e1 := i_of (z := (S.1 : Int)) (by omega)
  have e2 := i_of (z := (S.2.1 : Int)) (by omega)
  have e3 := i_of (z := S.2.2.2.1) (by omega)
  have e0 : (0 : Int32).toInt = 0 := rfl
  refine wf_mk ⟨by omega, by omega, by omega, by omega⟩ (fun j q => ?_) (fun j q => ?_) (fun j q => by omega)
  · have v := w5 j (by omega)
    rw [i_of (by omega)]; exact v
  · have v := w6 j (by omega)
    have u := c j (by omega)
    rw [i_of (z := S.2.2.2.2.2.1 j) (by omega), i_of (z := S.2.2.2.2.2.2.1 j) (by omega), i_of (z := S.2.2.2.2.2.2.2 j) (by omega), e1]
    exact ⟨by unfold okPl; omega, by unfold okPr; omega, by omega⟩
