/-! ===== threads at a place, rooms; what is checked behind all ===== -/
noncomputable def cntR (f : Nat → Int32) : Nat → Int → Int
  | 0, _ => 0
  | k + 1, x => cntR f k x + (if (f k).toInt = x then 1 else 0)
theorem cntR_pos {f : Nat → Int32} {k : Nat} {y : Int32} (h : f k = y) : cntR f (k + 1) y.toInt = cntR f k y.toInt + 1 := by
  show cntR f k y.toInt + (if (f k).toInt = y.toInt then 1 else 0) = _
  rw [if_pos (congrArg Int32.toInt h)]
theorem cntR_neg {f : Nat → Int32} {k : Nat} {y : Int32} (h : ¬ f k = y) : cntR f (k + 1) y.toInt = cntR f k y.toInt := by
  show cntR f k y.toInt + (if (f k).toInt = y.toInt then 1 else 0) = _
  rw [if_neg (fun q => h (Int32.toInt_inj.mp q)), Int.add_zero]
theorem cntR_rng {f : Nat → Int32} {x : Int} : ∀ k : Nat, 0 ≤ cntR f k x ∧ cntR f k x ≤ (k : Int)
  | 0 => ⟨Int.le_refl _, Int.le_refl _⟩
  | k + 1 => by
    have h := cntR_rng (f := f) (x := x) k
    show 0 ≤ cntR f k x + (if (f k).toInt = x then 1 else 0) ∧ cntR f k x + (if (f k).toInt = x then 1 else 0) ≤ ((k + 1 : Nat) : Int)
    split
    · omega
    · omega
noncomputable def rmF (k f : Int) : Int := if f = 3 ∧ (k = 1 ∨ k = 2) then 0 else if k = 2 then 3 else if k = 3 then 1 else 2
noncomputable def rmC (k f : Int) : Int := if (0 ≤ k ∧ k ≤ 3) ∧ 0 ≤ f ∧ f ≤ 4 then rmF k f else 0
theorem rmF_rng {k f : Int} : 0 ≤ rmF k f ∧ rmF k f ≤ 3 := by
  unfold rmF
  split
  · omega
  · split
    · omega
    · split
      · omega
      · omega
theorem rmC_rng {k f : Int} : 0 ≤ rmC k f ∧ rmC k f ≤ 3 := by
  unfold rmC
  split
  · exact rmF_rng
  · omega
theorem rooms_rm {a b : Int} (ha : 0 ≤ a ∧ a ≤ 3) (hb : 0 ≤ b ∧ b ≤ 4) {j : Nat} (hj : (j : Int) = 5 * a + b) : (qm_rooms.getD j 0).toInt = rmC a b := by
  have ha2 : a = 0 ∨ a = 1 ∨ a = 2 ∨ a = 3 := by omega
  have hb2 : b = 0 ∨ b = 1 ∨ b = 2 ∨ b = 3 ∨ b = 4 := by omega
  obtain q | q | q | q := ha2
  all_goals
    obtain w | w | w | w | w := hb2
  all_goals
    subst q
    subst w
  · rw [show j = 0 by omega]; rfl
  · rw [show j = 1 by omega]; rfl
  · rw [show j = 2 by omega]; rfl
  · rw [show j = 3 by omega]; rfl
  · rw [show j = 4 by omega]; rfl
  · rw [show j = 5 by omega]; rfl
  · rw [show j = 6 by omega]; rfl
  · rw [show j = 7 by omega]; rfl
  · rw [show j = 8 by omega]; rfl
  · rw [show j = 9 by omega]; rfl
  · rw [show j = 10 by omega]; rfl
  · rw [show j = 11 by omega]; rfl
  · rw [show j = 12 by omega]; rfl
  · rw [show j = 13 by omega]; rfl
  · rw [show j = 14 by omega]; rfl
  · rw [show j = 15 by omega]; rfl
  · rw [show j = 16 by omega]; rfl
  · rw [show j = 17 by omega]; rfl
  · rw [show j = 18 by omega]; rfl
  · rw [show j = 19 by omega]; rfl
theorem rmC_out {k f : Int} (h : k < 0 ∨ 3 < k ∨ f < 0 ∨ 4 < f) : rmC k f = 0 := by
  unfold rmC
  rw [if_neg (by omega)]
/-- of the class's told Memory: all CLERKS are there; no FINGER has too many -/
noncomputable def C6 (h : qm_H) : Prop := ∀ j : Nat, (j : Int) < (h 25 7).toInt → (0 ≤ (h 27 j).toInt ∧ (h 27 j).toInt / 10 < (h 25 6).toInt ∧ (h 27 j).toInt % 10 < 5) ∧ (0 ≤ (h 28 j).toInt ∧ (h 28 j).toInt / 10 < (h 25 6).toInt ∧ (h 28 j).toInt % 10 < (h 25 6).toInt ∧ ¬ (h 28 j).toInt / 10 = (h 28 j).toInt % 10)
noncomputable def C7 (h : qm_H) : Prop := ∀ j : Nat, (j : Int) < (h 25 7).toInt → cntR (h 27) (h 25 7).toInt.toNat (h 27 j).toInt ≤ rmC (h 26 ((h 27 j).toInt / 10).toNat).toInt ((h 27 j).toInt % 10)
noncomputable def whQ (r fk fp fk0 fp0 n : Int) (h : qm_H) : Prop := (r = 1 ∧ C6 h ∧ C7 h ∧ fk = fk0 ∧ fp = fp0) ∨ (r = 0 ∧ ¬ C6 h ∧ fk = 6 ∧ fp = n) ∨ (r = 0 ∧ C6 h ∧ ¬ C7 h ∧ fk = 7 ∧ fp = n)
/-! the same of what is told, purely -/
noncomputable def cntS (pl : Nat → Int) : Nat → Int → Int
  | 0, _ => 0
  | k + 1, x => cntS pl k x + (if pl k = x then 1 else 0)
noncomputable def ck6 (S : tS) : Prop := ∀ j : Nat, j < S.2.1 → S.2.2.2.2.2.1 j / 10 < (S.1 : Int) ∧ S.2.2.2.2.2.2.1 j / 10 < (S.1 : Int) ∧ S.2.2.2.2.2.2.1 j % 10 < (S.1 : Int)
noncomputable def ck7 (S : tS) : Prop := ∀ j : Nat, j < S.2.1 → cntS S.2.2.2.2.2.1 S.2.1 (S.2.2.2.2.2.1 j) ≤ rmF (S.2.2.2.2.1 (S.2.2.2.2.2.1 j / 10).toNat) (S.2.2.2.2.2.1 j % 10)
theorem cntS_eq {f : Nat → Int32} {pl : Nat → Int} {n : Nat} {x : Int} (h : ∀ j : Nat, j < n → (f j).toInt = pl j) : ∀ k : Nat, k ≤ n → cntR f k x = cntS pl k x
  | 0, _ => rfl
  | k + 1, hk => by
    show cntR f k x + (if (f k).toInt = x then 1 else 0) = cntS pl k x + (if pl k = x then 1 else 0)
    rw [cntS_eq h k (by omega), h k (by omega)]
theorem C6_ck {S : tS} {h : qm_H} (hc : cT S h) (hw : wfS S) : C6 h ↔ ck6 S := by
  obtain ⟨⟨a1, a2, a3, a4⟩, b1, b2⟩ := hc
  obtain ⟨_, _, w2⟩ := hw
  constructor
  · intro q j hj
    have := q j (by omega)
    have e := b2 j hj
    rw [← e.1, ← e.2.1]
    omega
  · intro q j hj
    have := q j (by omega)
    have e := b2 j (by omega)
    have w := w2 j (by omega)
    rw [e.1, e.2.1]
    omega
theorem C7_ck {S : tS} {h : qm_H} (hc : cT S h) (hw : wfS S) (h6 : ck6 S) : C7 h ↔ ck7 S := by
  obtain ⟨⟨a1, a2, a3, a4⟩, b1, b2⟩ := hc
  obtain ⟨_, w1, w2⟩ := hw
  have key : ∀ j : Nat, j < S.2.1 → cntR (h 27) (h 25 7).toInt.toNat (h 27 j).toInt = cntS S.2.2.2.2.2.1 S.2.1 (S.2.2.2.2.2.1 j) ∧ rmC (h 26 ((h 27 j).toInt / 10).toNat).toInt ((h 27 j).toInt % 10) = rmF (S.2.2.2.2.1 (S.2.2.2.2.2.1 j / 10).toNat) (S.2.2.2.2.2.1 j % 10) := by
    intro j hj
    have e := b2 j hj
    have w := w2 j hj
    have q := h6 j hj
    refine ⟨?_, ?_⟩
    · rw [show (h 25 7).toInt.toNat = S.2.1 by omega, e.1]
      exact cntS_eq (fun i hi => (b2 i hi).1) S.2.1 (Nat.le_refl _)
    · rw [e.1, b1 (S.2.2.2.2.2.1 j / 10).toNat (by omega)]
      have k := w1 (S.2.2.2.2.2.1 j / 10).toNat (by omega)
      unfold rmC
      rw [if_pos ⟨k, by omega, by omega⟩]
  constructor
  · intro q j hj
    have k := key j hj
    rw [← k.1, ← k.2]
    exact q j (by omega)
  · intro q j hj
    have k := key j (by omega)
    rw [k.1, k.2]
    exact q j (by omega)
/-- what a text comes to: its fault, the fault's place, how many lines -/
noncomputable def rdQ (R : tR) (r fk fp ln n : Int) (g : qm_H) : Prop := (r = 0 ∧ ¬ R.1 = 0 ∧ fk = R.1 ∧ fp = (R.2.1 : Int)) ∨ (R.1 = 0 ∧ r = 0 ∧ ¬ ck6 R.2.2.2 ∧ fk = 6 ∧ fp = n) ∨ (R.1 = 0 ∧ r = 0 ∧ ck6 R.2.2.2 ∧ ¬ ck7 R.2.2.2 ∧ fk = 7 ∧ fp = n) ∨ (R.1 = 0 ∧ r = 1 ∧ ck6 R.2.2.2 ∧ ck7 R.2.2.2 ∧ fk = 0 ∧ ln = (R.2.2.1 : Int) ∧ cT R.2.2.2 g)
/-- the class's loop over lines: what is told so far, and the rest -/
noncomputable def rdI (f : Nat → Int32) (n : Nat) (i p : Int) (g : qm_H) : Prop := ∃ S : tS, cT S g ∧ wfS S ∧ txF f n (161 - i).toNat p.toNat i.toNat S = txF f n 161 0 0 txS
theorem rdI_no {f : Nat → Int32} {n : Nat} {i p r1 st k e fk fp fk0 fp0 r ln m : Int} {g g2 : qm_H} (hI : rdI f n i p g) (hi : 0 ≤ i ∧ i ≤ 160) (h : tkR f n p.toNat r1 st k e fk fp fk0 fp0) (h1 : r1 = 0) (hr : r = 0) : rdQ (txF f n 161 0 0 txS) r fk fp ln m g2 := by
  obtain ⟨S, _, _, hS⟩ := hI
  obtain ⟨_, q | q⟩ := h
  · exact absurd (q.1.symm.trans h1) (by decide)
  · rw [show (161 - i).toNat = (160 - i).toNat + 1 by omega, txF_no q.2.1] at hS
    rw [← hS]
    exact Or.inl ⟨hr, by show ¬ (1 : Int) = 0; decide, q.2.2.1, q.2.2.2⟩
theorem rdI_end {f : Nat → Int32} {n : Nat} {i p r1 st k e fk1 fp1 fk0 fp0 r r2 fk fp ln m : Int} {g g2 g3 : qm_H} (hI : rdI f n i p g) (hi : 0 ≤ i ∧ i ≤ 160) (h : tkR f n p.toNat r1 st k e fk1 fp1 fk0 fp0) (h1 : ¬ r1 = 0) (hk : k = 0) (hw : whQ r2 fk fp fk1 fp1 m g2) (hr : r = r2) (hf : fk0 = 0) (hl : ln = i) (hc : ∀ S : tS, cT S g → cT S g2 ∧ cT S g3) : rdQ (txF f n 161 0 0 txS) r fk fp ln m g3 := by
  obtain ⟨S, c, w, hS⟩ := hI
  obtain ⟨_, q | q⟩ := h
  · rw [show (161 - i).toNat = (160 - i).toNat + 1 by omega, txF_end q.2.1 (q.2.2.1.symm.trans hk)] at hS
    rw [← hS]
    have c2 := hc S c
    obtain z | z | z := hw
    · have h6 := (C6_ck c2.1 w).mp z.2.1
      exact Or.inr (Or.inr (Or.inr ⟨rfl, by omega, h6, (C7_ck c2.1 w h6).mp z.2.2.1, by omega, by show ln = ((i.toNat : Nat) : Int); omega, c2.2⟩))
    · exact Or.inr (Or.inl ⟨rfl, by omega, fun y => z.2.1 ((C6_ck c2.1 w).mpr y), z.2.2⟩)
    · have h6 := (C6_ck c2.1 w).mp z.2.1
      exact Or.inr (Or.inr (Or.inl ⟨rfl, by omega, h6, fun y => z.2.2.1 ((C7_ck c2.1 w h6).mpr y), z.2.2.2⟩))
  · exact absurd q.1 h1
theorem rdI_bad {f : Nat → Int32} {n s0 e0 : Nat} {i p r1 st k e fk1 fp1 fk0 fp0 r r2 fk fp e2 nc nt dt ln m a b : Int} {g g2 g3 g4 : qm_H} (hI : rdI f n i p g) (hi : 0 ≤ i ∧ i ≤ 160) (h : tkR f n p.toNat r1 st k e fk1 fp1 fk0 fp0) (h1 : ¬ r1 = 0) (hk : ¬ k = 0) (hs0 : (s0 : Int) = st) (he0 : (e0 : Int) = e) (hq : lineQ f n s0 e0 k nc nt dt r2 fk fp e2 a b g2 g3) (h2 : r2 = 0) (hr : r = 0) (hc : ∀ S : tS, cT S g → nc = (S.1 : Int) ∧ nt = (S.2.1 : Int) ∧ dt = S.2.2.1) : rdQ (txF f n 161 0 0 txS) r fk fp ln m g4 := by
  obtain ⟨S, c, w, hS⟩ := hI
  obtain ⟨hst, q | q⟩ := h
  · have c2 := hc S c
    rw [c2.1, c2.2.1, c2.2.2, show s0 = tkS f n p.toNat by omega, show e0 = tkE f n (tkS f n p.toNat) by omega, q.2.2.1] at hq
    obtain z | z := hq
    · rw [show (161 - i).toNat = (160 - i).toNat + 1 by omega, txF_bad q.2.1 (fun y => hk (q.2.2.1.trans y)) z.2.1 z.2.2.2] at hS
      rw [← hS]
      exact Or.inl ⟨hr, z.2.2.2, rfl, by show fp = ((fp.toNat : Nat) : Int); omega⟩
    · exact absurd (z.1.symm.trans h2) (by decide)
  · exact absurd q.1 h1
theorem rdI_line {f : Nat → Int32} {n s0 e0 : Nat} {i p r1 st k e fk1 fp1 fk0 fp0 r2 fk fp e2 nc nt dt a b i2 : Int} {g g2 g3 g4 : qm_H} (hI : rdI f n i p g) (hi : 0 ≤ i ∧ i ≤ 160) (h : tkR f n p.toNat r1 st k e fk1 fp1 fk0 fp0) (h1 : ¬ r1 = 0) (hk : ¬ k = 0) (hs0 : (s0 : Int) = st) (he0 : (e0 : Int) = e) (hq : lineQ f n s0 e0 k nc nt dt r2 fk fp e2 a b g2 g3) (h2 : ¬ r2 = 0) (hc : ∀ S : tS, cT S g → cT S g2) (hn : ∀ S : tS, cT S g → nc = (S.1 : Int) ∧ nt = (S.2.1 : Int) ∧ dt = S.2.2.1) (hd : ∀ S : tS, cT S g3 → cT S g4) (hi2 : i2 = i + 1) : rdI f n i2 e2 g4 ∧ e < e2 ∧ fk = a ∧ fp = b := by
  obtain ⟨S, c, w, hS⟩ := hI
  obtain ⟨hst, q | q⟩ := h
  · have c2 := hn S c
    rw [c2.1, c2.2.1, c2.2.2, show s0 = tkS f n p.toNat by omega, show e0 = tkE f n (tkS f n p.toNat) by omega, q.2.2.1] at hq
    obtain z | z := hq
    · exact absurd z.1 h2
    · obtain ⟨_, zk, zp, ze, wd', v1, v2, v3, zl, zc⟩ := z
      rw [show (161 - i).toNat = (160 - i).toNat + 1 by omega, txF_line q.2.1 (fun y => hk (q.2.2.1.trans y)) zl] at hS
      have hW := wfS_st (S := S) (L := (0, 0, e2.toNat, wd', v1, v2, v3)) w (by rw [← zl]; exact lineF_W) rfl
      refine ⟨⟨stF S wd' v1 v2 v3, hd _ (zc S (hc S c)), hW, ?_⟩, by omega, zk, zp⟩
      rw [show (161 - i2).toNat = (160 - i).toNat by omega, show i2.toNat = i.toNat + 1 by omega]
      exact hS
  · exact absurd q.1 h1
theorem cT_eq {S : tS} {g k : qm_H} (c : cT S g) (e25 : k 25 = g 25) (e26 : k 26 = g 26) (e27 : k 27 = g 27) (e28 : k 28 = g 28) (e29 : k 29 = g 29) (e10 : (k 23 10).toInt = (g 23 10).toInt) : cT S k := by
  unfold cT
  rw [e25, e26, e27, e28, e29, e10]
  exact c
theorem cT_0 {g : qm_H} (h6 : (g 25 6).toInt = 0) (h7 : (g 25 7).toInt = 0) (h8 : (g 25 8).toInt = 0) (h10 : (g 23 10).toInt = 0) : cT txS g := ⟨⟨h6, h7, h10, h8⟩, fun j hj => absurd hj (Nat.not_lt_zero _), fun j hj => absurd hj (Nat.not_lt_zero _)⟩
theorem rdI_0 {f : Nat → Int32} {n : Nat} {i p : Int} {g : qm_H} (hi : i = 0) (hp : p = 0) (c : cT txS g) : rdI f n i p g := by
  subst hi
  subst hp
  exact ⟨txS, c, wfS_0, rfl⟩
theorem tkR_le {f : Nat → Int32} {n p : Nat} {r st k e fk fp fk0 fp0 : Int} (h : tkR f n p r st k e fk fp fk0 fp0) : 0 ≤ st ∧ (p : Int) ≤ st ∧ (r = 0 ∨ (st ≤ e ∧ fk = fk0 ∧ fp = fp0)) := by
  have hge : p ≤ tkS f n p := run_ge
  obtain ⟨h1, q | q⟩ := h
  · have h2 : tkS f n p ≤ tkE f n (tkS f n p) := by
      unfold tkE
      split
      · exact Nat.le_refl _
      · split
        · exact Nat.le_succ _
        · split
          · exact run_ge
          · exact run_ge
    have := q.2.2.2.1
    exact ⟨by omega, by omega, Or.inr ⟨by omega, q.2.2.2.2⟩⟩
  · exact ⟨by omega, by omega, Or.inl q.1⟩
/-! a fault's place, a line's end are no more than the length -/
noncomputable def lnP (L : lnT) (n : Nat) : Prop := L.2.1 ≤ n ∧ L.2.2.1 ≤ n
theorem tkS_le {f : Nat → Int32} {n p : Nat} (h : p ≤ n) : tkS f n p ≤ n := run_le h
theorem tkE_le {f : Nat → Int32} {n s : Nat} (h : s ≤ n) : tkE f n s ≤ n := by
  unfold tkE
  split
  · exact h
  · split
    · omega
    · split
      · exact run_le h
      · exact run_le h
theorem lnP_B {c : Int} {s n : Nat} (h : s ≤ n) : lnP (lnB c s) n := ⟨h, Nat.zero_le _⟩
theorem numF_P {f : Nat → Int32} {n p : Nat} {k : Nat → Nat → Int → lnT} (hp : p ≤ n) (h : ∀ (s e : Nat) (v : Int), s ≤ n → e ≤ n → lnP (k s e v) n) : lnP (numF f n p k) n := by
  unfold numF
  split
  · exact lnP_B (tkS_le hp)
  · split
    · exact lnP_B (tkS_le hp)
    · exact h _ _ _ (tkS_le hp) (tkE_le (tkS_le hp))
theorem stopF_P {f : Nat → Int32} {n p : Nat} {k : Nat → lnT} (hp : p ≤ n) (h : ∀ e : Nat, e ≤ n → lnP (k e) n) : lnP (stopF f n p k) n := by
  unfold stopF
  split
  · exact lnP_B (tkS_le hp)
  · split
    · exact lnP_B (tkS_le hp)
    · exact h _ (tkE_le (tkS_le hp))
theorem lineF_P {f : Nat → Int32} {n s0 e0 : Nat} {k0 nc nt dt : Int} (hs : s0 ≤ n) (he : e0 ≤ n) : lnP (lineF f n s0 e0 k0 nc nt dt) n := by
  unfold lineF
  split
  · exact lnP_B hs
  · split
    · unfold dayF
      split
      · exact lnP_B hs
      · refine numF_P he (fun s e v h1 h2 => ?_)
        split
        · exact lnP_B h1
        · exact stopF_P h2 (fun e2 h3 => ⟨Nat.zero_le _, h3⟩)
    · split
      · unfold tieF
        split
        · exact lnP_B hs
        · refine numF_P he (fun s e v h1 h2 => ?_)
          split
          · exact lnP_B h1
          · refine numF_P h2 (fun s2 e2 v2 h3 h4 => ?_)
            split
            · exact lnP_B h3
            · refine numF_P h4 (fun s3 e3 v3 h5 h6 => ?_)
              split
              · exact lnP_B h5
              · exact stopF_P h6 (fun e2 h7 => ⟨Nat.zero_le _, h7⟩)
      · unfold clkF
        split
        · exact lnP_B hs
        · exact stopF_P he (fun e2 h7 => ⟨Nat.zero_le _, h7⟩)
theorem txF_P {f : Nat → Int32} {n : Nat} : ∀ (k p l : Nat) (S : tS), p ≤ n → (txF f n k p l S).2.1 ≤ n
  | 0, p, l, S, h => Nat.zero_le _
  | k + 1, p, l, S, h => by
    have hL := lineF_P (f := f) (k0 := tkK f n (tkS f n p)) (nc := S.1) (nt := S.2.1) (dt := S.2.2.1) (tkS_le (f := f) h) (tkE_le (f := f) (tkS_le (f := f) h))
    rw [txF_eq]
    by_cases q : ¬ tkO f n (tkS f n p)
    · rw [if_pos q]; exact tkS_le h
    · rw [if_neg q]
      by_cases q2 : tkK f n (tkS f n p) = 0
      · rw [if_pos q2]; exact Nat.zero_le _
      · rw [if_neg q2]
        by_cases q3 : (lineF f n (tkS f n p) (tkE f n (tkS f n p)) (tkK f n (tkS f n p)) S.1 S.2.1 S.2.2.1).1 = 0
        · rw [if_pos q3]
          exact txF_P k _ _ _ hL.2
        · rw [if_neg q3]; exact hL.1
/-- what text() answers and its fault -/
noncomputable def txQ (R : tR) (r fk n : Int) : Prop := (¬ R.1 = 0 ∧ fk = R.1 ∧ r = -10 - (R.2.1 : Int)) ∨ (R.1 = 0 ∧ ¬ ck6 R.2.2.2 ∧ fk = 6 ∧ r = -10 - n) ∨ (R.1 = 0 ∧ ck6 R.2.2.2 ∧ ¬ ck7 R.2.2.2 ∧ fk = 7 ∧ r = -10 - n) ∨ (R.1 = 0 ∧ ck6 R.2.2.2 ∧ ck7 R.2.2.2 ∧ fk = 0 ∧ r = (R.2.2.1 : Int))
theorem txQ_one {R : tR} {r fk r2 fk2 n : Int} (a : txQ R r fk n) (b : txQ R r2 fk2 n) : r = r2 ∧ fk = fk2 := by
  obtain a | a | a | a := a
  · obtain b | b | b | b := b
    · omega
    · exact absurd b.1 a.1
    · exact absurd b.1 a.1
    · exact absurd b.1 a.1
  · obtain b | b | b | b := b
    · exact absurd a.1 b.1
    · omega
    · exact absurd b.2.1 a.2.1
    · exact absurd b.2.1 a.2.1
  · obtain b | b | b | b := b
    · exact absurd a.1 b.1
    · exact absurd a.2.1 b.2.1
    · omega
    · exact absurd b.2.2.1 a.2.2.1
  · obtain b | b | b | b := b
    · exact absurd a.1 b.1
    · exact absurd a.2.1 b.2.1
    · exact absurd a.2.2.1 b.2.2.1
    · omega
