/-! ===== numbers, stops, lines: what is read against what is told by the pure text ===== -/
noncomputable def nmI (f : Nat → Int32) (s e : Nat) (i v : Int) : Prop := ((s : Int) ≤ i ∧ i ≤ (e : Int)) ∧ (0 ≤ v ∧ v ≤ 99) ∧ ((i = (s : Int) ∧ v = 0) ∨ (i = (s : Int) + 1 ∧ v = (f s).toInt - 48) ∨ (i = (s : Int) + 2 ∧ v = 10 * ((f s).toInt - 48) + ((f (s + 1)).toInt - 48)))
noncomputable def numI (f : Nat → Int32) (n p : Nat) (st e i v : Int) : Prop := tkO f n (tkS f n p) ∧ tkK f n (tkS f n p) = 2 ∧ st = ((tkS f n p : Nat) : Int) ∧ e = ((tkE f n (tkS f n p) : Nat) : Int) ∧ nmI f (tkS f n p) (tkE f n (tkS f n p)) i v
theorem numI_0 {f : Nat → Int32} {n p : Nat} {r st k e fk fp fk0 fp0 : Int} (h : tkR f n p r st k e fk fp fk0 fp0) (hr : ¬ r = 0) (hk : k = 2) : numI f n p st e st 0 ∧ fk = fk0 ∧ fp = fp0 := by
  obtain ⟨h1, h2 | h2⟩ := h
  · have hk2 : tkK f n (tkS f n p) = 2 := h2.2.2.1.symm.trans hk
    have ht := tk_two h2.2.1 hk2
    exact ⟨⟨h2.2.1, hk2, h1, h2.2.2.2.1, ⟨by omega, by omega⟩, by omega, Or.inl ⟨h1, rfl⟩⟩, h2.2.2.2.2⟩
  · exact absurd h2.1 hr
theorem numI_b {f : Nat → Int32} {n p : Nat} {st e i v : Int} (h : numI f n p st e i v) : i < e → 48 ≤ (f i.toNat).toInt ∧ (f i.toNat).toInt ≤ 57 := by
  intro hl
  obtain ⟨ho, hk, _, he, ⟨_, _⟩, _, h3⟩ := h
  have ht := tk_two ho hk
  obtain q | q | q := h3
  · rw [show i.toNat = tkS f n p by omega]; exact ht.2.1
  · rw [show i.toNat = tkS f n p + 1 by omega]; exact ht.2.2 (by omega)
  · exact absurd hl (by omega)
theorem numI_v {f : Nat → Int32} {n p : Nat} {st e i v : Int} (h : numI f n p st e i v) : (0 ≤ v ∧ v ≤ 99) ∧ (0 ≤ i ∧ i ≤ e) := by
  obtain ⟨_, _, _, he, ⟨_, _⟩, h2, _⟩ := h
  exact ⟨h2, by omega, by omega⟩
theorem numI_s {f : Nat → Int32} {n p : Nat} {st e i v i2 v2 b : Int} (h : numI f n p st e i v) (hl : i < e) (hb : b = (f i.toNat).toInt) (hi : i2 = i + 1) (hv : v2 = 10 * v + b - 48) : numI f n p st e i2 v2 := by
  have hb2 := numI_b h hl
  obtain ⟨ho, hk, hs, he, ⟨_, _⟩, _, h3⟩ := h
  have ht := tk_two ho hk
  obtain q | q | q := h3
  · have e1 : i.toNat = tkS f n p := by omega
    rw [e1] at hb hb2
    exact ⟨ho, hk, hs, he, by omega, by omega, Or.inr (Or.inl (by omega))⟩
  · have e1 : i.toNat = tkS f n p + 1 := by omega
    rw [e1] at hb hb2
    exact ⟨ho, hk, hs, he, by omega, by omega, Or.inr (Or.inr (by omega))⟩
  · exact absurd hl (by omega)
theorem numI_e {f : Nat → Int32} {n p : Nat} {r st e i v fk fp fk0 fp0 : Int} (h : numI f n p st e i v) (hl : ¬ i < e) (hr : r = 1) (h4 : fk = fk0) (h5 : fp = fp0) : numR f n p r st e v fk fp fk0 fp0 := by
  obtain ⟨ho, hk, hs, he, ⟨_, _⟩, _, h3⟩ := h
  have ht := tk_two ho hk
  refine Or.inl ⟨hr, ho, hk, hs, he, ?_, h4, h5⟩
  unfold nm
  obtain q | q | q := h3
  · exact absurd hl (by omega)
  · rw [if_pos (by omega)]; exact q.2
  · rw [if_neg (by omega)]; exact q.2
theorem numR_b1 {f : Nat → Int32} {n p : Nat} {r st k e fk fp fk0 fp0 r2 st2 e2 v2 : Int} (h : tkR f n p r st k e fk fp fk0 fp0) (hr : r = 0) (hr2 : r2 = 0) : numR f n p r2 st2 e2 v2 fk fp fk0 fp0 := by
  obtain ⟨h1, h2 | h2⟩ := h
  · exact absurd (h2.1.symm.trans hr) (by decide)
  · exact Or.inr ⟨hr2, Or.inl ⟨h2.2.1, h2.2.2.1⟩, h2.2.2.2⟩
theorem numR_b2 {f : Nat → Int32} {n p : Nat} {r st k e fk fp fk0 fp0 r2 st2 e2 v2 fk2 fp2 : Int} (h : tkR f n p r st k e fk fp fk0 fp0) (hr : ¬ r = 0) (hk : ¬ k = 2) (hr2 : r2 = 0) (h4 : fk2 = 2) (h5 : fp2 = st) : numR f n p r2 st2 e2 v2 fk2 fp2 fk0 fp0 := by
  obtain ⟨h1, h2 | h2⟩ := h
  · exact Or.inr ⟨hr2, Or.inr ⟨h2.2.1, fun q => hk (h2.2.2.1.trans q), h4⟩, h5.trans h1⟩
  · exact absurd h2.1 hr
theorem stopR_b1 {f : Nat → Int32} {n p : Nat} {r st k e fk fp fk0 fp0 r2 e2 : Int} (h : tkR f n p r st k e fk fp fk0 fp0) (hr : r = 0) (hr2 : r2 = 0) : stopR f n p r2 e2 fk fp fk0 fp0 := by
  obtain ⟨h1, h2 | h2⟩ := h
  · exact absurd (h2.1.symm.trans hr) (by decide)
  · exact Or.inr ⟨hr2, Or.inl ⟨h2.2.1, h2.2.2.1⟩, h2.2.2.2⟩
theorem stopR_b2 {f : Nat → Int32} {n p : Nat} {r st k e fk fp fk0 fp0 r2 e2 fk2 fp2 : Int} (h : tkR f n p r st k e fk fp fk0 fp0) (hr : ¬ r = 0) (hk : ¬ k = 3) (hr2 : r2 = 0) (h4 : fk2 = 2) (h5 : fp2 = st) : stopR f n p r2 e2 fk2 fp2 fk0 fp0 := by
  obtain ⟨h1, h2 | h2⟩ := h
  · exact Or.inr ⟨hr2, Or.inr ⟨h2.2.1, fun q => hk (h2.2.2.1.trans q), h4⟩, h5.trans h1⟩
  · exact absurd h2.1 hr
theorem stopR_ok {f : Nat → Int32} {n p : Nat} {r st k e fk fp fk0 fp0 r2 : Int} (h : tkR f n p r st k e fk fp fk0 fp0) (hr : ¬ r = 0) (hk : k = 3) (hr2 : r2 = 1) : stopR f n p r2 e fk fp fk0 fp0 := by
  obtain ⟨h1, h2 | h2⟩ := h
  · exact Or.inl ⟨hr2, h2.2.1, h2.2.2.1.symm.trans hk, h2.2.2.2.1, h2.2.2.2.2.1, h2.2.2.2.2.2⟩
  · exact absurd h2.1 hr
theorem numF_ok {f : Nat → Int32} {n p : Nat} {r st e v fk fp fk0 fp0 : Int} (h : numR f n p r st e v fk fp fk0 fp0) (hr : ¬ r = 0) (k : Nat → Nat → Int → lnT) : numF f n p k = k st.toNat e.toNat v := by
  obtain h2 | h2 := h
  · unfold numF
    rw [if_neg (fun q => q h2.2.1), if_neg (fun q => q h2.2.2.1), show st.toNat = tkS f n p by omega, show e.toNat = tkE f n (tkS f n p) by omega, h2.2.2.2.2.2.1]
  · exact absurd h2.1 hr
theorem numF_bad {f : Nat → Int32} {n p : Nat} {r st e v fk fp fk0 fp0 : Int} (h : numR f n p r st e v fk fp fk0 fp0) (hr : r = 0) (k : Nat → Nat → Int → lnT) : numF f n p k = lnB fk fp.toNat := by
  obtain h2 | ⟨_, h2, h3⟩ := h
  · exact absurd (h2.1.symm.trans hr) (by decide)
  · unfold numF
    rw [show fp.toNat = tkS f n p by omega]
    obtain q | q := h2
    · rw [if_pos q.1, q.2]
    · rw [if_neg (fun z => z q.1), if_pos q.2.1, q.2.2]
theorem stopF_ok {f : Nat → Int32} {n p : Nat} {r e fk fp fk0 fp0 : Int} (h : stopR f n p r e fk fp fk0 fp0) (hr : ¬ r = 0) (k : Nat → lnT) : stopF f n p k = k e.toNat := by
  obtain h2 | h2 := h
  · unfold stopF
    rw [if_neg (fun q => q h2.2.1), if_neg (fun q => q h2.2.2.1), show e.toNat = tkE f n (tkS f n p) by omega]
  · exact absurd h2.1 hr
theorem stopF_bad {f : Nat → Int32} {n p : Nat} {r e fk fp fk0 fp0 : Int} (h : stopR f n p r e fk fp fk0 fp0) (hr : r = 0) (k : Nat → lnT) : stopF f n p k = lnB fk fp.toNat := by
  obtain h2 | ⟨_, h2, h3⟩ := h
  · exact absurd (h2.1.symm.trans hr) (by decide)
  · unfold stopF
    rw [show fp.toNat = tkS f n p by omega]
    obtain q | q := h2
    · rw [if_pos q.1, q.2]
    · rw [if_neg (fun z => z q.1), if_pos q.2.1, q.2.2]
/-- a stop that was read stands behind -/
theorem stopR_gt {f : Nat → Int32} {n p : Nat} {r e fk fp fk0 fp0 : Int} (h : stopR f n p r e fk fp fk0 fp0) (hr : ¬ r = 0) : (p : Int) < e ∧ fk = fk0 ∧ fp = fp0 := by
  obtain h2 | h2 := h
  · have hge : p ≤ tkS f n p := run_ge
    have hns : tkS f n p < n := by
      by_cases q : n ≤ tkS f n p
      · have := (tk_end (f := f) q).1; omega
      · omega
    have he : tkE f n (tkS f n p) = tkS f n p + 1 := by
      have hk := h2.2.2.1
      by_cases q : (f (tkS f n p)).toInt = 59
      · exact (tk_stop hns q).2.1
      · by_cases q2 : 97 ≤ (f (tkS f n p)).toInt ∧ (f (tkS f n p)).toInt ≤ 122
        · have := (tk_name hns q2).1; omega
        · have := (tk_num hns q q2).1; omega
    exact ⟨by omega, h2.2.2.2.2⟩
  · exact absurd h2.1 hr
theorem numR_ok {f : Nat → Int32} {n p : Nat} {r st e v fk fp fk0 fp0 : Int} (h : numR f n p r st e v fk fp fk0 fp0) (hr : ¬ r = 0) : (0 ≤ v ∧ v ≤ 99) ∧ (0 ≤ st ∧ 0 ≤ e) ∧ fk = fk0 ∧ fp = fp0 := by
  obtain h2 | h2 := h
  · have ht := tk_two h2.2.1 h2.2.2.1
    have hv := h2.2.2.2.2.2.1
    refine ⟨?_, ⟨by omega, by omega⟩, h2.2.2.2.2.2.2⟩
    unfold nm at hv
    obtain q | q := ht.1
    · rw [if_pos q] at hv; omega
    · rw [if_neg (by omega)] at hv
      have := ht.2.2 q
      omega
  · exact absurd h2.1 hr
theorem numR_fp {f : Nat → Int32} {n p : Nat} {r st e v fk fp fk0 fp0 : Int} (h : numR f n p r st e v fk fp fk0 fp0) (hr : r = 0) : 0 ≤ fp ∧ ¬ fk = 0 := by
  obtain h2 | ⟨_, h2, h3⟩ := h
  · exact absurd (h2.1.symm.trans hr) (by decide)
  · omega
theorem stopR_fp {f : Nat → Int32} {n p : Nat} {r e fk fp fk0 fp0 : Int} (h : stopR f n p r e fk fp fk0 fp0) (hr : r = 0) : 0 ≤ fp ∧ ¬ fk = 0 := by
  obtain h2 | ⟨_, h2, h3⟩ := h
  · exact absurd (h2.1.symm.trans hr) (by decide)
  · omega
theorem numR_ge {f : Nat → Int32} {n p : Nat} {r st e v fk fp fk0 fp0 : Int} (h : numR f n p r st e v fk fp fk0 fp0) (hr : ¬ r = 0) : (p : Int) ≤ e := by
  obtain h2 | h2 := h
  · have hge : p ≤ tkS f n p := run_ge
    have ht := tk_two h2.2.1 h2.2.2.1
    have := h2.2.2.2.2.1
    omega
  · exact absurd h2.1 hr
