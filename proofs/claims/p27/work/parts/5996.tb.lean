/-! ===== the reference's tokens ===== -/
noncomputable def bt (f : Nat → Int32) (n : Int) : Prop := ∀ j : Nat, (j : Int) < n → 0 ≤ (f j).toInt ∧ (f j).toInt ≤ 127
/-- what reading a token notes, the fault being 0 before -/
noncomputable def nxR (f : Nat → Int32) (n p : Nat) (st k e v fk fp fp0 : Int) : Prop := st = ((tkS f n p : Nat) : Int) ∧ ((tkO f n (tkS f n p) ∧ k = tkK f n (tkS f n p) ∧ e = ((tkE f n (tkS f n p) : Nat) : Int) ∧ (k = 2 → v = nm f (tkS f n p) (tkE f n (tkS f n p))) ∧ fk = 0 ∧ fp = fp0) ∨ (¬ tkO f n (tkS f n p) ∧ fk = 1 ∧ fp = ((tkS f n p : Nat) : Int)))
theorem nxR_end {f : Nat → Int32} {n p : Nat} {st k e v fk fp fp0 : Int} (hs : st = ((tkS f n p : Nat) : Int)) (h : (n : Int) ≤ st) (hk : k = 0) (he : e = st) (h4 : fk = 0) (h5 : fp = fp0) : nxR f n p st k e v fk fp fp0 := by
  obtain ⟨e1, e2, e3⟩ := tk_end (f := f) (n := n) (s := tkS f n p) (by omega)
  exact ⟨hs, Or.inl ⟨e3, by rw [e1]; exact hk, by rw [e2]; omega, fun q => by omega, h4, h5⟩⟩
theorem nxR_name {f : Nat → Int32} {n p : Nat} {st k e v fk fp fp0 : Int} (hs : st = ((tkS f n p : Nat) : Int)) (h : st < (n : Int)) (hb : 97 ≤ (f st.toNat).toInt ∧ (f st.toNat).toInt ≤ 122) (he : e = ((run f n 97 122 st.toNat : Nat) : Int)) (hk : k = 1) (h4 : fk = 0) (h5 : fp = fp0) : nxR f n p st k e v fk fp fp0 := by
  have es : st.toNat = tkS f n p := by omega
  rw [es] at hb he
  obtain ⟨e1, e2, e3⟩ := tk_name (f := f) (n := n) (s := tkS f n p) (by omega) hb
  exact ⟨hs, Or.inl ⟨e3, by rw [e1]; exact hk, by rw [e2]; exact he, fun q => by omega, h4, h5⟩⟩
theorem nxR_stop {f : Nat → Int32} {n p : Nat} {st k e v fk fp fp0 : Int} (hs : st = ((tkS f n p : Nat) : Int)) (h : st < (n : Int)) (hb : (f st.toNat).toInt = 59) (he : e = st + 1) (hk : k = 3) (h4 : fk = 0) (h5 : fp = fp0) : nxR f n p st k e v fk fp fp0 := by
  have es : st.toNat = tkS f n p := by omega
  rw [es] at hb
  obtain ⟨e1, e2, e3⟩ := tk_stop (f := f) (n := n) (s := tkS f n p) (by omega) hb
  exact ⟨hs, Or.inl ⟨e3, by rw [e1]; exact hk, by rw [e2]; omega, fun q => by omega, h4, h5⟩⟩
theorem nxR_bad {f : Nat → Int32} {n p : Nat} {st k e v fk fp fp0 : Int} (hs : st = ((tkS f n p : Nat) : Int)) (h : st < (n : Int)) (hb : ¬ (f st.toNat).toInt = 59) (h1 : ¬ (97 ≤ (f st.toNat).toInt ∧ (f st.toNat).toInt ≤ 122)) (h2 : ¬ (48 ≤ (f st.toNat).toInt ∧ (f st.toNat).toInt ≤ 57)) (h4 : fk = 1) (h5 : fp = st) : nxR f n p st k e v fk fp fp0 := by
  have es : st.toNat = tkS f n p := by omega
  rw [es] at hb h1 h2
  obtain ⟨e1, e2, e3⟩ := tk_num (f := f) (n := n) (s := tkS f n p) (by omega) hb h1
  have hr : run f n 48 57 (tkS f n p) = tkS f n p := run_stop (fun q => h2 q.2)
  exact ⟨hs, Or.inr ⟨fun q => by have := e3.mp q; omega, h4, by omega⟩⟩
/-- figures read so far, from s to i: the number of the first two -/
noncomputable def dgI (f : Nat → Int32) (n s : Nat) (i v : Int) : Prop := ((s : Int) ≤ i ∧ s < n ∧ 48 ≤ (f s).toInt ∧ (f s).toInt ≤ 57) ∧ run f n 48 57 i.toNat = run f n 48 57 s ∧ (0 ≤ v ∧ v ≤ 99) ∧ ((i = (s : Int) ∧ v = 0) ∨ (i = (s : Int) + 1 ∧ v = (f s).toInt - 48) ∨ ((s : Int) + 2 ≤ i ∧ v = 10 * ((f s).toInt - 48) + ((f (s + 1)).toInt - 48)))
theorem dgI_0 {f : Nat → Int32} {n s : Nat} {i v : Int} (hi : i = (s : Int)) (hv : v = 0) (hs : (s : Int) < (n : Int)) (hb : 48 ≤ (f s).toInt ∧ (f s).toInt ≤ 57) : dgI f n s i v := by
  subst hi
  exact ⟨⟨by omega, by omega, hb⟩, by rw [show ((s : Nat) : Int).toNat = s by omega], by omega, Or.inl ⟨rfl, hv⟩⟩
theorem dgI_v {f : Nat → Int32} {n s : Nat} {i v : Int} (h : dgI f n s i v) : (0 ≤ v ∧ v ≤ 99) ∧ (s : Int) ≤ i := ⟨h.2.2.1, h.1.1⟩
theorem dgI_s {f : Nat → Int32} {n s : Nat} {i v b i2 v2 : Int} (h : dgI f n s i v) (hl : i < (n : Int)) (hb : b = (f i.toNat).toInt) (hd : 48 ≤ b ∧ b ≤ 57) (hi : i2 = i + 1) (hv : (i - (s : Int) < 2 ∧ v2 = 10 * v + b - 48) ∨ (2 ≤ i - (s : Int) ∧ v2 = v)) : dgI f n s i2 v2 := by
  obtain ⟨⟨h0, h1, h2⟩, hr, h3, h4⟩ := h
  have hr2 : run f n 48 57 i2.toNat = run f n 48 57 s := by
    rw [← hr, run_step (f := f) (p := i.toNat) ⟨by omega, by omega, by omega⟩, show i2.toNat = i.toNat + 1 by omega]
  obtain q | q | q := h4
  · have e1 : i.toNat = s := by omega
    rw [e1] at hb
    exact ⟨⟨by omega, h1, h2⟩, hr2, by omega, Or.inr (Or.inl (by omega))⟩
  · have e1 : i.toNat = s + 1 := by omega
    rw [e1] at hb
    exact ⟨⟨by omega, h1, h2⟩, hr2, by omega, Or.inr (Or.inr (by omega))⟩
  · exact ⟨⟨by omega, h1, h2⟩, hr2, by omega, Or.inr (Or.inr (by omega))⟩
theorem dgI_e {f : Nat → Int32} {n s : Nat} {i v : Int} (h : dgI f n s i v) (hb : ¬ (i < (n : Int) ∧ 48 ≤ (f i.toNat).toInt ∧ (f i.toNat).toInt ≤ 57)) : i = ((run f n 48 57 s : Nat) : Int) ∧ s < run f n 48 57 s ∧ (i ≤ (s : Int) + 2 → v = nm f s (run f n 48 57 s)) := by
  obtain ⟨⟨h0, h1, h2⟩, hr, h3, h4⟩ := h
  have e : run f n 48 57 i.toNat = i.toNat := run_stop (fun q => hb ⟨by omega, q.2⟩)
  have hp := run_pos (f := f) (n := n) (lo := 48) (hi := 57) (p := s) ⟨h1, h2⟩
  have ei : i = ((run f n 48 57 s : Nat) : Int) := by omega
  refine ⟨ei, hp, fun q => ?_⟩
  unfold nm
  obtain z | z | z := h4
  · omega
  · rw [if_pos (by omega)]; exact z.2
  · rw [if_neg (by omega)]; exact z.2
theorem nxR_num {f : Nat → Int32} {n p s : Nat} {st k e v fk fp fp0 : Int} (hs : st = ((tkS f n p : Nat) : Int)) (h : dgI f n s e v) (hst : (s : Int) = st) (hb : ¬ (e < (n : Int) ∧ 48 ≤ (f e.toNat).toInt ∧ (f e.toNat).toInt ≤ 57)) (hl : e ≤ st + 2) (hk : k = 2) (h4 : fk = 0) (h5 : fp = fp0) : nxR f n p st k e v fk fp fp0 := by
  have es : s = tkS f n p := by omega
  obtain ⟨d1, d2, d3⟩ := dgI_e h hb
  obtain ⟨⟨_, g1, g2⟩, _⟩ := h
  rw [es] at d1 d2 d3 g1 g2
  obtain ⟨e1, e2, e3⟩ := tk_num (f := f) (n := n) (s := tkS f n p) g1 (by omega) (by omega)
  exact ⟨hs, Or.inl ⟨e3.mpr (by omega), by rw [e1]; exact hk, by rw [e2]; exact d1, fun _ => by rw [e2]; exact d3 (by omega), h4, h5⟩⟩
theorem nxR_long {f : Nat → Int32} {n p s : Nat} {st k e v fk fp fp0 : Int} (hs : st = ((tkS f n p : Nat) : Int)) (h : dgI f n s e v) (hst : (s : Int) = st) (hb : ¬ (e < (n : Int) ∧ 48 ≤ (f e.toNat).toInt ∧ (f e.toNat).toInt ≤ 57)) (hl : ¬ e ≤ st + 2) (h4 : fk = 1) (h5 : fp = st) : nxR f n p st k e v fk fp fp0 := by
  have es : s = tkS f n p := by omega
  obtain ⟨d1, d2, d3⟩ := dgI_e h hb
  obtain ⟨⟨_, g1, g2⟩, _⟩ := h
  rw [es] at d1 d2 d3 g1 g2
  obtain ⟨e1, e2, e3⟩ := tk_num (f := f) (n := n) (s := tkS f n p) g1 (by omega) (by omega)
  exact ⟨hs, Or.inr ⟨fun q => by have := e3.mp q; omega, h4, by omega⟩⟩
/-- what next() notes -/
noncomputable def nxQ (f : Nat → Int32) (n p : Nat) (fk0 st k e v fk fp fp0 : Int) : Prop := (¬ fk0 = 0 ∧ fk = fk0 ∧ fp = fp0) ∨ (fk0 = 0 ∧ nxR f n p st k e v fk fp fp0)
theorem nxR_kp {f : Nat → Int32} {n p : Nat} {st k e v fk fp fp0 : Int} (h : nxR f n p st k e v fk fp fp0) : 0 ≤ st ∧ (fk = 0 ∨ fk = 1) ∧ (fk = 0 → (p : Int) ≤ st ∧ st ≤ e ∧ fp = fp0 ∧ (¬ k = 0 → (p : Int) < e) ∧ (k = 2 → 0 ≤ v ∧ v ≤ 99)) := by
  have hge : p ≤ tkS f n p := run_ge
  obtain ⟨h1, q | q⟩ := h
  · refine ⟨by omega, by omega, fun _ => ?_⟩
    have hv : k = 2 → 0 ≤ v ∧ v ≤ 99 := fun z => by
      have := nm_rng q.1 (q.2.1.symm.trans z)
      have := q.2.2.2.1 z
      omega
    have h2 : tkS f n p ≤ tkE f n (tkS f n p) ∧ (¬ tkK f n (tkS f n p) = 0 → tkS f n p < tkE f n (tkS f n p)) := by
      by_cases hn : n ≤ tkS f n p
      · have t := tk_end (f := f) hn
        exact ⟨by omega, fun z => absurd t.1 z⟩
      · by_cases h59 : (f (tkS f n p)).toInt = 59
        · have t := tk_stop (f := f) (n := n) (s := tkS f n p) (by omega) h59
          omega
        · by_cases haz : 97 ≤ (f (tkS f n p)).toInt ∧ (f (tkS f n p)).toInt ≤ 122
          · have t := tk_name (f := f) (n := n) (s := tkS f n p) (by omega) haz
            have t2 := run_pos (f := f) (n := n) (lo := 97) (hi := 122) (p := tkS f n p) ⟨by omega, haz⟩
            omega
          · have t := tk_num (f := f) (n := n) (s := tkS f n p) (by omega) h59 haz
            have t2 := t.2.2.mp q.1
            omega
    have := q.2.1
    have := q.2.2.1
    exact ⟨by omega, by omega, q.2.2.2.2.2, fun z => by have := h2.2 (by omega); omega, hv⟩
  · exact ⟨by omega, by omega, fun z => by omega⟩
/-! blanks -/
theorem blk_e {f : Nat → Int32} {n p : Nat} {i b : Int} (h : run f n 32 32 i.toNat = run f n 32 32 p) (hb : ((0 ≤ i ∧ i < (n : Int)) ∧ b = (f i.toNat).toInt) ∨ ((n : Int) ≤ i ∧ b = -1)) (h0 : 0 ≤ i) (hne : ¬ b = 32) : i = ((tkS f n p : Nat) : Int) := by
  have e : run f n 32 32 i.toNat = i.toNat := run_stop (fun q => by omega)
  have e2 : tkS f n p = i.toNat := h.symm.trans e
  omega
theorem blk_s {f : Nat → Int32} {n p : Nat} {i b i2 : Int} (h : run f n 32 32 i.toNat = run f n 32 32 p) (hb : ((0 ≤ i ∧ i < (n : Int)) ∧ b = (f i.toNat).toInt) ∨ ((n : Int) ≤ i ∧ b = -1)) (he : b = 32) (hi : i2 = i + 1) (h0 : 0 ≤ i) : run f n 32 32 i2.toNat = run f n 32 32 p := by
  rw [← h, run_step (f := f) (p := i.toNat) ⟨by omega, by omega, by omega⟩, show i2.toNat = i.toNat + 1 by omega]
/-! letters -/
theorem ltr_e {f : Nat → Int32} {n s : Nat} {i b : Int} (h : run f n 97 122 i.toNat = run f n 97 122 s) (hb : ((0 ≤ i ∧ i < (n : Int)) ∧ b = (f i.toNat).toInt) ∨ ((n : Int) ≤ i ∧ b = -1)) (h0 : 0 ≤ i) (hne : ¬ (97 ≤ b ∧ b ≤ 122)) : i = ((run f n 97 122 s : Nat) : Int) := by
  have e : run f n 97 122 i.toNat = i.toNat := run_stop (fun q => by omega)
  omega
theorem ltr_s {f : Nat → Int32} {n s : Nat} {i b i2 : Int} (h : run f n 97 122 i.toNat = run f n 97 122 s) (hb : ((0 ≤ i ∧ i < (n : Int)) ∧ b = (f i.toNat).toInt) ∨ ((n : Int) ≤ i ∧ b = -1)) (he : 97 ≤ b ∧ b ≤ 122) (hi : i2 = i + 1) (h0 : 0 ≤ i) : run f n 97 122 i2.toNat = run f n 97 122 s := by
  rw [← h, run_step (f := f) (p := i.toNat) ⟨by omega, by omega, by omega⟩, show i2.toNat = i.toNat + 1 by omega]
/-! words, byte by byte -/
noncomputable def byF (f : Nat → Int32) (n i : Nat) : Int := if i < n then (f i).toInt else -1
theorem byF_in {f : Nat → Int32} {n i : Nat} (h : i < n) : byF f n i = (f i).toInt := by unfold byF; rw [if_pos h]
theorem byF_of {f : Nat → Int32} {n : Nat} {i b : Int} (hb : ((0 ≤ i ∧ i < (n : Int)) ∧ b = (f i.toNat).toInt) ∨ ((n : Int) ≤ i ∧ b = -1)) : b = byF f n i.toNat := by
  unfold byF
  obtain q | q := hb
  · rw [if_pos (by omega)]; exact q.2
  · rw [if_neg (by omega)]; exact q.2
theorem wis3 {f : Nat → Int32} {n s e : Nat} {a b c : Int32} (he : e ≤ n) : wis f s e [a, b, c] ↔ (e = s + 3 ∧ byF f n s = a.toInt ∧ byF f n (s + 1) = b.toInt ∧ byF f n (s + 2) = c.toInt) := by
  constructor
  · intro h
    have h1 : e = s + 3 := h.1
    rw [byF_in (by omega), byF_in (by omega), byF_in (by omega)]
    exact ⟨h1, h.2 0 (by show 0 < 3; omega), h.2 1 (by show 1 < 3; omega), h.2 2 (by show 2 < 3; omega)⟩
  · intro h
    rw [byF_in (by omega), byF_in (by omega), byF_in (by omega)] at h
    refine ⟨h.1, fun j hj => ?_⟩
    have hj2 : j < 3 := hj
    have hj3 : j = 0 ∨ j = 1 ∨ j = 2 := by omega
    obtain q | q | q := hj3
    · subst q; exact h.2.1
    · subst q; exact h.2.2.1
    · subst q; exact h.2.2.2
theorem wis4 {f : Nat → Int32} {n s e : Nat} {a b c d : Int32} (he : e ≤ n) : wis f s e [a, b, c, d] ↔ (e = s + 4 ∧ byF f n s = a.toInt ∧ byF f n (s + 1) = b.toInt ∧ byF f n (s + 2) = c.toInt ∧ byF f n (s + 3) = d.toInt) := by
  constructor
  · intro h
    have h1 : e = s + 4 := h.1
    rw [byF_in (by omega), byF_in (by omega), byF_in (by omega), byF_in (by omega)]
    exact ⟨h1, h.2 0 (by show 0 < 4; omega), h.2 1 (by show 1 < 4; omega), h.2 2 (by show 2 < 4; omega), h.2 3 (by show 3 < 4; omega)⟩
  · intro h
    rw [byF_in (by omega), byF_in (by omega), byF_in (by omega), byF_in (by omega)] at h
    refine ⟨h.1, fun j hj => ?_⟩
    have hj2 : j < 4 := hj
    have hj3 : j = 0 ∨ j = 1 ∨ j = 2 ∨ j = 3 := by omega
    obtain q | q | q | q := hj3
    · subst q; exact h.2.1
    · subst q; exact h.2.2.1
    · subst q; exact h.2.2.2.1
    · subst q; exact h.2.2.2.2
theorem wis5 {f : Nat → Int32} {n s e : Nat} {a b c d k : Int32} (he : e ≤ n) : wis f s e [a, b, c, d, k] ↔ (e = s + 5 ∧ byF f n s = a.toInt ∧ byF f n (s + 1) = b.toInt ∧ byF f n (s + 2) = c.toInt ∧ byF f n (s + 3) = d.toInt ∧ byF f n (s + 4) = k.toInt) := by
  constructor
  · intro h
    have h1 : e = s + 5 := h.1
    rw [byF_in (by omega), byF_in (by omega), byF_in (by omega), byF_in (by omega), byF_in (by omega)]
    exact ⟨h1, h.2 0 (by show 0 < 5; omega), h.2 1 (by show 1 < 5; omega), h.2 2 (by show 2 < 5; omega), h.2 3 (by show 3 < 5; omega), h.2 4 (by show 4 < 5; omega)⟩
  · intro h
    rw [byF_in (by omega), byF_in (by omega), byF_in (by omega), byF_in (by omega), byF_in (by omega)] at h
    refine ⟨h.1, fun j hj => ?_⟩
    have hj2 : j < 5 := hj
    have hj3 : j = 0 ∨ j = 1 ∨ j = 2 ∨ j = 3 ∨ j = 4 := by omega
    obtain q | q | q | q | q := hj3
    · subst q; exact h.2.1
    · subst q; exact h.2.2.1
    · subst q; exact h.2.2.2.1
    · subst q; exact h.2.2.2.2.1
    · subst q; exact h.2.2.2.2.2
theorem wis7 {f : Nat → Int32} {n s e : Nat} {a b c d k l m : Int32} (he : e ≤ n) : wis f s e [a, b, c, d, k, l, m] ↔ (e = s + 7 ∧ byF f n s = a.toInt ∧ byF f n (s + 1) = b.toInt ∧ byF f n (s + 2) = c.toInt ∧ byF f n (s + 3) = d.toInt ∧ byF f n (s + 4) = k.toInt ∧ byF f n (s + 5) = l.toInt ∧ byF f n (s + 6) = m.toInt) := by
  constructor
  · intro h
    have h1 : e = s + 7 := h.1
    rw [byF_in (by omega), byF_in (by omega), byF_in (by omega), byF_in (by omega), byF_in (by omega), byF_in (by omega), byF_in (by omega)]
    exact ⟨h1, h.2 0 (by show 0 < 7; omega), h.2 1 (by show 1 < 7; omega), h.2 2 (by show 2 < 7; omega), h.2 3 (by show 3 < 7; omega), h.2 4 (by show 4 < 7; omega), h.2 5 (by show 5 < 7; omega), h.2 6 (by show 6 < 7; omega)⟩
  · intro h
    rw [byF_in (by omega), byF_in (by omega), byF_in (by omega), byF_in (by omega), byF_in (by omega), byF_in (by omega), byF_in (by omega)] at h
    refine ⟨h.1, fun j hj => ?_⟩
    have hj2 : j < 7 := hj
    have hj3 : j = 0 ∨ j = 1 ∨ j = 2 ∨ j = 3 ∨ j = 4 ∨ j = 5 ∨ j = 6 := by omega
    obtain q | q | q | q | q | q | q := hj3
    · subst q; exact h.2.1
    · subst q; exact h.2.2.1
    · subst q; exact h.2.2.2.1
    · subst q; exact h.2.2.2.2.1
    · subst q; exact h.2.2.2.2.2.1
    · subst q; exact h.2.2.2.2.2.2.1
    · subst q; exact h.2.2.2.2.2.2.2
/-- what is(), ends() and lineNow() say -/
noncomputable def isF (f : Nat → Int32) (n s e : Nat) (k a b c : Int) : Prop := (e : Int) = (s : Int) + k ∧ byF f n s = a ∧ byF f n (s + 1) = b ∧ byF f n (s + 2) = c
noncomputable def enF (f : Nat → Int32) (n s : Nat) (a b c d : Int) : Prop := byF f n (s + 3) = a ∧ (b = 0 ∨ byF f n (s + 4) = b) ∧ (c = 0 ∨ byF f n (s + 5) = c) ∧ (d = 0 ∨ byF f n (s + 6) = d)
theorem w_0 {f : Nat → Int32} {n s e : Nat} (he : e ≤ n) : wis f s e (qm_sbyt.getD 0 []) ↔ (isF f n s e 5 112 108 97 ∧ enF f n s 105 110 0 0) := by
  refine Iff.trans (wis5 (a := 112) (b := 108) (c := 97) (d := 105) (k := 110) he) ?_
  constructor
  · intro h; exact ⟨⟨by omega, h.2.1, h.2.2.1, h.2.2.2.1⟩, h.2.2.2.2.1, Or.inr h.2.2.2.2.2, Or.inl rfl, Or.inl rfl⟩
  · intro h; exact ⟨by have := h.1.1; omega, h.1.2.1, h.1.2.2.1, h.1.2.2.2, h.2.1, h.2.2.1.resolve_left (by decide)⟩
theorem w_1 {f : Nat → Int32} {n s e : Nat} (he : e ≤ n) : wis f s e (qm_sbyt.getD 1 []) ↔ (isF f n s e 4 108 101 102 ∧ enF f n s 116 0 0 0) := by
  refine Iff.trans (wis4 (a := 108) (b := 101) (c := 102) (d := 116) he) ?_
  constructor
  · intro h; exact ⟨⟨by omega, h.2.1, h.2.2.1, h.2.2.2.1⟩, h.2.2.2.2, Or.inl rfl, Or.inl rfl, Or.inl rfl⟩
  · intro h; exact ⟨by have := h.1.1; omega, h.1.2.1, h.1.2.2.1, h.1.2.2.2, h.2.1⟩
theorem w_2 {f : Nat → Int32} {n s e : Nat} (he : e ≤ n) : wis f s e (qm_sbyt.getD 2 []) ↔ isF f n s e 3 111 108 100 := by
  refine Iff.trans (wis3 (a := 111) (b := 108) (c := 100) he) ?_
  constructor
  · intro h; exact ⟨by omega, h.2.1, h.2.2.1, h.2.2.2⟩
  · intro h; exact ⟨by have := h.1; omega, h.2.1, h.2.2.1, h.2.2.2⟩
theorem w_3 {f : Nat → Int32} {n s e : Nat} (he : e ≤ n) : wis f s e (qm_sbyt.getD 3 []) ↔ (isF f n s e 7 102 111 117 ∧ enF f n s 110 100 101 114) := by
  refine Iff.trans (wis7 (a := 102) (b := 111) (c := 117) (d := 110) (k := 100) (l := 101) (m := 114) he) ?_
  constructor
  · intro h; exact ⟨⟨by omega, h.2.1, h.2.2.1, h.2.2.2.1⟩, h.2.2.2.2.1, Or.inr h.2.2.2.2.2.1, Or.inr h.2.2.2.2.2.2.1, Or.inr h.2.2.2.2.2.2.2⟩
  · intro h; exact ⟨by have := h.1.1; omega, h.1.2.1, h.1.2.2.1, h.1.2.2.2, h.2.1, h.2.2.1.resolve_left (by decide), h.2.2.2.1.resolve_left (by decide), h.2.2.2.2.resolve_left (by decide)⟩
theorem w_4 {f : Nat → Int32} {n s e : Nat} (he : e ≤ n) : wis f s e (qm_sbyt.getD 4 []) ↔ isF f n s e 3 100 97 121 := by
  refine Iff.trans (wis3 (a := 100) (b := 97) (c := 121) he) ?_
  constructor
  · intro h; exact ⟨by omega, h.2.1, h.2.2.1, h.2.2.2⟩
  · intro h; exact ⟨by have := h.1; omega, h.2.1, h.2.2.1, h.2.2.2⟩
theorem w_5 {f : Nat → Int32} {n s e : Nat} (he : e ≤ n) : wis f s e (qm_sbyt.getD 5 []) ↔ isF f n s e 3 116 105 101 := by
  refine Iff.trans (wis3 (a := 116) (b := 105) (c := 101) he) ?_
  constructor
  · intro h; exact ⟨by omega, h.2.1, h.2.2.1, h.2.2.2⟩
  · intro h; exact ⟨by have := h.1; omega, h.2.1, h.2.2.1, h.2.2.2⟩
noncomputable def mx (a c : Int) : Int := if a < c then c else a
theorem mx_of {a b c : Int} (h : (a < c ∧ b = c) ∨ (¬ a < c ∧ b = a)) : b = mx a c := by
  unfold mx
  obtain q | q := h
  · rw [if_pos q.1]; exact q.2
  · rw [if_neg q.1]; exact q.2
