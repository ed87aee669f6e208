/-! ===== the text by lines ===== -/
noncomputable abbrev tR : Type := Int × Nat × Nat × tS
noncomputable def txS : tS := (0, 0, 0, 0, (fun _ => 0), (fun _ => 0), (fun _ => 0), (fun _ => 0))
/-- the text from p on, l lines and S told so far: its fault, the fault's place, how many lines, what is told -/
noncomputable def txF (f : Nat → Int32) (n : Nat) : Nat → Nat → Nat → tS → tR
  | 0, _, l, S => (0, 0, l, S)
  | k + 1, p, l, S =>
    if ¬ tkO f n (tkS f n p) then (1, tkS f n p, l, S)
    else if tkK f n (tkS f n p) = 0 then (0, 0, l, S)
    else if (lineF f n (tkS f n p) (tkE f n (tkS f n p)) (tkK f n (tkS f n p)) S.1 S.2.1 S.2.2.1).1 = 0 then
      txF f n k (lineF f n (tkS f n p) (tkE f n (tkS f n p)) (tkK f n (tkS f n p)) S.1 S.2.1 S.2.2.1).2.2.1 (l + 1) (stF S (lineF f n (tkS f n p) (tkE f n (tkS f n p)) (tkK f n (tkS f n p)) S.1 S.2.1 S.2.2.1).2.2.2.1 (lineF f n (tkS f n p) (tkE f n (tkS f n p)) (tkK f n (tkS f n p)) S.1 S.2.1 S.2.2.1).2.2.2.2.1 (lineF f n (tkS f n p) (tkE f n (tkS f n p)) (tkK f n (tkS f n p)) S.1 S.2.1 S.2.2.1).2.2.2.2.2.1 (lineF f n (tkS f n p) (tkE f n (tkS f n p)) (tkK f n (tkS f n p)) S.1 S.2.1 S.2.2.1).2.2.2.2.2.2)
    else ((lineF f n (tkS f n p) (tkE f n (tkS f n p)) (tkK f n (tkS f n p)) S.1 S.2.1 S.2.2.1).1, (lineF f n (tkS f n p) (tkE f n (tkS f n p)) (tkK f n (tkS f n p)) S.1 S.2.1 S.2.2.1).2.1, l, S)
theorem txF_eq {f : Nat → Int32} {n k p l : Nat} {S : tS} : txF f n (k + 1) p l S = if ¬ tkO f n (tkS f n p) then (1, tkS f n p, l, S)
    else if tkK f n (tkS f n p) = 0 then (0, 0, l, S)
    else if (lineF f n (tkS f n p) (tkE f n (tkS f n p)) (tkK f n (tkS f n p)) S.1 S.2.1 S.2.2.1).1 = 0 then
      txF f n k (lineF f n (tkS f n p) (tkE f n (tkS f n p)) (tkK f n (tkS f n p)) S.1 S.2.1 S.2.2.1).2.2.1 (l + 1) (stF S (lineF f n (tkS f n p) (tkE f n (tkS f n p)) (tkK f n (tkS f n p)) S.1 S.2.1 S.2.2.1).2.2.2.1 (lineF f n (tkS f n p) (tkE f n (tkS f n p)) (tkK f n (tkS f n p)) S.1 S.2.1 S.2.2.1).2.2.2.2.1 (lineF f n (tkS f n p) (tkE f n (tkS f n p)) (tkK f n (tkS f n p)) S.1 S.2.1 S.2.2.1).2.2.2.2.2.1 (lineF f n (tkS f n p) (tkE f n (tkS f n p)) (tkK f n (tkS f n p)) S.1 S.2.1 S.2.2.1).2.2.2.2.2.2)
    else ((lineF f n (tkS f n p) (tkE f n (tkS f n p)) (tkK f n (tkS f n p)) S.1 S.2.1 S.2.2.1).1, (lineF f n (tkS f n p) (tkE f n (tkS f n p)) (tkK f n (tkS f n p)) S.1 S.2.1 S.2.2.1).2.1, l, S) := rfl
/-- no token there -/
theorem txF_no {f : Nat → Int32} {n k p l : Nat} {S : tS} (h : ¬ tkO f n (tkS f n p)) : txF f n (k + 1) p l S = (1, tkS f n p, l, S) := by rw [txF_eq, if_pos h]
/-- the end -/
theorem txF_end {f : Nat → Int32} {n k p l : Nat} {S : tS} (h : tkO f n (tkS f n p)) (h2 : tkK f n (tkS f n p) = 0) : txF f n (k + 1) p l S = (0, 0, l, S) := by rw [txF_eq, if_neg (fun q => q h), if_pos h2]
/-- a bad line -/
theorem txF_bad {f : Nat → Int32} {n k p l : Nat} {S : tS} {c : Int} {s : Nat} (h : tkO f n (tkS f n p)) (h2 : ¬ tkK f n (tkS f n p) = 0) (h3 : lineF f n (tkS f n p) (tkE f n (tkS f n p)) (tkK f n (tkS f n p)) S.1 S.2.1 S.2.2.1 = lnB c s) (hc : ¬ c = 0) : txF f n (k + 1) p l S = (c, s, l, S) := by
  rw [txF_eq, if_neg (fun q => q h), if_neg h2, h3]
  exact if_neg hc
/-- a line -/
theorem txF_line {f : Nat → Int32} {n k p l e : Nat} {S : tS} {w v1 v2 v3 : Int} (h : tkO f n (tkS f n p)) (h2 : ¬ tkK f n (tkS f n p) = 0) (h3 : lineF f n (tkS f n p) (tkE f n (tkS f n p)) (tkK f n (tkS f n p)) S.1 S.2.1 S.2.2.1 = (0, 0, e, w, v1, v2, v3)) : txF f n (k + 1) p l S = txF f n k e (l + 1) (stF S w v1 v2 v3) := by
  rw [txF_eq, if_neg (fun q => q h), if_neg h2, h3]
  exact if_pos rfl
/-! what a line tells is in its bounds -/
noncomputable def lnW (L : lnT) (nc nt : Int) : Prop := L.1 = 0 → L.2.1 = 0 ∧ ((L.2.2.2.1 = 4 ∧ 0 ≤ L.2.2.2.2.1 ∧ L.2.2.2.2.1 ≤ 9) ∨ (L.2.2.2.1 = 5 ∧ nt < 10 ∧ (0 ≤ L.2.2.2.2.1 ∧ L.2.2.2.2.1 / 10 ≤ 3 ∧ L.2.2.2.2.1 % 10 ≤ 4) ∧ (0 ≤ L.2.2.2.2.2.1 ∧ L.2.2.2.2.2.1 / 10 ≤ 3 ∧ L.2.2.2.2.2.1 % 10 ≤ 3 ∧ ¬ L.2.2.2.2.2.1 / 10 = L.2.2.2.2.2.1 % 10) ∧ (10 ≤ L.2.2.2.2.2.2 ∧ L.2.2.2.2.2.2 ≤ 99)) ∨ (nc < 4 ∧ 0 ≤ L.2.2.2.1 ∧ L.2.2.2.1 ≤ 3))
theorem lnW_B {c : Int} {s : Nat} {nc nt : Int} (hc : ¬ c = 0) : lnW (lnB c s) nc nt := fun q => absurd q hc
theorem nm_rng {f : Nat → Int32} {n s : Nat} (ho : tkO f n s) (hk : tkK f n s = 2) : 0 ≤ nm f s (tkE f n s) ∧ nm f s (tkE f n s) ≤ 99 := by
  have ht := tk_two ho hk
  unfold nm
  obtain q | q := ht.1
  · rw [if_pos q]; omega
  · rw [if_neg (by omega)]
    have := ht.2.2 q
    omega
theorem numF_W {f : Nat → Int32} {n p : Nat} {k : Nat → Nat → Int → lnT} {nc nt : Int} (h : ∀ (s e : Nat) (v : Int), 0 ≤ v → v ≤ 99 → lnW (k s e v) nc nt) : lnW (numF f n p k) nc nt := by
  unfold numF
  by_cases q : ¬ tkO f n (tkS f n p)
  · rw [if_pos q]; exact lnW_B (by decide)
  · rw [if_neg q]
    by_cases q2 : ¬ tkK f n (tkS f n p) = 2
    · rw [if_pos q2]; exact lnW_B (by decide)
    · rw [if_neg q2]
      have hr := nm_rng (Decidable.not_not.mp q) (Decidable.not_not.mp q2)
      exact h _ _ _ hr.1 hr.2
theorem stopF_W {f : Nat → Int32} {n p : Nat} {k : Nat → lnT} {nc nt : Int} (h : ∀ e : Nat, lnW (k e) nc nt) : lnW (stopF f n p k) nc nt := by
  unfold stopF
  by_cases q : ¬ tkO f n (tkS f n p)
  · rw [if_pos q]; exact lnW_B (by decide)
  · rw [if_neg q]
    by_cases q2 : ¬ tkK f n (tkS f n p) = 3
    · rw [if_pos q2]; exact lnW_B (by decide)
    · rw [if_neg q2]; exact h _
theorem wd_rng {f : Nat → Int32} {s e : Nat} : wd f s e = -4 ∨ (0 ≤ wd f s e ∧ wd f s e ≤ 5) := by
  unfold wd
  split
  · exact Or.inr ⟨by decide, by decide⟩
  · split
    · exact Or.inr ⟨by decide, by decide⟩
    · split
      · exact Or.inr ⟨by decide, by decide⟩
      · split
        · exact Or.inr ⟨by decide, by decide⟩
        · split
          · exact Or.inr ⟨by decide, by decide⟩
          · split
            · exact Or.inr ⟨by decide, by decide⟩
            · exact Or.inl rfl
theorem dayF_W {f : Nat → Int32} {n s0 e0 : Nat} {dt nc nt : Int} : lnW (dayF f n s0 e0 dt) nc nt := by
  unfold dayF
  by_cases q : ¬ dt = 0
  · rw [if_pos q]; exact lnW_B (by decide)
  · rw [if_neg q]
    refine numF_W (fun s e v h0 h1 => ?_)
    by_cases q2 : 9 < v
    · rw [if_pos q2]; exact lnW_B (by decide)
    · rw [if_neg q2]
      exact stopF_W (fun e2 => fun _ => ⟨rfl, Or.inl ⟨rfl, h0, by show v ≤ 9; omega⟩⟩)
theorem tieF_W {f : Nat → Int32} {n s0 e0 : Nat} {nc nt : Int} : lnW (tieF f n s0 e0 nt) nc nt := by
  unfold tieF
  by_cases q : 10 ≤ nt
  · rw [if_pos q]; exact lnW_B (by decide)
  · rw [if_neg q]
    refine numF_W (fun s e v h0 h1 => ?_)
    by_cases q1 : ¬ plc v
    · rw [if_pos q1]; exact lnW_B (by decide)
    · rw [if_neg q1]
      refine numF_W (fun s2 e2 v2 h2 h3 => ?_)
      by_cases q2 : ¬ prc v2
      · rw [if_pos q2]; exact lnW_B (by decide)
      · rw [if_neg q2]
        refine numF_W (fun s3 e3 v3 h4 h5 => ?_)
        by_cases q3 : v3 < 10
        · rw [if_pos q3]; exact lnW_B (by decide)
        · rw [if_neg q3]
          have p1 : v / 10 ≤ 3 ∧ v % 10 ≤ 4 := Decidable.not_not.mp q1
          have p2 : v2 / 10 ≤ 3 ∧ v2 % 10 ≤ 3 ∧ ¬ v2 / 10 = v2 % 10 := Decidable.not_not.mp q2
          exact stopF_W (fun e4 => fun _ => ⟨rfl, Or.inr (Or.inl ⟨rfl, by omega, ⟨h0, p1⟩, ⟨h2, p2⟩, by show 10 ≤ v3; omega, h5⟩)⟩)
theorem lineF_W {f : Nat → Int32} {n s0 e0 : Nat} {k0 nc nt dt : Int} : lnW (lineF f n s0 e0 k0 nc nt dt) nc nt := by
  unfold lineF
  by_cases q : ¬ k0 = 1 ∨ wd f s0 e0 = -4
  · rw [if_pos q]; exact lnW_B (by decide)
  · rw [if_neg q]
    by_cases q1 : wd f s0 e0 = 4
    · rw [if_pos q1]; exact dayF_W
    · rw [if_neg q1]
      by_cases q2 : wd f s0 e0 = 5
      · rw [if_pos q2]; exact tieF_W
      · rw [if_neg q2]
        have hw := wd_rng (f := f) (s := s0) (e := e0)
        unfold clkF
        by_cases q3 : 4 ≤ nc
        · rw [if_pos q3]; exact lnW_B (by decide)
        · rw [if_neg q3]
          exact stopF_W (fun e1 => fun _ => ⟨rfl, Or.inr (Or.inr ⟨by omega, by show 0 ≤ wd f s0 e0; omega, by show wd f s0 e0 ≤ 3; omega⟩)⟩)
/-- what is told is in its bounds -/
noncomputable def wfS (S : tS) : Prop := (S.1 ≤ 4 ∧ S.2.1 ≤ 10 ∧ (S.2.2.1 = 0 ∨ S.2.2.1 = 1) ∧ 0 ≤ S.2.2.2.1 ∧ S.2.2.2.1 ≤ 9) ∧ (∀ j : Nat, j < S.1 → 0 ≤ S.2.2.2.2.1 j ∧ S.2.2.2.2.1 j ≤ 3) ∧ ∀ j : Nat, j < S.2.1 → (0 ≤ S.2.2.2.2.2.1 j ∧ S.2.2.2.2.2.1 j / 10 ≤ 3 ∧ S.2.2.2.2.2.1 j % 10 ≤ 4) ∧ (0 ≤ S.2.2.2.2.2.2.1 j ∧ S.2.2.2.2.2.2.1 j / 10 ≤ 3 ∧ S.2.2.2.2.2.2.1 j % 10 ≤ 3 ∧ ¬ S.2.2.2.2.2.2.1 j / 10 = S.2.2.2.2.2.2.1 j % 10) ∧ (10 ≤ S.2.2.2.2.2.2.2 j ∧ S.2.2.2.2.2.2.2 j ≤ 99)
theorem wfS_0 : wfS txS := ⟨⟨by decide, by decide, Or.inl rfl, by decide, by decide⟩, fun j hj => absurd hj (Nat.not_lt_zero _), fun j hj => absurd hj (Nat.not_lt_zero _)⟩
theorem wfS_st {S : tS} {L : lnT} (h : wfS S) (hl : lnW L S.1 S.2.1) (h0 : L.1 = 0) : wfS (stF S L.2.2.2.1 L.2.2.2.2.1 L.2.2.2.2.2.1 L.2.2.2.2.2.2) := by
  obtain ⟨⟨a1, a2, a3, a4, a5⟩, b1, b2⟩ := h
  obtain ⟨_, q | q | q⟩ := hl h0
  · unfold stF
    rw [if_pos q.1]
    exact ⟨⟨a1, a2, Or.inr rfl, q.2⟩, b1, b2⟩
  · unfold stF
    rw [if_neg (by omega), if_pos q.1]
    refine ⟨⟨a1, ?_, a3, a4, a5⟩, b1, fun j hj => ?_⟩
    · show S.2.1 + 1 ≤ 10
      omega
    · have hj2 : j < S.2.1 + 1 := hj
      by_cases e : j = S.2.1
      · show (0 ≤ (if j = S.2.1 then _ else _) ∧ (if j = S.2.1 then _ else _) / 10 ≤ 3 ∧ (if j = S.2.1 then _ else _) % 10 ≤ 4) ∧ (0 ≤ (if j = S.2.1 then _ else _) ∧ (if j = S.2.1 then _ else _) / 10 ≤ 3 ∧ (if j = S.2.1 then _ else _) % 10 ≤ 3 ∧ ¬ (if j = S.2.1 then _ else _) / 10 = (if j = S.2.1 then _ else _) % 10) ∧ (10 ≤ (if j = S.2.1 then _ else _) ∧ (if j = S.2.1 then _ else _) ≤ 99)
        rw [if_pos e, if_pos e, if_pos e]
        exact ⟨q.2.2.1, q.2.2.2.1, q.2.2.2.2⟩
      · show (0 ≤ (if j = S.2.1 then _ else _) ∧ (if j = S.2.1 then _ else _) / 10 ≤ 3 ∧ (if j = S.2.1 then _ else _) % 10 ≤ 4) ∧ (0 ≤ (if j = S.2.1 then _ else _) ∧ (if j = S.2.1 then _ else _) / 10 ≤ 3 ∧ (if j = S.2.1 then _ else _) % 10 ≤ 3 ∧ ¬ (if j = S.2.1 then _ else _) / 10 = (if j = S.2.1 then _ else _) % 10) ∧ (10 ≤ (if j = S.2.1 then _ else _) ∧ (if j = S.2.1 then _ else _) ≤ 99)
        rw [if_neg e, if_neg e, if_neg e]
        exact b2 j (by omega)
  · unfold stF
    rw [if_neg (by omega), if_neg (by omega)]
    refine ⟨⟨?_, a2, a3, a4, a5⟩, fun j hj => ?_, b2⟩
    · show S.1 + 1 ≤ 4
      omega
    · have hj2 : j < S.1 + 1 := hj
      by_cases e : j = S.1
      · show 0 ≤ (if j = S.1 then _ else _) ∧ (if j = S.1 then _ else _) ≤ (3 : Int)
        rw [if_pos e]
        exact q.2
      · show 0 ≤ (if j = S.1 then _ else _) ∧ (if j = S.1 then _ else _) ≤ (3 : Int)
        rw [if_neg e]
        exact b1 j (by omega)
theorem wfS_tx {f : Nat → Int32} {n : Nat} : ∀ (k p l : Nat) (S : tS), wfS S → wfS (txF f n k p l S).2.2.2
  | 0, p, l, S, h => h
  | k + 1, p, l, S, h => by
    rw [txF_eq]
    by_cases q : ¬ tkO f n (tkS f n p)
    · rw [if_pos q]; exact h
    · rw [if_neg q]
      by_cases q2 : tkK f n (tkS f n p) = 0
      · rw [if_pos q2]; exact h
      · rw [if_neg q2]
        by_cases q3 : (lineF f n (tkS f n p) (tkE f n (tkS f n p)) (tkK f n (tkS f n p)) S.1 S.2.1 S.2.2.1).1 = 0
        · rw [if_pos q3]
          exact wfS_tx k _ _ _ (wfS_st h lineF_W q3)
        · rw [if_neg q3]; exact h
