/-! ===== the tape: runs of bytes, tokens, as both sides read them ===== -/
noncomputable def rk (f : Nat → Int32) (n : Nat) (lo hi : Int) : Nat → Nat → Nat
  | 0, p => p
  | k + 1, p => if p < n ∧ lo ≤ (f p).toInt ∧ (f p).toInt ≤ hi then rk f n lo hi k (p + 1) else p
/-- the first place from p on at which no byte from lo to hi stands -/
noncomputable def run (f : Nat → Int32) (n : Nat) (lo hi : Int) (p : Nat) : Nat := rk f n lo hi (n - p) p
theorem run_step {f : Nat → Int32} {n : Nat} {lo hi : Int} {p : Nat} (h : p < n ∧ lo ≤ (f p).toInt ∧ (f p).toInt ≤ hi) : run f n lo hi p = run f n lo hi (p + 1) := by
  unfold run
  rw [show n - p = (n - (p + 1)) + 1 by omega]
  show (if p < n ∧ lo ≤ (f p).toInt ∧ (f p).toInt ≤ hi then rk f n lo hi (n - (p + 1)) (p + 1) else p) = _
  rw [if_pos h]
theorem run_stop {f : Nat → Int32} {n : Nat} {lo hi : Int} {p : Nat} (h : ¬ (p < n ∧ lo ≤ (f p).toInt ∧ (f p).toInt ≤ hi)) : run f n lo hi p = p := by
  unfold run
  cases n - p with
  | zero => rfl
  | succ k =>
    show (if p < n ∧ lo ≤ (f p).toInt ∧ (f p).toInt ≤ hi then rk f n lo hi k (p + 1) else p) = _
    rw [if_neg h]
theorem rk_ge {f : Nat → Int32} {n : Nat} {lo hi : Int} : ∀ (k p : Nat), p ≤ rk f n lo hi k p
  | 0, p => Nat.le_refl _
  | k + 1, p => by
    show p ≤ (if p < n ∧ lo ≤ (f p).toInt ∧ (f p).toInt ≤ hi then rk f n lo hi k (p + 1) else p)
    split
    · have := rk_ge (f := f) (n := n) (lo := lo) (hi := hi) k (p + 1)
      omega
    · exact Nat.le_refl _
theorem run_ge {f : Nat → Int32} {n : Nat} {lo hi : Int} {p : Nat} : p ≤ run f n lo hi p := rk_ge _ _
theorem rk_le {f : Nat → Int32} {n : Nat} {lo hi : Int} : ∀ (k p : Nat), p ≤ n → rk f n lo hi k p ≤ n
  | 0, p, h => h
  | k + 1, p, h => by
    show (if p < n ∧ lo ≤ (f p).toInt ∧ (f p).toInt ≤ hi then rk f n lo hi k (p + 1) else p) ≤ n
    split
    · rename_i hc
      exact rk_le k (p + 1) hc.1
    · exact h
theorem run_le {f : Nat → Int32} {n : Nat} {lo hi : Int} {p : Nat} (h : p ≤ n) : run f n lo hi p ≤ n := rk_le _ _ h
theorem run_pos {f : Nat → Int32} {n : Nat} {lo hi : Int} {p : Nat} (h : p < n ∧ lo ≤ (f p).toInt ∧ (f p).toInt ≤ hi) : p < run f n lo hi p := by
  rw [run_step h]
  exact run_ge
/-- a token from p on: where it starts, which it is (0 the end, 1 a name, 2 a number, 3 a stop), where it ends, whether it is one -/
noncomputable def tkS (f : Nat → Int32) (n p : Nat) : Nat := run f n 32 32 p
noncomputable def tkK (f : Nat → Int32) (n s : Nat) : Int := if n ≤ s then 0 else if (f s).toInt = 59 then 3 else if 97 ≤ (f s).toInt ∧ (f s).toInt ≤ 122 then 1 else 2
noncomputable def tkE (f : Nat → Int32) (n s : Nat) : Nat := if n ≤ s then s else if (f s).toInt = 59 then s + 1 else if 97 ≤ (f s).toInt ∧ (f s).toInt ≤ 122 then run f n 97 122 s else run f n 48 57 s
noncomputable abbrev tkO (f : Nat → Int32) (n s : Nat) : Prop := tkK f n s = 2 → s < tkE f n s ∧ tkE f n s ≤ s + 2
/-- the number told from s to e, of one or two figures -/
noncomputable def nm (f : Nat → Int32) (s e : Nat) : Int := if e = s + 1 then (f s).toInt - 48 else 10 * ((f s).toInt - 48) + ((f (s + 1)).toInt - 48)
/-- the bytes from s to e are these -/
noncomputable abbrev wis (f : Nat → Int32) (s e : Nat) (l : List Int32) : Prop := e = s + l.length ∧ ∀ j : Nat, j < l.length → (f (s + j)).toInt = (l.getD j 0).toInt
/-- the word told from s to e: 0 plain, 1 left, 2 old, 3 founder, 4 day, 5 tie, -4 none -/
noncomputable def wd (f : Nat → Int32) (s e : Nat) : Int := if wis f s e (qm_sbyt.getD 0 []) then 0 else if wis f s e (qm_sbyt.getD 1 []) then 1 else if wis f s e (qm_sbyt.getD 2 []) then 2 else if wis f s e (qm_sbyt.getD 3 []) then 3 else if wis f s e (qm_sbyt.getD 4 []) then 4 else if wis f s e (qm_sbyt.getD 5 []) then 5 else -4
theorem tk_end {f : Nat → Int32} {n s : Nat} (h : n ≤ s) : tkK f n s = 0 ∧ tkE f n s = s ∧ tkO f n s := by
  have e1 : tkK f n s = 0 := by unfold tkK; rw [if_pos h]
  have e2 : tkE f n s = s := by unfold tkE; rw [if_pos h]
  exact ⟨e1, e2, fun q => absurd (e1.symm.trans q) (by decide)⟩
theorem tk_stop {f : Nat → Int32} {n s : Nat} (h : s < n) (h1 : (f s).toInt = 59) : tkK f n s = 3 ∧ tkE f n s = s + 1 ∧ tkO f n s := by
  have e1 : tkK f n s = 3 := by unfold tkK; rw [if_neg (by omega), if_pos h1]
  have e2 : tkE f n s = s + 1 := by unfold tkE; rw [if_neg (by omega), if_pos h1]
  exact ⟨e1, e2, fun q => absurd (e1.symm.trans q) (by decide)⟩
theorem tk_name {f : Nat → Int32} {n s : Nat} (h : s < n) (h2 : 97 ≤ (f s).toInt ∧ (f s).toInt ≤ 122) : tkK f n s = 1 ∧ tkE f n s = run f n 97 122 s ∧ tkO f n s := by
  have e1 : tkK f n s = 1 := by unfold tkK; rw [if_neg (by omega), if_neg (by omega), if_pos h2]
  have e2 : tkE f n s = run f n 97 122 s := by unfold tkE; rw [if_neg (by omega), if_neg (by omega), if_pos h2]
  exact ⟨e1, e2, fun q => absurd (e1.symm.trans q) (by decide)⟩
theorem tk_num {f : Nat → Int32} {n s : Nat} (h : s < n) (h1 : ¬ (f s).toInt = 59) (h2 : ¬ (97 ≤ (f s).toInt ∧ (f s).toInt ≤ 122)) : tkK f n s = 2 ∧ tkE f n s = run f n 48 57 s ∧ (tkO f n s ↔ (s < run f n 48 57 s ∧ run f n 48 57 s ≤ s + 2)) := by
  have e1 : tkK f n s = 2 := by unfold tkK; rw [if_neg (by omega), if_neg h1, if_neg h2]
  have e2 : tkE f n s = run f n 48 57 s := by unfold tkE; rw [if_neg (by omega), if_neg h1, if_neg h2]
  refine ⟨e1, e2, fun q => ?_, fun q _ => ?_⟩
  · have := q e1; rw [e2] at this; exact this
  · rw [e2]; exact q
/-- a run that goes on has such a byte at its start -/
theorem run_in {f : Nat → Int32} {n : Nat} {lo hi : Int} {p : Nat} (h : p < run f n lo hi p) : p < n ∧ lo ≤ (f p).toInt ∧ (f p).toInt ≤ hi := by
  by_cases hc : p < n ∧ lo ≤ (f p).toInt ∧ (f p).toInt ≤ hi
  · exact hc
  · rw [run_stop hc] at h
    exact absurd h (Nat.lt_irrefl _)
/-- what reading a token from p on answers (1: it is one) and notes: start, kind, end; its fault -/
noncomputable def tkR (f : Nat → Int32) (n p : Nat) (r st k e fk fp fk0 fp0 : Int) : Prop := st = ((tkS f n p : Nat) : Int) ∧ ((r = 1 ∧ tkO f n (tkS f n p) ∧ k = tkK f n (tkS f n p) ∧ e = ((tkE f n (tkS f n p) : Nat) : Int) ∧ fk = fk0 ∧ fp = fp0) ∨ (r = 0 ∧ ¬ tkO f n (tkS f n p) ∧ fk = 1 ∧ fp = ((tkS f n p : Nat) : Int)))
theorem tkR_end {f : Nat → Int32} {n p : Nat} {r st k e fk fp fk0 fp0 : Int} (hs : st = ((tkS f n p : Nat) : Int)) (h : (n : Int) ≤ st) (hr : r = 1) (hk : k = 0) (he : e = st) (h4 : fk = fk0) (h5 : fp = fp0) : tkR f n p r st k e fk fp fk0 fp0 := by
  obtain ⟨e1, e2, e3⟩ := tk_end (f := f) (n := n) (s := tkS f n p) (by omega)
  exact ⟨hs, Or.inl ⟨hr, e3, by rw [e1]; exact hk, by rw [e2]; omega, h4, h5⟩⟩
theorem tkR_stop {f : Nat → Int32} {n p : Nat} {r st k e fk fp fk0 fp0 : Int} (hs : st = ((tkS f n p : Nat) : Int)) (h : st < (n : Int)) (hb : (f st.toNat).toInt = 59) (hr : r = 1) (hk : k = 3) (he : e = st + 1) (h4 : fk = fk0) (h5 : fp = fp0) : tkR f n p r st k e fk fp fk0 fp0 := by
  have es : st.toNat = tkS f n p := by omega
  rw [es] at hb
  obtain ⟨e1, e2, e3⟩ := tk_stop (f := f) (n := n) (s := tkS f n p) (by omega) hb
  exact ⟨hs, Or.inl ⟨hr, e3, by rw [e1]; exact hk, by rw [e2]; omega, h4, h5⟩⟩
theorem tkR_name {f : Nat → Int32} {n p : Nat} {r st k e fk fp fk0 fp0 : Int} (hs : st = ((tkS f n p : Nat) : Int)) (he : e = ((run f n 97 122 st.toNat : Nat) : Int)) (hl : st < e) (hr : r = 1) (hk : k = 1) (h4 : fk = fk0) (h5 : fp = fp0) : tkR f n p r st k e fk fp fk0 fp0 := by
  have es : st.toNat = tkS f n p := by omega
  rw [es] at he
  have hi := run_in (f := f) (n := n) (lo := 97) (hi := 122) (p := tkS f n p) (by omega)
  obtain ⟨e1, e2, e3⟩ := tk_name (f := f) (n := n) (s := tkS f n p) hi.1 hi.2
  exact ⟨hs, Or.inl ⟨hr, e3, by rw [e1]; exact hk, by rw [e2]; exact he, h4, h5⟩⟩
theorem no_run {f : Nat → Int32} {n : Nat} {lo hi : Int} {p : Nat} (h : run f n lo hi p ≤ p) (hn : p < n) : ¬ (lo ≤ (f p).toInt ∧ (f p).toInt ≤ hi) := by
  intro q
  have := run_pos (f := f) (n := n) (lo := lo) (hi := hi) (p := p) ⟨hn, q.1, q.2⟩
  omega
theorem tkR_num {f : Nat → Int32} {n p : Nat} {r st k e fk fp fk0 fp0 a : Int} (hs : st = ((tkS f n p : Nat) : Int)) (h : st < (n : Int)) (hb : ¬ (f st.toNat).toInt = 59) (ha : a = ((run f n 97 122 st.toNat : Nat) : Int)) (hal : a ≤ st) (he : e = ((run f n 48 57 st.toNat : Nat) : Int)) (hl : st < e ∧ e ≤ st + 2) (hr : r = 1) (hk : k = 2) (h4 : fk = fk0) (h5 : fp = fp0) : tkR f n p r st k e fk fp fk0 fp0 := by
  have es : st.toNat = tkS f n p := by omega
  rw [es] at hb ha he
  have hno := no_run (f := f) (n := n) (lo := 97) (hi := 122) (p := tkS f n p) (by omega) (by omega)
  obtain ⟨e1, e2, e3⟩ := tk_num (f := f) (n := n) (s := tkS f n p) (by omega) hb hno
  exact ⟨hs, Or.inl ⟨hr, e3.mpr (by omega), by rw [e1]; exact hk, by rw [e2]; exact he, h4, h5⟩⟩
theorem tkR_bad {f : Nat → Int32} {n p : Nat} {r st k e fk fp fk0 fp0 a b : Int} (hs : st = ((tkS f n p : Nat) : Int)) (h : st < (n : Int)) (hb : ¬ (f st.toNat).toInt = 59) (ha : a = ((run f n 97 122 st.toNat : Nat) : Int)) (hal : a ≤ st) (he : b = ((run f n 48 57 st.toNat : Nat) : Int)) (hl : ¬ (st < b ∧ b ≤ st + 2)) (hr : r = 0) (h4 : fk = 1) (h5 : fp = st) : tkR f n p r st k e fk fp fk0 fp0 := by
  have es : st.toNat = tkS f n p := by omega
  rw [es] at hb ha he
  have hno := no_run (f := f) (n := n) (lo := 97) (hi := 122) (p := tkS f n p) (by omega) (by omega)
  obtain ⟨e1, e2, e3⟩ := tk_num (f := f) (n := n) (s := tkS f n p) (by omega) hb hno
  exact ⟨hs, Or.inr ⟨hr, fun q => hl (by have := e3.mp q; omega), h4, by omega⟩⟩
/-- nothing SEEN is told -/
noncomputable def z9 (h : qm_H) : Prop := 0 ≤ (h 25 9).toInt ∧ (h 25 9).toInt ≤ 0
noncomputable def tc (h : qm_H) : Prop := (0 ≤ (h 23 2).toInt ∧ (h 23 2).toInt ≤ 160) ∧ (0 ≤ (h 23 6).toInt ∧ (h 23 6).toInt ≤ (h 23 2).toInt)
/-! a line: (fault, its place, the line's end, its word, its numbers); fault 0: it is a line -/
noncomputable abbrev lnT : Type := Int × Nat × Nat × Int × Int × Int × Int
noncomputable def lnB (c : Int) (s : Nat) : lnT := (c, s, 0, 0, 0, 0, 0)
noncomputable def numF (f : Nat → Int32) (n p : Nat) (k : Nat → Nat → Int → lnT) : lnT := if ¬ tkO f n (tkS f n p) then lnB 1 (tkS f n p) else if ¬ tkK f n (tkS f n p) = 2 then lnB 2 (tkS f n p) else k (tkS f n p) (tkE f n (tkS f n p)) (nm f (tkS f n p) (tkE f n (tkS f n p)))
noncomputable def stopF (f : Nat → Int32) (n p : Nat) (k : Nat → lnT) : lnT := if ¬ tkO f n (tkS f n p) then lnB 1 (tkS f n p) else if ¬ tkK f n (tkS f n p) = 3 then lnB 2 (tkS f n p) else k (tkE f n (tkS f n p))
noncomputable abbrev plc (v : Int) : Prop := v / 10 ≤ 3 ∧ v % 10 ≤ 4
noncomputable abbrev prc (v : Int) : Prop := v / 10 ≤ 3 ∧ v % 10 ≤ 3 ∧ ¬ v / 10 = v % 10
noncomputable def dayF (f : Nat → Int32) (n s0 e0 : Nat) (dt : Int) : lnT := if ¬ dt = 0 then lnB 4 s0 else numF f n e0 (fun s1 e1 v => if 9 < v then lnB 3 s1 else stopF f n e1 (fun e2 => (0, 0, e2, 4, v, 0, 0)))
noncomputable def tieF (f : Nat → Int32) (n s0 e0 : Nat) (nt : Int) : lnT := if 10 ≤ nt then lnB 5 s0 else numF f n e0 (fun s1 e1 v1 => if ¬ plc v1 then lnB 3 s1 else numF f n e1 (fun s2 e2 v2 => if ¬ prc v2 then lnB 3 s2 else numF f n e2 (fun s3 e3 v3 => if v3 < 10 then lnB 3 s3 else stopF f n e3 (fun e4 => (0, 0, e4, 5, v1, v2, v3)))))
noncomputable def clkF (f : Nat → Int32) (n s0 e0 : Nat) (nc w : Int) : lnT := if 4 ≤ nc then lnB 5 s0 else stopF f n e0 (fun e1 => (0, 0, e1, w, 0, 0, 0))
noncomputable def lineF (f : Nat → Int32) (n s0 e0 : Nat) (k0 nc nt dt : Int) : lnT := if ¬ k0 = 1 ∨ wd f s0 e0 = -4 then lnB 2 s0 else if wd f s0 e0 = 4 then dayF f n s0 e0 dt else if wd f s0 e0 = 5 then tieF f n s0 e0 nt else clkF f n s0 e0 nc (wd f s0 e0)
theorem rk_all {f : Nat → Int32} {n : Nat} {lo hi : Int} : ∀ (k p j : Nat), p ≤ j → j < rk f n lo hi k p → lo ≤ (f j).toInt ∧ (f j).toInt ≤ hi
  | 0, p, j, h1, h2 => absurd h2 (by show ¬ j < p; omega)
  | k + 1, p, j, h1, h2 => by
    have e : rk f n lo hi (k + 1) p = if p < n ∧ lo ≤ (f p).toInt ∧ (f p).toInt ≤ hi then rk f n lo hi k (p + 1) else p := rfl
    by_cases hc : p < n ∧ lo ≤ (f p).toInt ∧ (f p).toInt ≤ hi
    · rw [if_pos hc] at e
      rw [e] at h2
      by_cases hj : j = p
      · rw [hj]; exact hc.2
      · exact rk_all k (p + 1) j (by omega) h2
    · rw [if_neg hc] at e
      rw [e] at h2
      omega
theorem run_all {f : Nat → Int32} {n : Nat} {lo hi : Int} {p j : Nat} (h1 : p ≤ j) (h2 : j < run f n lo hi p) : lo ≤ (f j).toInt ∧ (f j).toInt ≤ hi := rk_all _ _ _ h1 h2
/-- a number's token: one or two figures -/
theorem tk_two {f : Nat → Int32} {n s : Nat} (ho : tkO f n s) (hk : tkK f n s = 2) : (tkE f n s = s + 1 ∨ tkE f n s = s + 2) ∧ (48 ≤ (f s).toInt ∧ (f s).toInt ≤ 57) ∧ (tkE f n s = s + 2 → 48 ≤ (f (s + 1)).toInt ∧ (f (s + 1)).toInt ≤ 57) := by
  have h1 := ho hk
  have hns : s < n := by
    by_cases q : n ≤ s
    · have := (tk_end (f := f) q).1; omega
    · omega
  have h59 : ¬ (f s).toInt = 59 := fun q => by have := (tk_stop (f := f) hns q).1; omega
  have haz : ¬ (97 ≤ (f s).toInt ∧ (f s).toInt ≤ 122) := fun q => by have := (tk_name (f := f) hns q).1; omega
  have e := (tk_num hns h59 haz).2.1
  rw [e] at h1 ⊢
  exact ⟨by omega, run_all (f := f) (n := n) (p := s) (j := s) (Nat.le_refl _) h1.1, fun q => run_all (f := f) (n := n) (p := s) (j := s + 1) (by omega) (by omega)⟩
/-- what reading a number answers and notes -/
noncomputable def numR (f : Nat → Int32) (n p : Nat) (r st e v fk fp fk0 fp0 : Int) : Prop := (r = 1 ∧ tkO f n (tkS f n p) ∧ tkK f n (tkS f n p) = 2 ∧ st = ((tkS f n p : Nat) : Int) ∧ e = ((tkE f n (tkS f n p) : Nat) : Int) ∧ v = nm f (tkS f n p) (tkE f n (tkS f n p)) ∧ fk = fk0 ∧ fp = fp0) ∨ (r = 0 ∧ ((¬ tkO f n (tkS f n p) ∧ fk = 1) ∨ (tkO f n (tkS f n p) ∧ ¬ tkK f n (tkS f n p) = 2 ∧ fk = 2)) ∧ fp = ((tkS f n p : Nat) : Int))
noncomputable def stopR (f : Nat → Int32) (n p : Nat) (r e fk fp fk0 fp0 : Int) : Prop := (r = 1 ∧ tkO f n (tkS f n p) ∧ tkK f n (tkS f n p) = 3 ∧ e = ((tkE f n (tkS f n p) : Nat) : Int) ∧ fk = fk0 ∧ fp = fp0) ∨ (r = 0 ∧ ((¬ tkO f n (tkS f n p) ∧ fk = 1) ∨ (tkO f n (tkS f n p) ∧ ¬ tkK f n (tkS f n p) = 3 ∧ fk = 2)) ∧ fp = ((tkS f n p : Nat) : Int))
