/-! ===== lines: what the class's readers answer and note, against the pure line ===== -/
/-- day: told already, a bad number, too large, or read up to its stop -/
noncomputable def dayQ (f : Nat → Int32) (n s0 e0 : Nat) (dt r fk fp e v d2 fk0 fp0 : Int) : Prop := (r = 0 ∧ dayF f n s0 e0 dt = lnB fk fp.toNat ∧ 0 ≤ fp ∧ ¬ fk = 0) ∨ (r = 1 ∧ dayF f n s0 e0 dt = stopF f n e.toNat (fun e2 => (0, 0, e2, 4, v, 0, 0)) ∧ d2 = 1 ∧ fk = fk0 ∧ fp = fp0)
theorem dayQ_told {f : Nat → Int32} {n s0 e0 : Nat} {dt r fk fp e v d2 fk0 fp0 : Int} (hd : ¬ dt = 0) (hr : r = 0) (h4 : fk = 4) (h5 : fp = (s0 : Int)) : dayQ f n s0 e0 dt r fk fp e v d2 fk0 fp0 := by
  refine Or.inl ⟨hr, ?_, by omega, by omega⟩
  unfold dayF
  rw [if_pos hd, h4, h5]; rfl
theorem dayQ_bad {f : Nat → Int32} {n s0 e0 : Nat} {dt r r1 st e1 v1 fk fp e v d2 fk0 fp0 a b : Int} (hd : dt = 0) (h : numR f n e0 r1 st e1 v1 fk fp a b) (h1 : r1 = 0) (hr : r = 0) : dayQ f n s0 e0 dt r fk fp e v d2 fk0 fp0 := by
  refine Or.inl ⟨hr, ?_, numR_fp h h1⟩
  unfold dayF
  rw [if_neg (fun q => q hd), numF_bad h h1]
theorem dayQ_big {f : Nat → Int32} {n s0 e0 : Nat} {dt r r1 st e1 v1 fk1 fp1 fk fp e v d2 fk0 fp0 a b : Int} (hd : dt = 0) (h : numR f n e0 r1 st e1 v1 fk1 fp1 a b) (h1 : ¬ r1 = 0) (hv : 9 < v1) (hr : r = 0) (h4 : fk = 3) (h5 : fp = st) : dayQ f n s0 e0 dt r fk fp e v d2 fk0 fp0 := by
  have hb := numR_ok h h1
  refine Or.inl ⟨hr, ?_, by omega, by omega⟩
  unfold dayF
  rw [if_neg (fun q => q hd), numF_ok h h1, if_pos hv, h4, h5]
theorem dayQ_ok {f : Nat → Int32} {n s0 e0 : Nat} {dt r r1 st e1 v1 fk1 fp1 fk fp e v d2 fk0 fp0 : Int} (hd : dt = 0) (h : numR f n e0 r1 st e1 v1 fk1 fp1 fk0 fp0) (h1 : ¬ r1 = 0) (hv : ¬ 9 < v1) (hr : r = 1) (h4 : fk = fk1) (h5 : fp = fp1) (he : e = e1) (hv2 : v = v1) (hd2 : d2 = 1) : dayQ f n s0 e0 dt r fk fp e v d2 fk0 fp0 := by
  have hb := numR_ok h h1
  refine Or.inr ⟨hr, ?_, hd2, by omega, by omega⟩
  unfold dayF
  rw [if_neg (fun q => q hd), numF_ok h h1, if_neg hv, he, hv2]
/-- tie: eleven, a bad number, one out of its bounds, or read up to its stop -/
noncomputable def tieQ (f : Nat → Int32) (n s0 e0 : Nat) (nt r fk fp e v1 v2 v3 fk0 fp0 : Int) : Prop := (r = 0 ∧ tieF f n s0 e0 nt = lnB fk fp.toNat ∧ 0 ≤ fp ∧ ¬ fk = 0) ∨ (r = 1 ∧ nt < 10 ∧ tieF f n s0 e0 nt = stopF f n e.toNat (fun e4 => (0, 0, e4, 5, v1, v2, v3)) ∧ fk = fk0 ∧ fp = fp0)
theorem tieQ_full {f : Nat → Int32} {n s0 e0 : Nat} {nt r fk fp e v1 v2 v3 fk0 fp0 : Int} (hd : 10 ≤ nt) (hr : r = 0) (h4 : fk = 5) (h5 : fp = (s0 : Int)) : tieQ f n s0 e0 nt r fk fp e v1 v2 v3 fk0 fp0 := by
  refine Or.inl ⟨hr, ?_, by omega, by omega⟩
  unfold tieF
  rw [if_pos hd, h4, h5]; rfl
theorem tieQ_n1 {f : Nat → Int32} {n s0 e0 : Nat} {nt r r1 st e1 x1 fk fp e v1 v2 v3 fk0 fp0 a b : Int} (hd : ¬ 10 ≤ nt) (h : numR f n e0 r1 st e1 x1 fk fp a b) (h1 : r1 = 0) (hr : r = 0) : tieQ f n s0 e0 nt r fk fp e v1 v2 v3 fk0 fp0 := by
  refine Or.inl ⟨hr, ?_, numR_fp h h1⟩
  unfold tieF
  rw [if_neg hd, numF_bad h h1]
theorem tieQ_b1 {f : Nat → Int32} {n s0 e0 : Nat} {nt r r1 st e1 x1 fk1 fp1 fk fp e v1 v2 v3 fk0 fp0 a b : Int} (hd : ¬ 10 ≤ nt) (h : numR f n e0 r1 st e1 x1 fk1 fp1 a b) (h1 : ¬ r1 = 0) (hv : ¬ (x1 / 10 ≤ 3 ∧ x1 % 10 ≤ 4)) (hr : r = 0) (h4 : fk = 3) (h5 : fp = st) : tieQ f n s0 e0 nt r fk fp e v1 v2 v3 fk0 fp0 := by
  have hb := numR_ok h h1
  refine Or.inl ⟨hr, ?_, by omega, by omega⟩
  unfold tieF
  rw [if_neg hd, numF_ok h h1, if_pos hv, h4, h5]
theorem tieQ_n2 {f : Nat → Int32} {n s0 e0 p2 : Nat} {nt r r1 st e1 x1 fk1 fp1 r2 st2 e2 x2 fk fp e v1 v2 v3 fk0 fp0 a b c d : Int} (hd : ¬ 10 ≤ nt) (h : numR f n e0 r1 st e1 x1 fk1 fp1 a b) (h1 : ¬ r1 = 0) (hv : x1 / 10 ≤ 3 ∧ x1 % 10 ≤ 4) (hp2 : p2 = e1.toNat) (g : numR f n p2 r2 st2 e2 x2 fk fp c d) (g1 : r2 = 0) (hr : r = 0) : tieQ f n s0 e0 nt r fk fp e v1 v2 v3 fk0 fp0 := by
  refine Or.inl ⟨hr, ?_, numR_fp g g1⟩
  unfold tieF
  rw [if_neg hd, numF_ok h h1, if_neg (fun q => q hv), ← hp2, numF_bad g g1]
theorem tieQ_b2 {f : Nat → Int32} {n s0 e0 p2 : Nat} {nt r r1 st e1 x1 fk1 fp1 r2 st2 e2 x2 fk2 fp2 fk fp e v1 v2 v3 fk0 fp0 a b c d : Int} (hd : ¬ 10 ≤ nt) (h : numR f n e0 r1 st e1 x1 fk1 fp1 a b) (h1 : ¬ r1 = 0) (hv : x1 / 10 ≤ 3 ∧ x1 % 10 ≤ 4) (hp2 : p2 = e1.toNat) (g : numR f n p2 r2 st2 e2 x2 fk2 fp2 c d) (g1 : ¬ r2 = 0) (hw : ¬ (x2 / 10 ≤ 3 ∧ x2 % 10 ≤ 3 ∧ ¬ x2 / 10 = x2 % 10)) (hr : r = 0) (h4 : fk = 3) (h5 : fp = st2) : tieQ f n s0 e0 nt r fk fp e v1 v2 v3 fk0 fp0 := by
  have hb := numR_ok g g1
  refine Or.inl ⟨hr, ?_, by omega, by omega⟩
  unfold tieF
  rw [if_neg hd, numF_ok h h1, if_neg (fun q => q hv), ← hp2, numF_ok g g1, if_pos hw, h4, h5]
theorem tieQ_n3 {f : Nat → Int32} {n s0 e0 p2 p3 : Nat} {nt r r1 st e1 x1 fk1 fp1 r2 st2 e2 x2 fk2 fp2 r3 st3 e3 x3 fk fp e v1 v2 v3 fk0 fp0 a b c d a3 b3 : Int} (hd : ¬ 10 ≤ nt) (h : numR f n e0 r1 st e1 x1 fk1 fp1 a b) (h1 : ¬ r1 = 0) (hv : x1 / 10 ≤ 3 ∧ x1 % 10 ≤ 4) (hp2 : p2 = e1.toNat) (g : numR f n p2 r2 st2 e2 x2 fk2 fp2 c d) (g1 : ¬ r2 = 0) (hw : x2 / 10 ≤ 3 ∧ x2 % 10 ≤ 3 ∧ ¬ x2 / 10 = x2 % 10) (hp3 : p3 = e2.toNat) (k : numR f n p3 r3 st3 e3 x3 fk fp a3 b3) (k1 : r3 = 0) (hr : r = 0) : tieQ f n s0 e0 nt r fk fp e v1 v2 v3 fk0 fp0 := by
  refine Or.inl ⟨hr, ?_, numR_fp k k1⟩
  unfold tieF
  rw [if_neg hd, numF_ok h h1, if_neg (fun q => q hv), ← hp2, numF_ok g g1, if_neg (fun q => q hw), ← hp3, numF_bad k k1]
theorem tieQ_b3 {f : Nat → Int32} {n s0 e0 p2 p3 : Nat} {nt r r1 st e1 x1 fk1 fp1 r2 st2 e2 x2 fk2 fp2 r3 st3 e3 x3 fk3 fp3 fk fp e v1 v2 v3 fk0 fp0 a b c d a3 b3 : Int} (hd : ¬ 10 ≤ nt) (h : numR f n e0 r1 st e1 x1 fk1 fp1 a b) (h1 : ¬ r1 = 0) (hv : x1 / 10 ≤ 3 ∧ x1 % 10 ≤ 4) (hp2 : p2 = e1.toNat) (g : numR f n p2 r2 st2 e2 x2 fk2 fp2 c d) (g1 : ¬ r2 = 0) (hw : x2 / 10 ≤ 3 ∧ x2 % 10 ≤ 3 ∧ ¬ x2 / 10 = x2 % 10) (hp3 : p3 = e2.toNat) (k : numR f n p3 r3 st3 e3 x3 fk3 fp3 a3 b3) (k1 : ¬ r3 = 0) (hx : x3 < 10) (hr : r = 0) (h4 : fk = 3) (h5 : fp = st3) : tieQ f n s0 e0 nt r fk fp e v1 v2 v3 fk0 fp0 := by
  have hb := numR_ok k k1
  refine Or.inl ⟨hr, ?_, by omega, by omega⟩
  unfold tieF
  rw [if_neg hd, numF_ok h h1, if_neg (fun q => q hv), ← hp2, numF_ok g g1, if_neg (fun q => q hw), ← hp3, numF_ok k k1, if_pos hx, h4, h5]
theorem tieQ_ok {f : Nat → Int32} {n s0 e0 p2 p3 : Nat} {nt r r1 st e1 x1 fk1 fp1 r2 st2 e2 x2 fk2 fp2 r3 st3 e3 x3 fk3 fp3 fk fp e v1 v2 v3 fk0 fp0 : Int} (hd : ¬ 10 ≤ nt) (h : numR f n e0 r1 st e1 x1 fk1 fp1 fk0 fp0) (h1 : ¬ r1 = 0) (hv : x1 / 10 ≤ 3 ∧ x1 % 10 ≤ 4) (hp2 : p2 = e1.toNat) (g : numR f n p2 r2 st2 e2 x2 fk2 fp2 fk1 fp1) (g1 : ¬ r2 = 0) (hw : x2 / 10 ≤ 3 ∧ x2 % 10 ≤ 3 ∧ ¬ x2 / 10 = x2 % 10) (hp3 : p3 = e2.toNat) (k : numR f n p3 r3 st3 e3 x3 fk3 fp3 fk2 fp2) (k1 : ¬ r3 = 0) (hx : ¬ x3 < 10) (hr : r = 1) (h4 : fk = fk3) (h5 : fp = fp3) (he : e = e3) (q1 : v1 = x1) (q2 : v2 = x2) (q3 : v3 = x3) : tieQ f n s0 e0 nt r fk fp e v1 v2 v3 fk0 fp0 := by
  have hb := numR_ok h h1
  have hb2 := numR_ok g g1
  have hb3 := numR_ok k k1
  refine Or.inr ⟨hr, by omega, ?_, by omega, by omega⟩
  unfold tieF
  rw [if_neg hd, numF_ok h h1, if_neg (fun q => q hv), ← hp2, numF_ok g g1, if_neg (fun q => q hw), ← hp3, numF_ok k k1, if_neg hx, he, q1, q2, q3]
/-! what is told so far: CLERKS, THREADS, whether DAY was told, DAY, KINDS, PLACES, PAIRS, KNOTS -/
noncomputable abbrev tS : Type := Nat × Nat × Int × Int × (Nat → Int) × (Nat → Int) × (Nat → Int) × (Nat → Int)
noncomputable def stF (S : tS) (w v1 v2 v3 : Int) : tS :=
  if w = 4 then (S.1, S.2.1, 1, v1, S.2.2.2.2.1, S.2.2.2.2.2.1, S.2.2.2.2.2.2.1, S.2.2.2.2.2.2.2)
  else if w = 5 then (S.1, S.2.1 + 1, S.2.2.1, S.2.2.2.1, S.2.2.2.2.1, (fun j => if j = S.2.1 then v1 else S.2.2.2.2.2.1 j), (fun j => if j = S.2.1 then v2 else S.2.2.2.2.2.2.1 j), (fun j => if j = S.2.1 then v3 else S.2.2.2.2.2.2.2 j))
  else (S.1 + 1, S.2.1, S.2.2.1, S.2.2.2.1, (fun j => if j = S.1 then w else S.2.2.2.2.1 j), S.2.2.2.2.2.1, S.2.2.2.2.2.2.1, S.2.2.2.2.2.2.2)
/-- the class's told Memory holds it -/
noncomputable def cT (S : tS) (h : qm_H) : Prop := ((h 25 6).toInt = (S.1 : Int) ∧ (h 25 7).toInt = (S.2.1 : Int) ∧ (h 23 10).toInt = S.2.2.1 ∧ (h 25 8).toInt = S.2.2.2.1) ∧ (∀ j : Nat, j < S.1 → (h 26 j).toInt = S.2.2.2.2.1 j) ∧ ∀ j : Nat, j < S.2.1 → (h 27 j).toInt = S.2.2.2.2.2.1 j ∧ (h 28 j).toInt = S.2.2.2.2.2.2.1 j ∧ (h 29 j).toInt = S.2.2.2.2.2.2.2 j
theorem cT_clk {S : tS} {h g : qm_H} {w v1 v2 v3 : Int} {x : Int32} (hc : cT S h) (hw : ¬ w = 4 ∧ ¬ w = 5) (hx : x.toInt = w) (e6 : (g 25 6).toInt = (h 25 6).toInt + 1) (e7 : (g 25 7).toInt = (h 25 7).toInt) (e8 : (g 25 8).toInt = (h 25 8).toInt) (e10 : (g 23 10).toInt = (h 23 10).toInt) (r26 : g 26 = upd (h 26) (h 25 6).toInt.toNat x) (r27 : g 27 = h 27) (r28 : g 28 = h 28) (r29 : g 29 = h 29) : cT (stF S w v1 v2 v3) g := by
  obtain ⟨⟨a1, a2, a3, a4⟩, b1, b2⟩ := hc
  unfold stF
  rw [if_neg hw.1, if_neg hw.2]
  refine ⟨⟨?_, ?_, ?_, ?_⟩, fun j hj => ?_, fun j hj => ?_⟩
  · show _ = ((S.1 + 1 : Nat) : Int); omega
  · show _ = ((S.2.1 : Nat) : Int); omega
  · show _ = S.2.2.1; omega
  · show _ = S.2.2.2.1; omega
  · have hj2 : j < S.1 + 1 := hj
    show (g 26 j).toInt = if j = S.1 then w else S.2.2.2.2.1 j
    rw [r26, show (h 25 6).toInt.toNat = S.1 by omega]
    unfold upd
    split
    · exact hx
    · exact b1 j (by omega)
  · rw [r27, r28, r29]; exact b2 j hj
theorem cT_day {S : tS} {h g : qm_H} {w v1 v2 v3 : Int} (hc : cT S h) (hw : w = 4) (e6 : (g 25 6).toInt = (h 25 6).toInt) (e7 : (g 25 7).toInt = (h 25 7).toInt) (e8 : (g 25 8).toInt = v1) (e10 : (g 23 10).toInt = 1) (r26 : g 26 = h 26) (r27 : g 27 = h 27) (r28 : g 28 = h 28) (r29 : g 29 = h 29) : cT (stF S w v1 v2 v3) g := by
  obtain ⟨⟨a1, a2, a3, a4⟩, b1, b2⟩ := hc
  unfold stF
  rw [if_pos hw]
  refine ⟨⟨?_, ?_, e10, e8⟩, fun j hj => ?_, fun j hj => ?_⟩
  · show _ = ((S.1 : Nat) : Int); omega
  · show _ = ((S.2.1 : Nat) : Int); omega
  · rw [r26]; exact b1 j hj
  · rw [r27, r28, r29]; exact b2 j hj
theorem cT_tie {S : tS} {h g : qm_H} {w v1 v2 v3 : Int} {x y z : Int32} (hc : cT S h) (hw : w = 5) (hx : x.toInt = v1) (hy : y.toInt = v2) (hz : z.toInt = v3) (e6 : (g 25 6).toInt = (h 25 6).toInt) (e7 : (g 25 7).toInt = (h 25 7).toInt + 1) (e8 : (g 25 8).toInt = (h 25 8).toInt) (e10 : (g 23 10).toInt = (h 23 10).toInt) (r26 : g 26 = h 26) (r27 : g 27 = upd (h 27) (h 25 7).toInt.toNat x) (r28 : g 28 = upd (h 28) (h 25 7).toInt.toNat y) (r29 : g 29 = upd (h 29) (h 25 7).toInt.toNat z) : cT (stF S w v1 v2 v3) g := by
  obtain ⟨⟨a1, a2, a3, a4⟩, b1, b2⟩ := hc
  unfold stF
  rw [if_neg (by omega), if_pos hw]
  refine ⟨⟨?_, ?_, ?_, ?_⟩, fun j hj => ?_, fun j hj => ?_⟩
  · show _ = ((S.1 : Nat) : Int); omega
  · show _ = ((S.2.1 + 1 : Nat) : Int); omega
  · show _ = S.2.2.1; omega
  · show _ = S.2.2.2.1; omega
  · rw [r26]; exact b1 j hj
  · have hj2 : j < S.2.1 + 1 := hj
    show (g 27 j).toInt = (if j = S.2.1 then v1 else S.2.2.2.2.2.1 j) ∧ (g 28 j).toInt = (if j = S.2.1 then v2 else S.2.2.2.2.2.2.1 j) ∧ (g 29 j).toInt = (if j = S.2.1 then v3 else S.2.2.2.2.2.2.2 j)
    rw [r27, r28, r29, show (h 25 7).toInt.toNat = S.2.1 by omega]
    unfold upd
    by_cases q : j = S.2.1
    · rw [if_pos q, if_pos q, if_pos q, if_pos q, if_pos q, if_pos q]; exact ⟨hx, hy, hz⟩
    · rw [if_neg q, if_neg q, if_neg q, if_neg q, if_neg q, if_neg q]; exact b2 j (by omega)
theorem wd_0 {f : Nat → Int32} {s e : Nat} (h0 : wis f s e (qm_sbyt.getD 0 [])) : wd f s e = 0 := by unfold wd; rw [if_pos h0]
theorem wd_1 {f : Nat → Int32} {s e : Nat} (h0 : ¬ wis f s e (qm_sbyt.getD 0 [])) (h1 : wis f s e (qm_sbyt.getD 1 [])) : wd f s e = 1 := by unfold wd; rw [if_neg h0, if_pos h1]
theorem wd_2 {f : Nat → Int32} {s e : Nat} (h0 : ¬ wis f s e (qm_sbyt.getD 0 [])) (h1 : ¬ wis f s e (qm_sbyt.getD 1 [])) (h2 : wis f s e (qm_sbyt.getD 2 [])) : wd f s e = 2 := by unfold wd; rw [if_neg h0, if_neg h1, if_pos h2]
theorem wd_3 {f : Nat → Int32} {s e : Nat} (h0 : ¬ wis f s e (qm_sbyt.getD 0 [])) (h1 : ¬ wis f s e (qm_sbyt.getD 1 [])) (h2 : ¬ wis f s e (qm_sbyt.getD 2 [])) (h3 : wis f s e (qm_sbyt.getD 3 [])) : wd f s e = 3 := by unfold wd; rw [if_neg h0, if_neg h1, if_neg h2, if_pos h3]
theorem wd_4 {f : Nat → Int32} {s e : Nat} (h0 : ¬ wis f s e (qm_sbyt.getD 0 [])) (h1 : ¬ wis f s e (qm_sbyt.getD 1 [])) (h2 : ¬ wis f s e (qm_sbyt.getD 2 [])) (h3 : ¬ wis f s e (qm_sbyt.getD 3 [])) (h4 : wis f s e (qm_sbyt.getD 4 [])) : wd f s e = 4 := by unfold wd; rw [if_neg h0, if_neg h1, if_neg h2, if_neg h3, if_pos h4]
theorem wd_5 {f : Nat → Int32} {s e : Nat} (h0 : ¬ wis f s e (qm_sbyt.getD 0 [])) (h1 : ¬ wis f s e (qm_sbyt.getD 1 [])) (h2 : ¬ wis f s e (qm_sbyt.getD 2 [])) (h3 : ¬ wis f s e (qm_sbyt.getD 3 [])) (h4 : ¬ wis f s e (qm_sbyt.getD 4 [])) (h5 : wis f s e (qm_sbyt.getD 5 [])) : wd f s e = 5 := by unfold wd; rw [if_neg h0, if_neg h1, if_neg h2, if_neg h3, if_neg h4, if_pos h5]
theorem wd_6 {f : Nat → Int32} {s e : Nat} (h0 : ¬ wis f s e (qm_sbyt.getD 0 [])) (h1 : ¬ wis f s e (qm_sbyt.getD 1 [])) (h2 : ¬ wis f s e (qm_sbyt.getD 2 [])) (h3 : ¬ wis f s e (qm_sbyt.getD 3 [])) (h4 : ¬ wis f s e (qm_sbyt.getD 4 [])) (h5 : ¬ wis f s e (qm_sbyt.getD 5 [])) : wd f s e = -4 := by unfold wd; rw [if_neg h0, if_neg h1, if_neg h2, if_neg h3, if_neg h4, if_neg h5]
theorem lineF_none {f : Nat → Int32} {n s0 e0 : Nat} {k0 nc nt dt : Int} (h : ¬ k0 = 1 ∨ wd f s0 e0 = -4) : lineF f n s0 e0 k0 nc nt dt = lnB 2 s0 := by unfold lineF; rw [if_pos h]
theorem lineF_day {f : Nat → Int32} {n s0 e0 : Nat} {k0 nc nt dt : Int} (hk : k0 = 1) (hw : wd f s0 e0 = 4) : lineF f n s0 e0 k0 nc nt dt = dayF f n s0 e0 dt := by unfold lineF; rw [if_neg (by omega), if_pos hw]
theorem lineF_tie {f : Nat → Int32} {n s0 e0 : Nat} {k0 nc nt dt : Int} (hk : k0 = 1) (hw : wd f s0 e0 = 5) : lineF f n s0 e0 k0 nc nt dt = tieF f n s0 e0 nt := by unfold lineF; rw [if_neg (by omega), if_neg (by omega), if_pos hw]
theorem lineF_clk {f : Nat → Int32} {n s0 e0 : Nat} {k0 nc nt dt : Int} (hk : k0 = 1) (hw : ¬ wd f s0 e0 = -4 ∧ ¬ wd f s0 e0 = 4 ∧ ¬ wd f s0 e0 = 5) : lineF f n s0 e0 k0 nc nt dt = clkF f n s0 e0 nc (wd f s0 e0) := by unfold lineF; rw [if_neg (by omega), if_neg hw.2.1, if_neg hw.2.2]
/-- a line, as the class's readLine answers it -/
noncomputable def lineQ (f : Nat → Int32) (n s0 e0 : Nat) (k0 nc nt dt r fk fp e fk0 fp0 : Int) (h g : qm_H) : Prop := (r = 0 ∧ lineF f n s0 e0 k0 nc nt dt = lnB fk fp.toNat ∧ 0 ≤ fp ∧ ¬ fk = 0) ∨ (r = 1 ∧ fk = fk0 ∧ fp = fp0 ∧ (e0 : Int) < e ∧ ∃ w v1 v2 v3 : Int, lineF f n s0 e0 k0 nc nt dt = (0, 0, e.toNat, w, v1, v2, v3) ∧ ∀ S : tS, cT S h → cT (stF S w v1 v2 v3) g)
theorem lineQ_none {f : Nat → Int32} {n s0 e0 : Nat} {k0 nc nt dt r fk fp e fk0 fp0 : Int} {h g : qm_H} (hw : ¬ k0 = 1 ∨ wd f s0 e0 = -4) (hr : r = 0) (h4 : fk = 2) (h5 : fp = (s0 : Int)) : lineQ f n s0 e0 k0 nc nt dt r fk fp e fk0 fp0 h g := by
  refine Or.inl ⟨hr, ?_, by omega, by omega⟩
  rw [lineF_none hw, h4, h5]; rfl
theorem lineQ_d0 {f : Nat → Int32} {n s0 e0 : Nat} {k0 nc nt dt r r1 fk fp e fk0 fp0 e1 v d2 a b : Int} {h g : qm_H} (hk : k0 = 1) (hw : wd f s0 e0 = 4) (hd : dayQ f n s0 e0 dt r1 fk fp e1 v d2 a b) (h1 : r1 = 0) (hr : r = 0) : lineQ f n s0 e0 k0 nc nt dt r fk fp e fk0 fp0 h g := by
  obtain q | q := hd
  · exact Or.inl ⟨hr, (lineF_day hk hw).trans q.2.1, q.2.2⟩
  · exact absurd (q.1.symm.trans h1) (by decide)
theorem lineQ_d1 {f : Nat → Int32} {n s0 e0 p2 : Nat} {k0 nc nt dt r r1 r2 fk fp e fk0 fp0 fk1 fp1 e1 e2 v d2 a b c d : Int} {h g : qm_H} (hk : k0 = 1) (hw : wd f s0 e0 = 4) (hd : dayQ f n s0 e0 dt r1 fk1 fp1 e1 v d2 a b) (h1 : ¬ r1 = 0) (hp2 : p2 = e1.toNat) (hs : stopR f n p2 r2 e2 fk fp c d) (h2 : r2 = 0) (hr : r = 0) : lineQ f n s0 e0 k0 nc nt dt r fk fp e fk0 fp0 h g := by
  obtain q | q := hd
  · exact absurd q.1 h1
  · exact Or.inl ⟨hr, by rw [lineF_day hk hw, q.2.1, ← hp2, stopF_bad hs h2], stopR_fp hs h2⟩
theorem lineQ_d2 {f : Nat → Int32} {n s0 e0 p2 : Nat} {k0 nc nt dt r r1 r2 fk fp e fk0 fp0 fk1 fp1 e1 v d2 : Int} {h g : qm_H} (hk : k0 = 1) (hw : wd f s0 e0 = 4) (hd : dayQ f n s0 e0 dt r1 fk1 fp1 e1 v d2 fk0 fp0) (h1 : ¬ r1 = 0) (hp2 : p2 = e1.toNat) (he1 : (e0 : Int) ≤ e1) (hs : stopR f n p2 r2 e fk fp fk1 fp1) (h2 : ¬ r2 = 0) (hr : r = 1) (hc : ∀ S : tS, cT S h → d2 = 1 → cT (stF S 4 v 0 0) g) : lineQ f n s0 e0 k0 nc nt dt r fk fp e fk0 fp0 h g := by
  have hg := stopR_gt hs h2
  obtain q | q := hd
  · exact absurd q.1 h1
  · exact Or.inr ⟨hr, by omega, by omega, by omega, 4, v, 0, 0, by rw [lineF_day hk hw, q.2.1, ← hp2, stopF_ok hs h2], fun S hS => hc S hS q.2.2.1⟩
theorem lineQ_t0 {f : Nat → Int32} {n s0 e0 : Nat} {k0 nc nt dt r r1 fk fp e fk0 fp0 e1 v1 v2 v3 a b : Int} {h g : qm_H} (hk : k0 = 1) (hw : wd f s0 e0 = 5) (hd : tieQ f n s0 e0 nt r1 fk fp e1 v1 v2 v3 a b) (h1 : r1 = 0) (hr : r = 0) : lineQ f n s0 e0 k0 nc nt dt r fk fp e fk0 fp0 h g := by
  obtain q | q := hd
  · exact Or.inl ⟨hr, (lineF_tie hk hw).trans q.2.1, q.2.2⟩
  · exact absurd (q.1.symm.trans h1) (by decide)
theorem lineQ_t1 {f : Nat → Int32} {n s0 e0 p2 : Nat} {k0 nc nt dt r r1 r2 fk fp e fk0 fp0 fk1 fp1 e1 e2 v1 v2 v3 a b c d : Int} {h g : qm_H} (hk : k0 = 1) (hw : wd f s0 e0 = 5) (hd : tieQ f n s0 e0 nt r1 fk1 fp1 e1 v1 v2 v3 a b) (h1 : ¬ r1 = 0) (hp2 : p2 = e1.toNat) (hs : stopR f n p2 r2 e2 fk fp c d) (h2 : r2 = 0) (hr : r = 0) : lineQ f n s0 e0 k0 nc nt dt r fk fp e fk0 fp0 h g := by
  obtain q | q := hd
  · exact absurd q.1 h1
  · exact Or.inl ⟨hr, by rw [lineF_tie hk hw, q.2.2.1, ← hp2, stopF_bad hs h2], stopR_fp hs h2⟩
theorem lineQ_t2 {f : Nat → Int32} {n s0 e0 p2 : Nat} {k0 nc nt dt r r1 r2 fk fp e fk0 fp0 fk1 fp1 e1 v1 v2 v3 : Int} {h g : qm_H} (hk : k0 = 1) (hw : wd f s0 e0 = 5) (hd : tieQ f n s0 e0 nt r1 fk1 fp1 e1 v1 v2 v3 fk0 fp0) (h1 : ¬ r1 = 0) (hp2 : p2 = e1.toNat) (he1 : (e0 : Int) ≤ e1) (hs : stopR f n p2 r2 e fk fp fk1 fp1) (h2 : ¬ r2 = 0) (hr : r = 1) (hc : ∀ S : tS, cT S h → cT (stF S 5 v1 v2 v3) g) : lineQ f n s0 e0 k0 nc nt dt r fk fp e fk0 fp0 h g := by
  have hg := stopR_gt hs h2
  obtain q | q := hd
  · exact absurd q.1 h1
  · exact Or.inr ⟨hr, by omega, by omega, by omega, 5, v1, v2, v3, by rw [lineF_tie hk hw, q.2.2.1, ← hp2, stopF_ok hs h2], hc⟩
theorem lineQ_c0 {f : Nat → Int32} {n s0 e0 : Nat} {k0 nc nt dt r fk fp e fk0 fp0 : Int} {h g : qm_H} (hk : k0 = 1) (hw : ¬ wd f s0 e0 = -4 ∧ ¬ wd f s0 e0 = 4 ∧ ¬ wd f s0 e0 = 5) (hn : 4 ≤ nc) (hr : r = 0) (h4 : fk = 5) (h5 : fp = (s0 : Int)) : lineQ f n s0 e0 k0 nc nt dt r fk fp e fk0 fp0 h g := by
  refine Or.inl ⟨hr, ?_, by omega, by omega⟩
  rw [lineF_clk hk hw]
  unfold clkF
  rw [if_pos hn, h4, h5]; rfl
theorem lineQ_c1 {f : Nat → Int32} {n s0 e0 : Nat} {k0 nc nt dt r r2 fk fp e fk0 fp0 e2 c d : Int} {h g : qm_H} (hk : k0 = 1) (hw : ¬ wd f s0 e0 = -4 ∧ ¬ wd f s0 e0 = 4 ∧ ¬ wd f s0 e0 = 5) (hn : nc < 4) (hs : stopR f n e0 r2 e2 fk fp c d) (h2 : r2 = 0) (hr : r = 0) : lineQ f n s0 e0 k0 nc nt dt r fk fp e fk0 fp0 h g := by
  refine Or.inl ⟨hr, ?_, stopR_fp hs h2⟩
  rw [lineF_clk hk hw]
  unfold clkF
  rw [if_neg (by omega), stopF_bad hs h2]
theorem lineQ_c2 {f : Nat → Int32} {n s0 e0 : Nat} {k0 nc nt dt r r2 fk fp e fk0 fp0 : Int} {h g : qm_H} (hk : k0 = 1) (hw : ¬ wd f s0 e0 = -4 ∧ ¬ wd f s0 e0 = 4 ∧ ¬ wd f s0 e0 = 5) (hn : nc < 4) (hs : stopR f n e0 r2 e fk fp fk0 fp0) (h2 : ¬ r2 = 0) (hr : r = 1) (hc : ∀ S : tS, cT S h → cT (stF S (wd f s0 e0) 0 0 0) g) : lineQ f n s0 e0 k0 nc nt dt r fk fp e fk0 fp0 h g := by
  have hg := stopR_gt hs h2
  refine Or.inr ⟨hr, by omega, by omega, by omega, wd f s0 e0, 0, 0, 0, ?_, hc⟩
  rw [lineF_clk hk hw]
  unfold clkF
  rw [if_neg (by omega), stopF_ok hs h2]
