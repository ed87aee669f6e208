/-! ===== sheets: their rows; read of the class ===== -/
theorem low_0 {l v : Int32} (h : l.toInt = 0) : v.toInt8.toInt32 = lowb l v := (if_pos h).symm
theorem low_1 {l v : Int32} (h : l.toInt = 1) : v.toInt16.toInt32 = lowb l v := by
  unfold lowb
  rw [if_neg (by omega), if_pos h]
theorem low_2 {l v : Int32} (h0 : ¬ l.toInt = 0) (h1 : ¬ l.toInt = 1) : v = lowb l v := by
  unfold lowb
  rw [if_neg h0, if_neg h1]
theorem svC_is {h : qm_H} {k : Nat} (q : ¬ (h 37 k).toInt = -4) : svC h k = (h 36 k, h 37 k, msk (h 37 k) (fun i => h 35 (40 * k + i))) := if_neg q
theorem svR_is {h : qm_H} {k : Nat} (q : ¬ (h 48 k).toInt = -4) : svR h k = (h 48 k, h 49 k, msk (h 49 k) (fun i => h 50 (40 * k + i))) := if_neg q
theorem trS_no {b c : Int} {i : Nat} : ¬ trS noS b c i := fun q => q.1.1 (by decide)
theorem trC {h : qm_H} {k i : Nat} {b c : Int} : trS (svC h k) b c i ↔ (¬ (h 37 k).toInt = -4 ∧ (h 36 k).toInt = b) ∧ 0 ≤ c + 3 * (i : Int) ∧ c + 3 * (i : Int) + 2 < (h 37 k).toInt := by
  by_cases q : (h 37 k).toInt = -4
  · have e : svC h k = noS := if_pos q
    rw [e]
    exact ⟨fun w => absurd w trS_no, fun w => absurd q w.1.1⟩
  · rw [svC_is q]
    exact Iff.rfl
theorem trR {h : qm_H} {k i : Nat} {b c : Int} (h9 : 0 ≤ (h 49 k).toInt) : trS (svR h k) b c i ↔ (¬ (h 48 k).toInt = -4 ∧ (h 48 k).toInt = b) ∧ 0 ≤ c + 3 * (i : Int) ∧ c + 3 * (i : Int) + 2 < (h 49 k).toInt := by
  by_cases q : (h 48 k).toInt = -4
  · have e : svR h k = noS := if_pos q
    rw [e]
    exact ⟨fun w => absurd w trS_no, fun w => absurd q w.1.1⟩
  · rw [svR_is q]
    constructor
    · intro w; exact ⟨⟨q, w.1.2⟩, w.2⟩
    · intro w; exact ⟨⟨by show ¬ (h 49 k).toInt = -4; omega, w.1.2⟩, w.2⟩
theorem tcC {h : qm_H} {k i j : Nat} {b c : Int} (q : trS (svC h k) b c i) (hj : j ≤ 2) : tcS (svC h k) c i j = h 35 (40 * k + ((c + 3 * (i : Int)).toNat + j)) := by
  have w := trC.mp q
  unfold tcS
  rw [svC_is w.1.1]
  show msk (h 37 k) (fun i => h 35 (40 * k + i)) _ = _
  rw [msk_in (by omega)]
theorem tcR {h : qm_H} {k i j : Nat} {b c : Int} (h9 : 0 ≤ (h 49 k).toInt) (q : trS (svR h k) b c i) (hj : j ≤ 2) : tcS (svR h k) c i j = h 50 (40 * k + ((c + 3 * (i : Int)).toNat + j)) := by
  have w := (trR h9).mp q
  unfold tcS
  rw [svR_is w.1.1]
  show msk (h 49 k) (fun i => h 50 (40 * k + i)) _ = _
  rw [msk_in (by omega)]
/-- the loop of read: S the sheet, T the threads before, M0 the Memory before -/
noncomputable def rdJ (S : SH) (b c d : Int) (T : Int32) (M0 : Mem) (f i : Int) (M : Mem) : Prop := (f = 0 ∧ rdL S b c T (d - i).toNat i.toNat M = rdL S b c T d.toNat 0 M0) ∨ (¬ f = 0 ∧ ((thM M).toInt - T.toInt, M) = rdL S b c T d.toNat 0 M0)
theorem rdJ_0 {S : SH} {b c d : Int} {T : Int32} {M : Mem} {f i : Int} (hf : f = 0) (hi : i = 0) : rdJ S b c d T M f i M := Or.inl ⟨hf, by rw [hi, Int.sub_zero]; rfl⟩
theorem rdJ_x {S : SH} {b c d : Int} {T : Int32} {M : Mem} {f i : Int} (hf : ¬ f = 0) (hn : ¬ trS S b c 0) : rdJ S b c d T M f i M := Or.inr ⟨hf, (rdL_stop (Or.inr hn)).symm⟩
theorem rdJ_f {S : SH} {b c d : Int} {T : Int32} {M0 M : Mem} {f f2 i i2 : Int} (h : rdJ S b c d T M0 f i M) (hf : f = 0) (h2 : ¬ f2 = 0) (hn : ¬ trS S b c i.toNat) : rdJ S b c d T M0 f2 i2 M := by
  obtain q | q := h
  · exact Or.inr ⟨h2, by rw [← q.2, rdL_stop (Or.inr hn)]⟩
  · exact absurd hf q.1
theorem rdJ_y {S : SH} {b c d : Int} {T : Int32} {M0 M M2 : Mem} {f f2 i i2 : Int} (h : rdJ S b c d T M0 f i M) (hf : f = 0) (h2 : f2 = 0) (hi : 0 ≤ i ∧ i < d) (hi2 : i2 = i + 1) (ht : trS S b c i.toNat) (q : ¬ (opTie (tcS S c i.toNat 0) (tcS S c i.toNat 1) (tcS S c i.toNat 2) M).1 < 0) (e : M2 = (opTie (tcS S c i.toNat 0) (tcS S c i.toNat 1) (tcS S c i.toNat 2) M).2) : rdJ S b c d T M0 f2 i2 M2 := by
  obtain w | w := h
  · refine Or.inl ⟨h2, ?_⟩
    rw [← w.2, rdL_go (by omega) ht q, e, show (d - i2).toNat = (d - i).toNat - 1 by omega, show i2.toNat = i.toNat + 1 by omega]
  · exact absurd hf w.1
theorem rdJ_n {S : SH} {b c d : Int} {T : Int32} {M0 M : Mem} {f i : Int} (h : rdJ S b c d T M0 f i M) (hf : f = 0) (hi : 0 ≤ i ∧ i < d) (ht : trS S b c i.toNat) (q : (opTie (tcS S c i.toNat 0) (tcS S c i.toNat 1) (tcS S c i.toNat 2) M).1 < 0) : rdL S b c T d.toNat 0 M0 = (-20 - i, trM T M) := by
  obtain w | w := h
  · rw [← w.2, rdL_bad (by omega) ht q, show ((i.toNat : Nat) : Int) = i by omega]
  · exact absurd hf w.1
theorem rdJ_e {S : SH} {b c d : Int} {T : Int32} {M0 M : Mem} {f i : Int} (h : rdJ S b c d T M0 f i M) (hi : d ≤ i ∨ ¬ f = 0) : rdL S b c T d.toNat 0 M0 = ((thM M).toInt - T.toInt, M) := by
  obtain w | w := h
  · rw [← w.2]
    exact rdL_stop (Or.inl (by omega))
  · exact w.2.symm
theorem trM_mk {T cl th dy sn : Int32} {kd pl pa kn sp ss : Nat → Int32} (h : T.toInt ≤ th.toInt) : trM T (mkM cl th dy sn kd pl pa kn sp ss) = mkM cl T dy sn kd pl pa kn sp ss := mkM_eq (fun j w => msk_in w) (fun j w => ⟨msk_in (by omega), msk_in (by omega), msk_in (by omega)⟩) (fun j w => ⟨msk_in w, msk_in w⟩)
theorem trM_C {T : Int32} {g k : qm_H} (e1 : k 1 = upd (g 1) 7 T) (r : k 2 = g 2 ∧ k 3 = g 3 ∧ k 4 = g 4 ∧ k 5 = g 5 ∧ k 6 = g 6 ∧ k 7 = g 7) (h : T.toInt ≤ (g 1 7).toInt) : mC k = trM T (mC g) := by
  rw [show trM T (mC g) = _ from trM_mk h]
  unfold mC
  rw [e1, r.1, r.2.1, r.2.2.1, r.2.2.2.1, r.2.2.2.2.1, r.2.2.2.2.2]
  rfl
theorem trM_R {T : Int32} {g k : qm_H} (e3 : k 39 3 = g 39 3) (e : k 40 = upd (g 40) 4 T) (h : T.toInt ≤ (g 40 4).toInt) (hc : (g 39 3).toInt ≤ 4) : mR k = trM T (mR g) := by
  rw [show trM T (mR g) = _ from trM_mk h]
  unfold mR mG
  rw [e3, e, upd_same, upd_ne (show ¬ 5 = 4 by omega), upd_ne (show ¬ 36 = 4 by omega)]
  exact mkM_eq (fun j w => upd_ne (by omega)) (fun j w => ⟨upd_ne (by omega), upd_ne (by omega), upd_ne (by omega)⟩) (fun j w => ⟨upd_ne (by omega), upd_ne (by omega)⟩)
/-! read of the reference -/
noncomputable def rqI (a b c d : Int32) (f i w : Int) (h g : qm_H) : Prop := wfM (mR h) → wfM (mR g) ∧ ((h 40 4).toInt ≤ (g 40 4).toInt ∧ w = (g 40 4).toInt - (h 40 4).toInt) ∧ rdJ (svR h a.toInt.toNat) b.toInt c.toInt d.toInt (h 40 4) (mR h) f i (mR g)
theorem rq_0 {a b c d : Int32} {f i w : Int} {h : qm_H} (hf : f = 0) (hi : i = 0) (hw : w = 0) : rqI a b c d f i w h h := fun q => ⟨q, ⟨Int.le_refl _, by omega⟩, rdJ_0 hf hi⟩
theorem rq_z {a b c d : Int32} {f f2 i w : Int} {h g : qm_H} (q : rqI a b c d f i w h g) (hf : f = 0) (h2 : f2 = 0) : rqI a b c d f2 i w h g := by
  rw [h2, ← hf]; exact q
theorem rq_f {a b c d : Int32} {f f2 i i2 w : Int} {h g : qm_H} (q : rqI a b c d f i w h g) (hf : f = 0) (h2 : ¬ f2 = 0) (hn : ¬ trS (svR h a.toInt.toNat) b.toInt c.toInt i.toNat) : rqI a b c d f2 i2 w h g := fun hw => ⟨(q hw).1, (q hw).2.1, rdJ_f (q hw).2.2 hf h2 hn⟩
theorem rq_y {a b c d x y z : Int32} {f f2 i i2 w w2 r : Int} {h g k : qm_H} (q : rqI a b c d f i w h g) (hf : f = 0) (h2 : f2 = 0) (hi : 0 ≤ i ∧ i < d.toInt) (hi2 : i2 = i + 1) (ht : trS (svR h a.toInt.toNat) b.toInt c.toInt i.toNat) (hx : x = tcS (svR h a.toInt.toNat) c.toInt i.toNat 0) (hy : y = tcS (svR h a.toInt.toNat) c.toInt i.toNat 1) (hz : z = tcS (svR h a.toInt.toNat) c.toInt i.toNat 2) (p : wfM (mR g) → r = (opTie x y z (mR g)).1 ∧ mR k = (opTie x y z (mR g)).2) (hr : 0 ≤ r) (hw2 : -100 ≤ w → w ≤ 100 → w2 = w + 1) : rqI a b c d f2 i2 w2 h k := fun hw => by
  obtain ⟨q1, ⟨q2, q3⟩, q4⟩ := q hw
  have p := p q1
  rw [hx, hy, hz] at p
  have th := tie_th (a := tcS (svR h a.toInt.toNat) c.toInt i.toNat 0) (b := tcS (svR h a.toInt.toNat) c.toInt i.toNat 1) (c := tcS (svR h a.toInt.toNat) c.toInt i.toNat 2) (M := mR g) q1.1.2.1.1
  have nn : ¬ (opTie (tcS (svR h a.toInt.toNat) c.toInt i.toNat 0) (tcS (svR h a.toInt.toNat) c.toInt i.toNat 1) (tcS (svR h a.toInt.toNat) c.toInt i.toNat 2) (mR g)).1 < 0 := by omega
  have t2 := (th.2.2 nn).1
  have b1 : 0 ≤ (g 40 4).toInt ∧ (g 40 4).toInt ≤ 10 := q1.1.2.1
  have b2 : 0 ≤ (h 40 4).toInt ∧ (h 40 4).toInt ≤ 10 := hw.1.2.1
  have hw2 := hw2 (by omega) (by omega)
  have ek : (k 40 4).toInt = (thM (opTie (tcS (svR h a.toInt.toNat) c.toInt i.toNat 0) (tcS (svR h a.toInt.toNat) c.toInt i.toNat 1) (tcS (svR h a.toInt.toNat) c.toInt i.toNat 2) (mR g)).2).toInt := congrArg (fun M : Mem => (thM M).toInt) p.2
  have eg : (thM (mR g)).toInt = (g 40 4).toInt := rfl
  refine ⟨by rw [p.2]; exact wf_tie q1, ⟨by omega, by omega⟩, rdJ_y q4 hf h2 hi hi2 ht nn p.2⟩
theorem rq_n {a b c d x y z : Int32} {f i w r : Int} {h g k : qm_H} (q : rqI a b c d f i w h g) (hf : f = 0) (hi : 0 ≤ i ∧ i < d.toInt) (ht : trS (svR h a.toInt.toNat) b.toInt c.toInt i.toNat) (hx : x = tcS (svR h a.toInt.toNat) c.toInt i.toNat 0) (hy : y = tcS (svR h a.toInt.toNat) c.toInt i.toNat 1) (hz : z = tcS (svR h a.toInt.toNat) c.toInt i.toNat 2) (p : wfM (mR g) → r = (opTie x y z (mR g)).1 ∧ mR k = (opTie x y z (mR g)).2) (hr : r < 0) (hw : wfM (mR h)) : rdL (svR h a.toInt.toNat) b.toInt c.toInt (h 40 4) d.toInt.toNat 0 (mR h) = (-20 - i, trM (h 40 4) (mR k)) ∧ (h 40 4).toInt ≤ (k 40 4).toInt := by
  obtain ⟨q1, ⟨q2, q3⟩, q4⟩ := q hw
  have p := p q1
  rw [hx, hy, hz] at p
  have th := tie_th (a := tcS (svR h a.toInt.toNat) c.toInt i.toNat 0) (b := tcS (svR h a.toInt.toNat) c.toInt i.toNat 1) (c := tcS (svR h a.toInt.toNat) c.toInt i.toNat 2) (M := mR g) q1.1.2.1.1
  have e := th.2.1 (by omega)
  have ek : (k 40 4).toInt = (thM (opTie (tcS (svR h a.toInt.toNat) c.toInt i.toNat 0) (tcS (svR h a.toInt.toNat) c.toInt i.toNat 1) (tcS (svR h a.toInt.toNat) c.toInt i.toNat 2) (mR g)).2).toInt := congrArg (fun M : Mem => (thM M).toInt) p.2
  have eg : (thM (mR g)).toInt = (g 40 4).toInt := rfl
  refine ⟨?_, by omega⟩
  rw [p.2, e]
  exact rdJ_n q4 hf hi ht (by omega)
theorem rq_e {a b c d : Int32} {f i w : Int} {h g : qm_H} (q : rqI a b c d f i w h g) (hi : d.toInt ≤ i ∨ ¬ f = 0) (hw : wfM (mR h)) : rdL (svR h a.toInt.toNat) b.toInt c.toInt (h 40 4) d.toInt.toNat 0 (mR h) = (w, mR g) := by
  obtain ⟨q1, ⟨q2, q3⟩, q4⟩ := q hw
  rw [rdJ_e q4 hi, q3]
  rfl
theorem trz_of {h : qm_H} {k i : Nat} {b c : Int} (h9 : 0 ≤ (h 49 k).toInt) (w : (¬ (h 48 k).toInt = -4 ∧ (h 48 k).toInt = b) ∧ 0 ≤ c + 3 * (i : Int) ∧ c + 3 * (i : Int) + 2 < (h 49 k).toInt) : trS (svR h k) b c i := (trR h9).mpr w
theorem rq_cells {h g : qm_H} {a c l : Int32} {b : Int} (v50 : g 50 = h 50) (hz : 0 ≤ (h 49 a.toInt.toNat).toInt ∧ (h 49 a.toInt.toNat).toInt ≤ 40) (ha : 0 ≤ a.toInt ∧ a.toInt ≤ 3) (hl : 0 ≤ l.toInt ∧ l.toInt ≤ 9) (w : (¬ (h 48 a.toInt.toNat).toInt = -4 ∧ (h 48 a.toInt.toNat).toInt = b) ∧ 0 ≤ c.toInt + 3 * l.toInt ∧ c.toInt + 3 * l.toInt + 2 < (h 49 a.toInt.toNat).toInt) : trS (svR h a.toInt.toNat) b c.toInt l.toInt.toNat ∧ (g 50 (((40 * a) + c) + (3 * l)).toInt.toNat) = tcS (svR h a.toInt.toNat) c.toInt l.toInt.toNat 0 ∧ (g 50 ((((40 * a) + c) + (3 * l)) + 1).toInt.toNat) = tcS (svR h a.toInt.toNat) c.toInt l.toInt.toNat 1 ∧ (g 50 ((((40 * a) + c) + (3 * l)) + 2).toInt.toNat) = tcS (svR h a.toInt.toNat) c.toInt l.toInt.toNat 2 := by
  have ht : trS (svR h a.toInt.toNat) b c.toInt l.toInt.toNat := trz_of hz.1 ⟨w.1, by omega, by omega⟩
  have q1 := ti_mulL (40 : Int32) 40 rfl a (by omega)
  have q0 := ti_mulL (3 : Int32) 3 rfl l (by omega)
  have q2 := ti_add (40 * a) c (by omega)
  have q3 := ti_add ((40 * a) + c) (3 * l) (by omega)
  have q4 := ti_addK (((40 * a) + c) + (3 * l)) (1 : Int32) 1 rfl (by omega)
  have q5 := ti_addK (((40 * a) + c) + (3 * l)) (2 : Int32) 2 rfl (by omega)
  refine ⟨ht, ?_, ?_, ?_⟩
  · rw [tcR hz.1 ht (show 0 ≤ 2 by omega), v50, show 40 * a.toInt.toNat + ((c.toInt + 3 * ((l.toInt.toNat : Nat) : Int)).toNat + 0) = (((40 * a) + c) + (3 * l)).toInt.toNat by omega]
  · rw [tcR hz.1 ht (show 1 ≤ 2 by omega), v50, show 40 * a.toInt.toNat + ((c.toInt + 3 * ((l.toInt.toNat : Nat) : Int)).toNat + 1) = ((((40 * a) + c) + (3 * l)) + 1).toInt.toNat by omega]
  · rw [tcR hz.1 ht (show 2 ≤ 2 by omega), v50, show 40 * a.toInt.toNat + ((c.toInt + 3 * ((l.toInt.toNat : Nat) : Int)).toNat + 2) = ((((40 * a) + c) + (3 * l)) + 2).toInt.toNat by omega]
