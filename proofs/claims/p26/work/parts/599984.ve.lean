/-! ===== sheets of both sides, as one value ===== -/
noncomputable abbrev SH : Type := Int32 × Int32 × (Nat → Int32)
noncomputable def noS : SH := (-1, -4, fun _ => 0)
noncomputable def svC (h : qm_H) (k : Nat) : SH := if (h 37 k).toInt = -4 then noS else (h 36 k, h 37 k, msk (h 37 k) (fun i => h 35 (40 * k + i)))
noncomputable def svR (h : qm_H) (k : Nat) : SH := if (h 48 k).toInt = -4 then noS else (h 48 k, h 49 k, msk (h 49 k) (fun i => h 50 (40 * k + i)))
theorem svC_of {h g : qm_H} (e5 : g 35 = h 35) (e6 : g 36 = h 36) (e7 : g 37 = h 37) : svC g = svC h := by
  unfold svC
  rw [e5, e6, e7]
theorem svR_of {h g : qm_H} (e5 : g 50 = h 50) (e6 : g 48 = h 48) (e7 : g 49 = h 49) : svR g = svR h := by
  unfold svR
  rw [e5, e6, e7]
noncomputable def opSheet (a b c : Int32) (V : Nat → SH) : Nat → SH := fun k => if ((0 ≤ a.toInt ∧ a.toInt ≤ 3) ∧ (0 ≤ b.toInt ∧ b.toInt ≤ 2) ∧ 0 ≤ c.toInt ∧ c.toInt ≤ 40) ∧ (k : Int) = a.toInt then (b, c, fun _ => 0) else V k
theorem sheet_no {a b c : Int32} {V : Nat → SH} (q : ¬ ((0 ≤ a.toInt ∧ a.toInt ≤ 3) ∧ (0 ≤ b.toInt ∧ b.toInt ≤ 2) ∧ 0 ≤ c.toInt ∧ c.toInt ≤ 40)) : opSheet a b c V = V := by
  funext k
  exact if_neg (fun z => q z.1)
/-- the cells of a sheet are 0 up to n -/
noncomputable def zrQ (k : Nat) (n : Int) (f g : Nat → Int32) : Prop := (∀ i : Nat, (i : Int) < n → g (40 * k + i) = 0) ∧ ∀ j : Nat, (j < 40 * k ∨ 40 * k + 40 ≤ j) → g j = f j
theorem zr_0 {k : Nat} {n : Int} {f : Nat → Int32} (hn : n = 0) : zrQ k n f f := ⟨fun i hi => by omega, fun _ _ => rfl⟩
theorem zr_s {k : Nat} {n m : Int} {f g g2 : Nat → Int32} {ix : Nat} (h : zrQ k n f g) (hm : m = n + 1) (h0 : 0 ≤ n) (h40 : n < 40) (hx : (ix : Int) = 40 * (k : Int) + n) (e : g2 = upd g ix 0) : zrQ k m f g2 := by
  refine ⟨fun i hi => ?_, fun j hj => ?_⟩
  · rw [e]
    by_cases q : 40 * k + i = ix
    · rw [q, upd_same]
    · rw [upd_ne q]; exact h.1 i (by omega)
  · rw [e, upd_ne (by omega)]; exact h.2 j hj
theorem zr_in {k : Nat} {c : Int32} {n : Int} {f g : Nat → Int32} (z : zrQ k n f g) (hn : c.toInt ≤ n) : msk c (fun i => g (40 * k + i)) = fun _ => 0 := by
  funext i
  by_cases w : (i : Int) < c.toInt
  · rw [msk_in w]; exact z.1 i (by omega)
  · exact msk_out w
theorem zr_out {k a : Nat} {c : Int32} {n : Int} {f g : Nat → Int32} (z : zrQ a n f g) (hk : ¬ k = a) (hc : c.toInt ≤ 40) : msk c (fun i => g (40 * k + i)) = msk c (fun i => f (40 * k + i)) := msk_eq (fun j w => z.2 _ (by omega))
theorem svC_sheet {h g : qm_H} {a b c : Int32} (hs : ∀ j : Nat, (h 37 j).toInt ≤ 40) (ok : (0 ≤ a.toInt ∧ a.toInt ≤ 3) ∧ (0 ≤ b.toInt ∧ b.toInt ≤ 2) ∧ 0 ≤ c.toInt ∧ c.toInt ≤ 40) (e7 : g 37 = upd (h 37) a.toInt.toNat c) (e6 : g 36 = upd (h 36) a.toInt.toNat b) (z : zrQ a.toInt.toNat c.toInt (h 35) (g 35)) : svC g = opSheet a b c (svC h) := by
  funext k
  unfold opSheet
  by_cases q : (k : Int) = a.toInt
  · have qn : k = a.toInt.toNat := by omega
    rw [if_pos ⟨ok, q⟩]
    unfold svC
    rw [e7, e6, qn, upd_same, upd_same, if_neg (by omega), zr_in z (Int.le_refl _)]
  · have qn : ¬ k = a.toInt.toNat := by omega
    rw [if_neg (fun w => q w.2)]
    unfold svC
    rw [e7, e6, upd_ne qn, upd_ne qn, zr_out z qn (hs k)]
theorem svR_sheet {h g : qm_H} {a b c : Int32} (hs : ∀ j : Nat, (h 49 j).toInt ≤ 40) (ok : (0 ≤ a.toInt ∧ a.toInt ≤ 3) ∧ (0 ≤ b.toInt ∧ b.toInt ≤ 2) ∧ 0 ≤ c.toInt ∧ c.toInt ≤ 40) (e7 : g 49 = upd (h 49) a.toInt.toNat c) (e6 : g 48 = upd (h 48) a.toInt.toNat b) (z : zrQ a.toInt.toNat 40 (h 50) (g 50)) : svR g = opSheet a b c (svR h) := by
  funext k
  unfold opSheet
  by_cases q : (k : Int) = a.toInt
  · have qn : k = a.toInt.toNat := by omega
    rw [if_pos ⟨ok, q⟩]
    unfold svR
    rw [e7, e6, qn, upd_same, upd_same, if_neg (by omega), zr_in z (by omega)]
  · have qn : ¬ k = a.toInt.toNat := by omega
    rw [if_neg (fun w => q w.2)]
    unfold svR
    rw [e7, e6, upd_ne qn, upd_ne qn, zr_out z qn (hs k)]
/-! lay -/
noncomputable def lowb (l v : Int32) : Int32 := if l.toInt = 0 then v.toInt8.toInt32 else if l.toInt = 1 then v.toInt16.toInt32 else v
noncomputable def opLay (a b c : Int32) (V : Nat → SH) : Nat → SH := fun k => if (k : Int) = a.toInt ∧ ¬ (V k).2.1.toInt = -4 ∧ 0 ≤ b.toInt ∧ b.toInt < (V k).2.1.toInt then ((V k).1, (V k).2.1, upd (V k).2.2 b.toInt.toNat (lowb (V k).1 c)) else V k
theorem lay_x {ix a k : Nat} {b : Int} {x : Int32} {c : Int32} {f : Nat → Int32} (hc : c.toInt ≤ 40) (hb : 0 ≤ b ∧ b < 40) (hi : (ix : Int) = 40 * (a : Int) + b) (hk : ¬ k = a) : msk c (fun i => upd f ix x (40 * k + i)) = msk c (fun i => f (40 * k + i)) := msk_eq (fun j w => upd_ne (by omega))
theorem lay_y {ix a : Nat} {b : Int} {x : Int32} {c : Int32} {f : Nat → Int32} (hb : 0 ≤ b ∧ b < c.toInt) (hi : (ix : Int) = 40 * (a : Int) + b) : msk c (fun i => upd f ix x (40 * a + i)) = upd (msk c (fun i => f (40 * a + i))) b.toNat x := by
  funext j
  by_cases q : j = b.toNat
  · rw [q, upd_same, msk_in (by omega)]
    show upd f ix x (40 * a + b.toNat) = x
    rw [show 40 * a + b.toNat = ix by omega, upd_same]
  · rw [upd_ne q]
    by_cases w : (j : Int) < c.toInt
    · rw [msk_in w, msk_in w]; exact upd_ne (by omega)
    · rw [msk_out w, msk_out w]
theorem svC_lay {h g : qm_H} {a b c : Int32} {ix : Nat} (hs : ∀ j : Nat, (h 37 j).toInt ≤ 40) (ha : 0 ≤ a.toInt ∧ a.toInt ≤ 3) (h4 : ¬ (h 37 a.toInt.toNat).toInt = -4) (hb : 0 ≤ b.toInt ∧ b.toInt < (h 37 a.toInt.toNat).toInt) (hi : (ix : Int) = 40 * a.toInt + b.toInt) (e7 : g 37 = h 37) (e6 : g 36 = h 36) (e5 : g 35 = upd (h 35) ix (lowb (h 36 a.toInt.toNat) c)) : svC g = opLay a b c (svC h) := by
  funext k
  have hsa := hs a.toInt.toNat
  by_cases q : (k : Int) = a.toInt
  · have qn : k = a.toInt.toNat := by omega
    have e : svC h k = (h 36 k, h 37 k, msk (h 37 k) (fun i => h 35 (40 * k + i))) := if_neg (by rw [qn]; exact h4)
    unfold opLay
    rw [e, if_pos ⟨q, by rw [qn]; exact h4, by rw [qn]; exact hb⟩]
    unfold svC
    rw [e7, e6, e5, if_neg (by rw [qn]; exact h4), qn, lay_y hb (by omega)]
  · have qn : ¬ k = a.toInt.toNat := by omega
    unfold opLay
    rw [if_neg (fun w => q w.1)]
    unfold svC
    rw [e7, e6, e5, lay_x (hs k) (by omega) (b := b.toInt) (a := a.toInt.toNat) (by omega) qn]
theorem svR_lay {h g : qm_H} {a b c : Int32} {ix : Nat} (hs : ∀ j : Nat, (h 49 j).toInt ≤ 40) (ha : 0 ≤ a.toInt ∧ a.toInt ≤ 3) (h4 : ¬ (h 48 a.toInt.toNat).toInt = -4) (h44 : ¬ (h 49 a.toInt.toNat).toInt = -4) (hb : 0 ≤ b.toInt ∧ b.toInt < (h 49 a.toInt.toNat).toInt) (hi : (ix : Int) = 40 * a.toInt + b.toInt) (e7 : g 49 = h 49) (e6 : g 48 = h 48) (e5 : g 50 = upd (h 50) ix (lowb (h 48 a.toInt.toNat) c)) : svR g = opLay a b c (svR h) := by
  funext k
  have hsa := hs a.toInt.toNat
  by_cases q : (k : Int) = a.toInt
  · have qn : k = a.toInt.toNat := by omega
    have e : svR h k = (h 48 k, h 49 k, msk (h 49 k) (fun i => h 50 (40 * k + i))) := if_neg (by rw [qn]; exact h4)
    unfold opLay
    rw [e, if_pos ⟨q, by rw [qn]; exact h44, by rw [qn]; exact hb⟩]
    unfold svR
    rw [e7, e6, e5, if_neg (by rw [qn]; exact h4), qn, lay_y hb (by omega)]
  · have qn : ¬ k = a.toInt.toNat := by omega
    unfold opLay
    rw [if_neg (fun w => q w.1)]
    unfold svR
    rw [e7, e6, e5, lay_x (hs k) (by omega) (b := b.toInt) (a := a.toInt.toNat) (by omega) qn]
theorem layC_no {h : qm_H} {a b c : Int32} (q : ¬ (0 ≤ a.toInt ∧ a.toInt ≤ 3) ∨ (h 37 a.toInt.toNat).toInt = -4 ∨ b.toInt < 0 ∨ (h 37 a.toInt.toNat).toInt ≤ b.toInt) : ∀ k : Nat, k < 4 → svC h k = opLay a b c (svC h) k := fun k hk => by
  unfold opLay
  by_cases w : (k : Int) = a.toInt ∧ ¬ (svC h k).2.1.toInt = -4 ∧ 0 ≤ b.toInt ∧ b.toInt < (svC h k).2.1.toInt
  · exfalso
    have qn : k = a.toInt.toNat := by omega
    rw [qn] at w
    by_cases z : (h 37 a.toInt.toNat).toInt = -4
    · have e : svC h a.toInt.toNat = noS := if_pos z
      rw [e] at w
      exact w.2.1 (by decide)
    · have e : svC h a.toInt.toNat = (h 36 a.toInt.toNat, h 37 a.toInt.toNat, msk (h 37 a.toInt.toNat) (fun i => h 35 (40 * a.toInt.toNat + i))) := if_neg z
      rw [e] at w
      have w3 : b.toInt < (h 37 a.toInt.toNat).toInt := w.2.2.2
      have w2 := w.2.2.1
      omega
  · rw [if_neg w]
theorem layR_no {h : qm_H} {a b c : Int32} (q : ¬ (0 ≤ a.toInt ∧ a.toInt ≤ 3) ∨ (h 48 a.toInt.toNat).toInt = -4 ∨ b.toInt < 0 ∨ (h 49 a.toInt.toNat).toInt ≤ b.toInt) : ∀ k : Nat, k < 4 → svR h k = opLay a b c (svR h) k := fun k hk => by
  unfold opLay
  by_cases w : (k : Int) = a.toInt ∧ ¬ (svR h k).2.1.toInt = -4 ∧ 0 ≤ b.toInt ∧ b.toInt < (svR h k).2.1.toInt
  · exfalso
    have qn : k = a.toInt.toNat := by omega
    rw [qn] at w
    by_cases z : (h 48 a.toInt.toNat).toInt = -4
    · have e : svR h a.toInt.toNat = noS := if_pos z
      rw [e] at w
      exact w.2.1 (by decide)
    · have e : svR h a.toInt.toNat = (h 48 a.toInt.toNat, h 49 a.toInt.toNat, msk (h 49 a.toInt.toNat) (fun i => h 50 (40 * a.toInt.toNat + i))) := if_neg z
      rw [e] at w
      have w3 : b.toInt < (h 49 a.toInt.toNat).toInt := w.2.2.2
      have w2 := w.2.2.1
      omega
  · rw [if_neg w]
/-! read -/
noncomputable def trM (T : Int32) (M : Mem) : Mem := mkM (clM M) T (dyM M) (snM M) (kdM M) (plM M) (paM M) (knM M) (spM M) (ssM M)
noncomputable def trS (S : SH) (b c : Int) (i : Nat) : Prop := (¬ S.2.1.toInt = -4 ∧ S.1.toInt = b) ∧ 0 ≤ c + 3 * (i : Int) ∧ c + 3 * (i : Int) + 2 < S.2.1.toInt
noncomputable def tcS (S : SH) (c : Int) (i j : Nat) : Int32 := S.2.2 ((c + 3 * (i : Int)).toNat + j)
noncomputable def rdL (S : SH) (b c : Int) (T : Int32) : Nat → Nat → Mem → Int × Mem
  | 0, _, M => ((thM M).toInt - T.toInt, M)
  | n + 1, i, M => @ite _ (trS S b c i) (Classical.propDecidable _) (if (opTie (tcS S c i 0) (tcS S c i 1) (tcS S c i 2) M).1 < 0 then (-20 - (i : Int), trM T M) else rdL S b c T n (i + 1) (opTie (tcS S c i 0) (tcS S c i 1) (tcS S c i 2) M).2) ((thM M).toInt - T.toInt, M)
theorem rdL_stop {S : SH} {b c : Int} {T : Int32} {n i : Nat} {M : Mem} (h : n = 0 ∨ ¬ trS S b c i) : rdL S b c T n i M = ((thM M).toInt - T.toInt, M) := by
  cases n with
  | zero => rfl
  | succ n =>
    unfold rdL
    rw [if_neg (h.resolve_left (by omega))]
theorem rdL_bad {S : SH} {b c : Int} {T : Int32} {n i : Nat} {M : Mem} (hn : 0 < n) (h : trS S b c i) (q : (opTie (tcS S c i 0) (tcS S c i 1) (tcS S c i 2) M).1 < 0) : rdL S b c T n i M = (-20 - (i : Int), trM T M) := by
  cases n with
  | zero => omega
  | succ n =>
    unfold rdL
    rw [if_pos h, if_pos q]
theorem rdL_go {S : SH} {b c : Int} {T : Int32} {n i : Nat} {M : Mem} (hn : 0 < n) (h : trS S b c i) (q : ¬ (opTie (tcS S c i 0) (tcS S c i 1) (tcS S c i 2) M).1 < 0) : rdL S b c T n i M = rdL S b c T (n - 1) (i + 1) (opTie (tcS S c i 0) (tcS S c i 1) (tcS S c i 2) M).2 := by
  cases n with
  | zero => omega
  | succ n =>
    conv => lhs; unfold rdL
    rw [if_pos h, if_neg q]
    rfl
noncomputable def opRead (a b c d : Int32) (V : Nat → SH) (M : Mem) : Int × Mem := if ¬ ((0 ≤ a.toInt ∧ a.toInt ≤ 3) ∧ (0 ≤ b.toInt ∧ b.toInt ≤ 2) ∧ 0 ≤ d.toInt ∧ d.toInt ≤ 10) then (-1, M) else rdL (V a.toInt.toNat) b.toInt c.toInt (thM M) d.toInt.toNat 0 M
theorem read_bad {a b c d : Int32} {V : Nat → SH} {M : Mem} (q : ¬ ((0 ≤ a.toInt ∧ a.toInt ≤ 3) ∧ (0 ≤ b.toInt ∧ b.toInt ≤ 2) ∧ 0 ≤ d.toInt ∧ d.toInt ≤ 10)) : opRead a b c d V M = (-1, M) := if_pos q
theorem read_ok {a b c d : Int32} {V : Nat → SH} {M : Mem} (q : (0 ≤ a.toInt ∧ a.toInt ≤ 3) ∧ (0 ≤ b.toInt ∧ b.toInt ≤ 2) ∧ 0 ≤ d.toInt ∧ d.toInt ≤ 10) : opRead a b c d V M = rdL (V a.toInt.toNat) b.toInt c.toInt (thM M) d.toInt.toNat 0 M := if_neg (fun z => z q)
theorem tie_th {a b c : Int32} {M : Mem} (h : 0 ≤ (thM M).toInt) : (thM M).toInt ≤ (thM (opTie a b c M).2).toInt ∧ ((opTie a b c M).1 < 0 → (opTie a b c M).2 = M) ∧ (¬ (opTie a b c M).1 < 0 → (thM (opTie a b c M).2).toInt = (thM M).toInt + 1 ∧ (thM M).toInt < 10) := by
  unfold opTie
  split
  · exact ⟨Int.le_refl _, fun _ => rfl, fun q => absurd (by decide : (-1 : Int) < 0) q⟩
  · split
    · exact ⟨Int.le_refl _, fun _ => rfl, fun q => absurd (by decide : (-3 : Int) < 0) q⟩
    · rename_i q
      have q2 : ¬ 10 ≤ (thM M).toInt := fun z => q (Or.inr z)
      have e := ti_addK (thM M) (1 : Int32) 1 rfl (by omega)
      have e2 : (thM (wTie M a b c)).toInt = (thM M + 1).toInt := rfl
      refine ⟨?_, fun w => ?_, fun _ => ⟨?_, by omega⟩⟩
      · show (thM M).toInt ≤ (thM (wTie M a b c)).toInt
        omega
      · exact absurd (show (thM M).toInt < 0 from w) (by omega)
      · show (thM (wTie M a b c)).toInt = (thM M).toInt + 1
        omega
theorem wf_tr {T : Int32} {M : Mem} (h : wfM M) (hT : 0 ≤ T.toInt ∧ T.toInt ≤ (thM M).toInt) : wfM (trM T M) := by
  obtain ⟨⟨h1, h2, h3, h4⟩, h5, h6, h7⟩ := h
  exact wf_mk ⟨h1, by omega, h3, h4⟩ h5 (fun j w => h6 j (by omega)) h7
theorem wf_rdL {S : SH} {b c : Int} {T : Int32} (hT : 0 ≤ T.toInt) : ∀ {n i : Nat} {M : Mem}, wfM M → T.toInt ≤ (thM M).toInt → wfM (rdL S b c T n i M).2
  | 0, _, _, h, _ => h
  | n + 1, i, M, h, ht => by
    have th := tie_th (a := tcS S c i 0) (b := tcS S c i 1) (c := tcS S c i 2) (M := M) h.1.2.1.1
    unfold rdL
    split
    · split
      · exact wf_tr h ⟨hT, ht⟩
      · exact wf_rdL hT (wf_tie h) (by omega)
    · exact h
theorem wf_read {a b c d : Int32} {V : Nat → SH} {M : Mem} (h : wfM M) : wfM (opRead a b c d V M).2 := by
  unfold opRead
  split
  · exact h
  · exact wf_rdL h.1.2.1.1 h (Int.le_refl _)
theorem ti_wrap (c x : Int32) (hx : 0 ≤ x.toInt ∧ x.toInt ≤ 100) : (c + x).toInt = c.toInt + x.toInt ∨ (2147483647 < c.toInt + x.toInt ∧ (c + x).toInt < -2147483000) := by
  have h1 := ti_rng c
  have e : (c + x).toInt = (c.toInt + x.toInt).bmod 4294967296 := Int32.toInt_add c x
  rw [e]
  by_cases q : c.toInt + x.toInt ≤ 2147483647
  · left
    unfold Int.bmod
    dsimp only
    split <;> omega
  · right
    refine ⟨by omega, ?_⟩
    unfold Int.bmod
    dsimp only
    split <;> omega
