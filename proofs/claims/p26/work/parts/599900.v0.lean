/-! ===== the Memory of both sides, as one value ===== -/
noncomputable abbrev Mem : Type := Int32 × Int32 × Int32 × Int32 × (Nat → Int32) × (Nat → Int32) × (Nat → Int32) × (Nat → Int32) × (Nat → Int32) × (Nat → Int32)
noncomputable def msk (n : Int32) (f : Nat → Int32) : Nat → Int32 := fun j => if (j : Int) < n.toInt then f j else 0
theorem msk_in {n : Int32} {f : Nat → Int32} {j : Nat} (h : (j : Int) < n.toInt) : msk n f j = f j := if_pos h
theorem msk_out {n : Int32} {f : Nat → Int32} {j : Nat} (h : ¬ (j : Int) < n.toInt) : msk n f j = 0 := if_neg h
theorem msk_eq {n : Int32} {f g : Nat → Int32} (h : ∀ j : Nat, (j : Int) < n.toInt → f j = g j) : msk n f = msk n g := by
  funext j
  by_cases q : (j : Int) < n.toInt
  · rw [msk_in q, msk_in q, h j q]
  · rw [msk_out q, msk_out q]
noncomputable def mkM (cl th dy sn : Int32) (kd pl pa kn sp ss : Nat → Int32) : Mem := (cl, th, dy, sn, msk cl kd, msk th pl, msk th pa, msk th kn, msk sn sp, msk sn ss)
noncomputable abbrev clM (M : Mem) : Int32 := M.1
noncomputable abbrev thM (M : Mem) : Int32 := M.2.1
noncomputable abbrev dyM (M : Mem) : Int32 := M.2.2.1
noncomputable abbrev snM (M : Mem) : Int32 := M.2.2.2.1
noncomputable abbrev kdM (M : Mem) : Nat → Int32 := M.2.2.2.2.1
noncomputable abbrev plM (M : Mem) : Nat → Int32 := M.2.2.2.2.2.1
noncomputable abbrev paM (M : Mem) : Nat → Int32 := M.2.2.2.2.2.2.1
noncomputable abbrev knM (M : Mem) : Nat → Int32 := M.2.2.2.2.2.2.2.1
noncomputable abbrev spM (M : Mem) : Nat → Int32 := M.2.2.2.2.2.2.2.2.1
noncomputable abbrev ssM (M : Mem) : Nat → Int32 := M.2.2.2.2.2.2.2.2.2
theorem mkM_eq {cl th dy sn : Int32} {kd pl pa kn sp ss kd2 pl2 pa2 kn2 sp2 ss2 : Nat → Int32} (h1 : ∀ j : Nat, (j : Int) < cl.toInt → kd j = kd2 j) (h2 : ∀ j : Nat, (j : Int) < th.toInt → pl j = pl2 j ∧ pa j = pa2 j ∧ kn j = kn2 j) (h3 : ∀ j : Nat, (j : Int) < sn.toInt → sp j = sp2 j ∧ ss j = ss2 j) : mkM cl th dy sn kd pl pa kn sp ss = mkM cl th dy sn kd2 pl2 pa2 kn2 sp2 ss2 := by
  unfold mkM
  rw [msk_eq h1, msk_eq (fun j q => (h2 j q).1), msk_eq (fun j q => (h2 j q).2.1), msk_eq (fun j q => (h2 j q).2.2), msk_eq (fun j q => (h3 j q).1), msk_eq (fun j q => (h3 j q).2)]
/-- a Memory made of a Memory's own rows -/
theorem mkM_self {cl th dy sn : Int32} {kd pl pa kn sp ss : Nat → Int32} : mkM cl th dy sn (msk cl kd) (msk th pl) (msk th pa) (msk th kn) (msk sn sp) (msk sn ss) = mkM cl th dy sn kd pl pa kn sp ss := mkM_eq (fun j q => msk_in q) (fun j q => ⟨msk_in q, msk_in q, msk_in q⟩) (fun j q => ⟨msk_in q, msk_in q⟩)
/-- the class's Memories -/
noncomputable def mC (h : qm_H) : Mem := mkM (h 1 6) (h 1 7) (h 1 8) (h 1 9) (h 2) (h 3) (h 4) (h 5) (h 6) (h 7)
noncomputable def mC8 (h : qm_H) : Mem := mkM (h 8 6) (h 8 7) (h 8 8) (h 8 9) (h 9) (h 10) (h 11) (h 12) (h 13) (h 14)
noncomputable def mC15 (h : qm_H) : Mem := mkM (h 15 6) (h 15 7) (h 15 8) (h 15 9) (h 16) (h 17) (h 18) (h 19) (h 20) (h 21)
noncomputable def mCt (h : qm_H) : Mem := mkM (h 25 6) (h 25 7) (h 25 8) (h 25 9) (h 26) (h 27) (h 28) (h 29) (h 30) (h 31)
/-- the reference's rows -/
noncomputable def mG (c : Int32) (f : Nat → Int32) : Mem := mkM c (f 4) (f 5) (f 36) f (fun t => f (6 + 3 * t)) (fun t => f (7 + 3 * t)) (fun t => f (8 + 3 * t)) (fun i => f (37 + 2 * i)) (fun i => f (38 + 2 * i))
noncomputable def mR (h : qm_H) : Mem := mG (h 39 3) (h 40)
noncomputable def mR49 (h : qm_H) : Mem := mG (h 39 3) (fun j => h 40 (49 + j))
noncomputable def mR98 (h : qm_H) : Mem := mG (h 39 3) (fun j => h 40 (98 + j))
theorem mG_eq {c : Int32} {f g : Nat → Int32} (hc : c.toInt ≤ 4) (ht : (f 4).toInt ≤ 10) (hs : (f 36).toInt ≤ 6) (e : ∀ j : Nat, j < 49 → g j = f j) : mG c g = mG c f := by
  unfold mG
  rw [e 4 (by omega), e 5 (by omega), e 36 (by omega)]
  exact mkM_eq (fun j q => e j (by omega)) (fun j q => ⟨e _ (by omega), e _ (by omega), e _ (by omega)⟩) (fun j q => ⟨e _ (by omega), e _ (by omega)⟩)
theorem mC_of {h g : qm_H} (e : ∀ k : Nat, 1 ≤ k → k ≤ 7 → g k = h k) : mC g = mC h := by
  unfold mC
  rw [e 1 (by omega) (by omega), e 2 (by omega) (by omega), e 3 (by omega) (by omega), e 4 (by omega) (by omega), e 5 (by omega) (by omega), e 6 (by omega) (by omega), e 7 (by omega) (by omega)]
theorem mC8_of {h g : qm_H} (e : ∀ k : Nat, 8 ≤ k → k ≤ 14 → g k = h k) : mC8 g = mC8 h := by
  unfold mC8
  rw [e 8 (by omega) (by omega), e 9 (by omega) (by omega), e 10 (by omega) (by omega), e 11 (by omega) (by omega), e 12 (by omega) (by omega), e 13 (by omega) (by omega), e 14 (by omega) (by omega)]
theorem mC15_of {h g : qm_H} (e : ∀ k : Nat, 15 ≤ k → k ≤ 21 → g k = h k) : mC15 g = mC15 h := by
  unfold mC15
  rw [e 15 (by omega) (by omega), e 16 (by omega) (by omega), e 17 (by omega) (by omega), e 18 (by omega) (by omega), e 19 (by omega) (by omega), e 20 (by omega) (by omega), e 21 (by omega) (by omega)]
theorem mR_of {h g : qm_H} (e3 : g 39 3 = h 39 3) (e : g 40 = h 40) : mR g = mR h := by
  unfold mR
  rw [e3, e]
theorem mR49_of {h g : qm_H} (e3 : g 39 3 = h 39 3) (e : ∀ j : Nat, 49 ≤ j → g 40 j = h 40 j) : mR49 g = mR49 h := by
  unfold mR49
  rw [e3, show (fun j => g 40 (49 + j)) = fun j => h 40 (49 + j) from funext fun j => e _ (by omega)]
theorem mR98_of {h g : qm_H} (e3 : g 39 3 = h 39 3) (e : ∀ j : Nat, 49 ≤ j → g 40 j = h 40 j) : mR98 g = mR98 h := by
  unfold mR98
  rw [e3, show (fun j => g 40 (98 + j)) = fun j => h 40 (98 + j) from funext fun j => e _ (by omega)]
/-! what a Memory keeps to -/
noncomputable abbrev okPl (c a : Int) : Prop := 0 ≤ a ∧ a / 10 < c ∧ a % 10 < 5
noncomputable abbrev okPr (c a : Int) : Prop := 0 ≤ a ∧ a / 10 < c ∧ a % 10 < c ∧ ¬ a / 10 = a % 10
noncomputable def wfM (M : Mem) : Prop := ((0 ≤ (clM M).toInt ∧ (clM M).toInt ≤ 4) ∧ (0 ≤ (thM M).toInt ∧ (thM M).toInt ≤ 10) ∧ (0 ≤ (snM M).toInt ∧ (snM M).toInt ≤ 6) ∧ (0 ≤ (dyM M).toInt ∧ (dyM M).toInt ≤ 9)) ∧ (∀ j : Nat, (j : Int) < (clM M).toInt → 0 ≤ (kdM M j).toInt ∧ (kdM M j).toInt ≤ 3) ∧ (∀ j : Nat, (j : Int) < (thM M).toInt → okPl (clM M).toInt (plM M j).toInt ∧ okPr (clM M).toInt (paM M j).toInt ∧ (10 ≤ (knM M j).toInt ∧ (knM M j).toInt ≤ 99)) ∧ (∀ j : Nat, (j : Int) < (snM M).toInt → okPr (clM M).toInt (spM M j).toInt ∧ (0 ≤ (ssM M j).toInt ∧ (ssM M j).toInt ≤ 99))
theorem wf_mk {cl th dy sn : Int32} {kd pl pa kn sp ss : Nat → Int32} (a : (0 ≤ cl.toInt ∧ cl.toInt ≤ 4) ∧ (0 ≤ th.toInt ∧ th.toInt ≤ 10) ∧ (0 ≤ sn.toInt ∧ sn.toInt ≤ 6) ∧ (0 ≤ dy.toInt ∧ dy.toInt ≤ 9)) (b : ∀ j : Nat, (j : Int) < cl.toInt → 0 ≤ (kd j).toInt ∧ (kd j).toInt ≤ 3) (c : ∀ j : Nat, (j : Int) < th.toInt → okPl cl.toInt (pl j).toInt ∧ okPr cl.toInt (pa j).toInt ∧ (10 ≤ (kn j).toInt ∧ (kn j).toInt ≤ 99)) (d : ∀ j : Nat, (j : Int) < sn.toInt → okPr cl.toInt (sp j).toInt ∧ (0 ≤ (ss j).toInt ∧ (ss j).toInt ≤ 99)) : wfM (mkM cl th dy sn kd pl pa kn sp ss) := by
  refine ⟨a, fun j (q : (j : Int) < cl.toInt) => ?_, fun j (q : (j : Int) < th.toInt) => ?_, fun j (q : (j : Int) < sn.toInt) => ?_⟩
  · show 0 ≤ (msk cl kd j).toInt ∧ (msk cl kd j).toInt ≤ 3
    rw [msk_in q]; exact b j q
  · show okPl cl.toInt (msk th pl j).toInt ∧ okPr cl.toInt (msk th pa j).toInt ∧ (10 ≤ (msk th kn j).toInt ∧ (msk th kn j).toInt ≤ 99)
    rw [msk_in q, msk_in q, msk_in q]; exact c j q
  · show okPr cl.toInt (msk sn sp j).toInt ∧ (0 ≤ (msk sn ss j).toInt ∧ (msk sn ss j).toInt ≤ 99)
    rw [msk_in q, msk_in q]; exact d j q
/-- what wfM says of the raw rows -/
theorem wf_raw {cl th dy sn : Int32} {kd pl pa kn sp ss : Nat → Int32} (h : wfM (mkM cl th dy sn kd pl pa kn sp ss)) : ((0 ≤ cl.toInt ∧ cl.toInt ≤ 4) ∧ (0 ≤ th.toInt ∧ th.toInt ≤ 10) ∧ (0 ≤ sn.toInt ∧ sn.toInt ≤ 6) ∧ (0 ≤ dy.toInt ∧ dy.toInt ≤ 9)) ∧ (∀ j : Nat, (j : Int) < cl.toInt → 0 ≤ (kd j).toInt ∧ (kd j).toInt ≤ 3) ∧ (∀ j : Nat, (j : Int) < th.toInt → okPl cl.toInt (pl j).toInt ∧ okPr cl.toInt (pa j).toInt ∧ (10 ≤ (kn j).toInt ∧ (kn j).toInt ≤ 99)) ∧ (∀ j : Nat, (j : Int) < sn.toInt → okPr cl.toInt (sp j).toInt ∧ (0 ≤ (ss j).toInt ∧ (ss j).toInt ≤ 99)) := by
  refine ⟨h.1, fun j q => ?_, fun j q => ?_, fun j q => ?_⟩
  · have := h.2.1 j q
    have e : kdM (mkM cl th dy sn kd pl pa kn sp ss) j = kd j := msk_in q
    rw [e] at this; exact this
  · have := h.2.2.1 j q
    have e1 : plM (mkM cl th dy sn kd pl pa kn sp ss) j = pl j := msk_in q
    have e2 : paM (mkM cl th dy sn kd pl pa kn sp ss) j = pa j := msk_in q
    have e3 : knM (mkM cl th dy sn kd pl pa kn sp ss) j = kn j := msk_in q
    rw [e1, e2, e3] at this; exact this
  · have := h.2.2.2 j q
    have e1 : spM (mkM cl th dy sn kd pl pa kn sp ss) j = sp j := msk_in q
    have e2 : ssM (mkM cl th dy sn kd pl pa kn sp ss) j = ss j := msk_in q
    rw [e1, e2] at this; exact this
theorem cntR_eq {f g : Nat → Int32} {x : Int} : ∀ {n : Nat}, (∀ j : Nat, j < n → f j = g j) → cntR f n x = cntR g n x
  | 0, _ => rfl
  | n + 1, h => by
    show cntR f n x + (if (f n).toInt = x then 1 else 0) = cntR g n x + (if (g n).toInt = x then 1 else 0)
    rw [cntR_eq (fun j q => h j (by omega)), h n (by omega)]
theorem cntR_msk {n : Int32} {f : Nat → Int32} {x : Int} : cntR (msk n f) n.toInt.toNat x = cntR f n.toInt.toNat x := cntR_eq (fun j q => msk_in (by omega))
theorem cntD_R {f : Nat → Int32} {x : Int} : ∀ {n : Nat}, cntD f n x = cntR (fun t => f (6 + 3 * t)) n x
  | 0 => rfl
  | n + 1 => by
    show cntD f n x + (if (f (6 + 3 * n)).toInt = x then 1 else 0) = cntR (fun t => f (6 + 3 * t)) n x + (if (f (6 + 3 * n)).toInt = x then 1 else 0)
    rw [cntD_R]
theorem rmF_C {k f : Int} (hk : 0 ≤ k ∧ k ≤ 3) (hf : 0 ≤ f ∧ f ≤ 4) : rmF k f = rmC k f := by
  unfold rmC
  rw [if_pos ⟨hk, hf⟩]
/-- ROOM of a PLACE, THREADS at it -/
noncomputable def rmM (M : Mem) (x : Int) : Int := rmC (kdM M (x / 10).toNat).toInt (x % 10)
noncomputable def cnM (M : Mem) (x : Int) : Int := cntR (plM M) (thM M).toInt.toNat x
theorem rmM_mk {cl th dy sn : Int32} {kd pl pa kn sp ss : Nat → Int32} {x : Int} (h : 0 ≤ x ∧ x / 10 < cl.toInt) : rmM (mkM cl th dy sn kd pl pa kn sp ss) x = rmC (kd (x / 10).toNat).toInt (x % 10) := by
  show rmC (msk cl kd (x / 10).toNat).toInt (x % 10) = _
  rw [msk_in (by omega)]
theorem cnM_mk {cl th dy sn : Int32} {kd pl pa kn sp ss : Nat → Int32} {x : Int} : cnM (mkM cl th dy sn kd pl pa kn sp ss) x = cntR pl th.toInt.toNat x := cntR_msk
theorem upd_same {f : Nat → Int32} {i : Nat} {x : Int32} : upd f i x i = x := if_pos rfl
theorem upd_ne {f : Nat → Int32} {i j : Nat} {x : Int32} (h : ¬ j = i) : upd f i x j = f j := if_neg h
theorem upd_2 {f g : Nat → Int32} {i j : Nat} {x : Int32} (h : f j = g j) : upd f i x j = upd g i x j := by
  by_cases q : j = i
  · rw [q, upd_same, upd_same]
  · rw [upd_ne q, upd_ne q, h]
theorem bool_i {r : Int32} (h : r = 0 ∨ r = 1) : r.toInt = 0 ∨ r.toInt = 1 := by
  obtain q | q := h
  · exact Or.inl (by rw [q]; rfl)
  · exact Or.inr (by rw [q]; rfl)
/-! a Memory becomes another -/
theorem mk_cpy {cl th dy sn : Int32} {kd pl pa kn sp ss kd2 pl2 pa2 kn2 sp2 ss2 : Nat → Int32} (hc : cl.toInt ≤ 4) (ht : th.toInt ≤ 10) (hs : sn.toInt ≤ 6) : mkM cl th dy sn (va_cpy kd kd2 0 0 4) (va_cpy pl pl2 0 0 10) (va_cpy pa pa2 0 0 10) (va_cpy kn kn2 0 0 10) (va_cpy sp sp2 0 0 6) (va_cpy ss ss2 0 0 6) = mkM cl th dy sn kd pl pa kn sp ss :=
  mkM_eq (fun j w => sb_cpy0 (by omega)) (fun j w => ⟨sb_cpy0 (by omega), sb_cpy0 (by omega), sb_cpy0 (by omega)⟩) (fun j w => ⟨sb_cpy0 (by omega), sb_cpy0 (by omega)⟩)
