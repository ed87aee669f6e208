/-! ===== what the calls make of a Memory ===== -/
theorem nI_is {n : Nat} {x : Int32} (hn : n < 2147483648) (h : x.toInt = (n : Int)) : x = nI n := Int32.toInt_inj.mp (by rw [nI_toInt hn]; exact h)
theorem upd_msk {n : Int32} {f : Nat → Int32} {x : Int32} {j : Nat} (hn : 0 ≤ n.toInt) (hj : (j : Int) < n.toInt + 1) : upd (msk n f) n.toInt.toNat x j = upd f n.toInt.toNat x j := by
  by_cases q : j = n.toInt.toNat
  · rw [q, upd_same, upd_same]
  · rw [upd_ne q, upd_ne q, msk_in (by omega)]
/-! tie -/
noncomputable def wTie (M : Mem) (a b c : Int32) : Mem := mkM (clM M) (thM M + 1) (dyM M) (snM M) (kdM M) (upd (plM M) (thM M).toInt.toNat a) (upd (paM M) (thM M).toInt.toNat b) (upd (knM M) (thM M).toInt.toNat c) (spM M) (ssM M)
noncomputable def opTie (a b c : Int32) (M : Mem) : Int × Mem := if ¬ (okPl (clM M).toInt a.toInt ∧ okPr (clM M).toInt b.toInt ∧ 10 ≤ c.toInt ∧ c.toInt ≤ 99) then (-1, M) else if rmM M a.toInt ≤ cnM M a.toInt ∨ 10 ≤ (thM M).toInt then (-3, M) else ((thM M).toInt, wTie M a b c)
theorem tie_bad {a b c cl th dy sn : Int32} {kd pl pa kn sp ss : Nat → Int32} (q : ¬ ((0 ≤ a.toInt ∧ a.toInt / 10 < cl.toInt ∧ a.toInt % 10 < 5) ∧ (0 ≤ b.toInt ∧ b.toInt / 10 < cl.toInt ∧ b.toInt % 10 < cl.toInt ∧ ¬ b.toInt / 10 = b.toInt % 10) ∧ 10 ≤ c.toInt ∧ c.toInt ≤ 99)) : opTie a b c (mkM cl th dy sn kd pl pa kn sp ss) = (-1, mkM cl th dy sn kd pl pa kn sp ss) := if_pos q
theorem tie_full {a b c cl th dy sn : Int32} {kd pl pa kn sp ss : Nat → Int32} (p : (0 ≤ a.toInt ∧ a.toInt / 10 < cl.toInt ∧ a.toInt % 10 < 5) ∧ (0 ≤ b.toInt ∧ b.toInt / 10 < cl.toInt ∧ b.toInt % 10 < cl.toInt ∧ ¬ b.toInt / 10 = b.toInt % 10) ∧ 10 ≤ c.toInt ∧ c.toInt ≤ 99) (q : rmC (kd (a.toInt / 10).toNat).toInt (a.toInt % 10) ≤ cntR pl th.toInt.toNat a.toInt ∨ 10 ≤ th.toInt) : opTie a b c (mkM cl th dy sn kd pl pa kn sp ss) = (-3, mkM cl th dy sn kd pl pa kn sp ss) := by
  unfold opTie
  rw [if_neg (fun z => z p), if_pos ?_]
  rw [rmM_mk ⟨p.1.1, p.1.2.1⟩, cnM_mk]
  exact q
theorem tie_ok {a b c cl th dy sn : Int32} {kd pl pa kn sp ss : Nat → Int32} (p : (0 ≤ a.toInt ∧ a.toInt / 10 < cl.toInt ∧ a.toInt % 10 < 5) ∧ (0 ≤ b.toInt ∧ b.toInt / 10 < cl.toInt ∧ b.toInt % 10 < cl.toInt ∧ ¬ b.toInt / 10 = b.toInt % 10) ∧ 10 ≤ c.toInt ∧ c.toInt ≤ 99) (q : ¬ rmC (kd (a.toInt / 10).toNat).toInt (a.toInt % 10) ≤ cntR pl th.toInt.toNat a.toInt) (q2 : ¬ 10 ≤ th.toInt) (h0 : 0 ≤ th.toInt) : opTie a b c (mkM cl th dy sn kd pl pa kn sp ss) = (th.toInt, mkM cl (th + 1) dy sn kd (upd pl th.toInt.toNat a) (upd pa th.toInt.toNat b) (upd kn th.toInt.toNat c) sp ss) := by
  unfold opTie
  rw [if_neg (fun z => z p), if_neg ?_]
  · show (th.toInt, mkM cl (th + 1) dy sn (msk cl kd) (upd (msk th pl) th.toInt.toNat a) (upd (msk th pa) th.toInt.toNat b) (upd (msk th kn) th.toInt.toNat c) (msk sn sp) (msk sn ss)) = _
    have e := ti_addK th (1 : Int32) 1 rfl (by omega)
    rw [mkM_eq (fun j w => msk_in w) (fun j w => ⟨upd_msk h0 (by omega), upd_msk h0 (by omega), upd_msk h0 (by omega)⟩) (fun j w => ⟨msk_in w, msk_in w⟩)]
  · rw [rmM_mk ⟨p.1.1, p.1.2.1⟩, cnM_mk]
    exact fun z => z.elim q q2
theorem wf_tie {a b c : Int32} {M : Mem} (h : wfM M) : wfM (opTie a b c M).2 := by
  unfold opTie
  split
  · exact h
  · rename_i p
    have p := Decidable.not_not.mp p
    split
    · exact h
    · rename_i q
      obtain ⟨⟨h1, h2, h3, h4⟩, h5, h6, h7⟩ := h
      have q2 : ¬ 10 ≤ (thM M).toInt := fun z => q (Or.inr z)
      have e := ti_addK (thM M) (1 : Int32) 1 rfl (by omega)
      refine wf_mk ⟨h1, by omega, h3, h4⟩ h5 (fun j w => ?_) h7
      by_cases z : j = (thM M).toInt.toNat
      · rw [z, upd_same, upd_same, upd_same]; exact p
      · rw [upd_ne z, upd_ne z, upd_ne z]; exact h6 j (by omega)
theorem tie_r {x y : Int32} (e : x = y + 1) (h : 0 ≤ y.toInt ∧ y.toInt < 10) : (x - 1).toInt = y.toInt := by
  have a := ti_addK y (1 : Int32) 1 rfl (by omega)
  have b := ti_subK x (1 : Int32) 1 rfl (by rw [e]; omega)
  rw [b, e]; omega
theorem see_r {x y : Int32} (e : x = y + 1) (h : 0 ≤ y.toInt) (h2 : y.toInt < 6) : x.toInt = y.toInt + 1 := by
  have a := ti_addK y (1 : Int32) 1 rfl (by omega)
  rw [e]; exact a
/-! move -/
noncomputable def opMove (a b : Int32) (M : Mem) : Int × Mem := if ¬ ((0 ≤ a.toInt ∧ a.toInt < (thM M).toInt) ∧ okPl (clM M).toInt b.toInt) then (-1, M) else if (plM M a.toInt.toNat).toInt = b.toInt then (-2, M) else if rmM M b.toInt ≤ cnM M b.toInt then (-3, M) else ((plM M a.toInt.toNat).toInt, mkM (clM M) (thM M) (dyM M) (snM M) (kdM M) (upd (plM M) a.toInt.toNat b) (paM M) (knM M) (spM M) (ssM M))
theorem move_bad {a b cl th dy sn : Int32} {kd pl pa kn sp ss : Nat → Int32} (q : ¬ ((0 ≤ a.toInt ∧ a.toInt < th.toInt) ∧ (0 ≤ b.toInt ∧ b.toInt / 10 < cl.toInt ∧ b.toInt % 10 < 5))) : opMove a b (mkM cl th dy sn kd pl pa kn sp ss) = (-1, mkM cl th dy sn kd pl pa kn sp ss) := if_pos q
theorem move_st {a b cl th dy sn : Int32} {kd pl pa kn sp ss : Nat → Int32} (p : (0 ≤ a.toInt ∧ a.toInt < th.toInt) ∧ (0 ≤ b.toInt ∧ b.toInt / 10 < cl.toInt ∧ b.toInt % 10 < 5)) (q : (pl a.toInt.toNat).toInt = b.toInt) : opMove a b (mkM cl th dy sn kd pl pa kn sp ss) = (-2, mkM cl th dy sn kd pl pa kn sp ss) := by
  unfold opMove
  rw [if_neg (fun z => z p), if_pos ?_]
  show (msk th pl a.toInt.toNat).toInt = _
  rw [msk_in (by omega)]; exact q
theorem move_full {a b cl th dy sn : Int32} {kd pl pa kn sp ss : Nat → Int32} (p : (0 ≤ a.toInt ∧ a.toInt < th.toInt) ∧ (0 ≤ b.toInt ∧ b.toInt / 10 < cl.toInt ∧ b.toInt % 10 < 5)) (q : ¬ (pl a.toInt.toNat).toInt = b.toInt) (w : rmC (kd (b.toInt / 10).toNat).toInt (b.toInt % 10) ≤ cntR pl th.toInt.toNat b.toInt) : opMove a b (mkM cl th dy sn kd pl pa kn sp ss) = (-3, mkM cl th dy sn kd pl pa kn sp ss) := by
  unfold opMove
  rw [if_neg (fun z => z p), if_neg ?_, if_pos ?_]
  · rw [rmM_mk ⟨p.2.1, p.2.2.1⟩, cnM_mk]; exact w
  · show ¬ (msk th pl a.toInt.toNat).toInt = _
    rw [msk_in (by omega)]; exact q
theorem move_ok {a b cl th dy sn : Int32} {kd pl pa kn sp ss : Nat → Int32} (p : (0 ≤ a.toInt ∧ a.toInt < th.toInt) ∧ (0 ≤ b.toInt ∧ b.toInt / 10 < cl.toInt ∧ b.toInt % 10 < 5)) (q : ¬ (pl a.toInt.toNat).toInt = b.toInt) (w : ¬ rmC (kd (b.toInt / 10).toNat).toInt (b.toInt % 10) ≤ cntR pl th.toInt.toNat b.toInt) : opMove a b (mkM cl th dy sn kd pl pa kn sp ss) = ((pl a.toInt.toNat).toInt, mkM cl th dy sn kd (upd pl a.toInt.toNat b) pa kn sp ss) := by
  have e : plM (mkM cl th dy sn kd pl pa kn sp ss) a.toInt.toNat = pl a.toInt.toNat := msk_in (by omega)
  unfold opMove
  rw [if_neg (fun z => z p), if_neg ?_, if_neg ?_, e]
  · show (_, mkM cl th dy sn (msk cl kd) (upd (msk th pl) a.toInt.toNat b) (msk th pa) (msk th kn) (msk sn sp) (msk sn ss)) = _
    rw [mkM_eq (fun j w => msk_in w) (fun j w => ⟨upd_2 (msk_in w), msk_in w, msk_in w⟩) (fun j w => ⟨msk_in w, msk_in w⟩)]
  · rw [rmM_mk ⟨p.2.1, p.2.2.1⟩, cnM_mk]; exact w
  · rw [e]; exact q
theorem wf_move {a b : Int32} {M : Mem} (h : wfM M) : wfM (opMove a b M).2 := by
  unfold opMove
  split
  · exact h
  · rename_i p
    have p := Decidable.not_not.mp p
    split
    · exact h
    · split
      · exact h
      · obtain ⟨⟨h1, h2, h3, h4⟩, h5, h6, h7⟩ := h
        refine wf_mk ⟨h1, h2, h3, h4⟩ h5 (fun j w => ?_) h7
        by_cases z : j = a.toInt.toNat
        · rw [z, upd_same]; exact ⟨p.2, (h6 _ (by omega)).2⟩
        · rw [upd_ne z]; exact h6 j w
/-! teach -/
noncomputable def tcF (M : Mem) (a k : Int) : Prop := ∀ f : Nat, f < 5 → cnM M (10 * a + (f : Int)) ≤ rmC k (f : Int)
noncomputable def opTeach (a b : Int32) (M : Mem) : Int × Mem := @ite _ (¬ ((0 ≤ a.toInt ∧ a.toInt < (clM M).toInt) ∧ 0 ≤ b.toInt ∧ b.toInt ≤ 3)) (Classical.propDecidable _) (-1, M) (@ite _ (tcF M a.toInt b.toInt) (Classical.propDecidable _) ((kdM M a.toInt.toNat).toInt, mkM (clM M) (thM M) (dyM M) (snM M) (upd (kdM M) a.toInt.toNat b) (plM M) (paM M) (knM M) (spM M) (ssM M)) (-3, M))
theorem teach_bad {a b cl th dy sn : Int32} {kd pl pa kn sp ss : Nat → Int32} (q : ¬ ((0 ≤ a.toInt ∧ a.toInt < cl.toInt) ∧ 0 ≤ b.toInt ∧ b.toInt ≤ 3)) : opTeach a b (mkM cl th dy sn kd pl pa kn sp ss) = (-1, mkM cl th dy sn kd pl pa kn sp ss) := if_pos q
theorem teach_full {a b cl th dy sn : Int32} {kd pl pa kn sp ss : Nat → Int32} {f : Nat} (p : (0 ≤ a.toInt ∧ a.toInt < cl.toInt) ∧ 0 ≤ b.toInt ∧ b.toInt ≤ 3) (hf : f < 5) (q : rmC b.toInt (f : Int) < cntR pl th.toInt.toNat (10 * a.toInt + (f : Int))) : opTeach a b (mkM cl th dy sn kd pl pa kn sp ss) = (-3, mkM cl th dy sn kd pl pa kn sp ss) := by
  unfold opTeach
  rw [if_neg (fun z => z p), if_neg ?_]
  intro z
  have z := z f hf
  rw [cnM_mk] at z
  omega
theorem teach_ok {a b cl th dy sn : Int32} {kd pl pa kn sp ss : Nat → Int32} (p : (0 ≤ a.toInt ∧ a.toInt < cl.toInt) ∧ 0 ≤ b.toInt ∧ b.toInt ≤ 3) (q : ∀ f : Nat, f < 5 → cntR pl th.toInt.toNat (10 * a.toInt + (f : Int)) ≤ rmC b.toInt (f : Int)) : opTeach a b (mkM cl th dy sn kd pl pa kn sp ss) = ((kd a.toInt.toNat).toInt, mkM cl th dy sn (upd kd a.toInt.toNat b) pl pa kn sp ss) := by
  have e : kdM (mkM cl th dy sn kd pl pa kn sp ss) a.toInt.toNat = kd a.toInt.toNat := msk_in (by omega)
  unfold opTeach
  rw [if_neg (fun z => z p), if_pos ?_, e]
  · show (_, mkM cl th dy sn (upd (msk cl kd) a.toInt.toNat b) (msk th pl) (msk th pa) (msk th kn) (msk sn sp) (msk sn ss)) = _
    rw [mkM_eq (fun j w => upd_2 (msk_in w)) (fun j w => ⟨msk_in w, msk_in w, msk_in w⟩) (fun j w => ⟨msk_in w, msk_in w⟩)]
  · intro f hf
    rw [cnM_mk]; exact q f hf
theorem wf_teach {a b : Int32} {M : Mem} (h : wfM M) : wfM (opTeach a b M).2 := by
  unfold opTeach
  split
  · exact h
  · rename_i p
    have p := Decidable.not_not.mp p
    split
    · obtain ⟨⟨h1, h2, h3, h4⟩, h5, h6, h7⟩ := h
      refine wf_mk ⟨h1, h2, h3, h4⟩ (fun j w => ?_) h6 h7
      by_cases z : j = a.toInt.toNat
      · rw [z, upd_same]; exact p.2
      · rw [upd_ne z]; exact h5 j w
    · exact h
/-! day, see, forget -/
noncomputable def opDay (a : Int32) (M : Mem) : Int × Mem := if 0 ≤ a.toInt ∧ a.toInt ≤ 9 then ((dyM M).toInt, mkM (clM M) (thM M) a (snM M) (kdM M) (plM M) (paM M) (knM M) (spM M) (ssM M)) else (-1, M)
theorem day_bad {a cl th dy sn : Int32} {kd pl pa kn sp ss : Nat → Int32} (q : ¬ (0 ≤ a.toInt ∧ a.toInt ≤ 9)) : opDay a (mkM cl th dy sn kd pl pa kn sp ss) = (-1, mkM cl th dy sn kd pl pa kn sp ss) := if_neg q
theorem day_ok {a cl th dy sn : Int32} {kd pl pa kn sp ss : Nat → Int32} (q : 0 ≤ a.toInt ∧ a.toInt ≤ 9) : opDay a (mkM cl th dy sn kd pl pa kn sp ss) = (dy.toInt, mkM cl th a sn kd pl pa kn sp ss) := by
  unfold opDay
  rw [if_pos q]
  show (dy.toInt, mkM cl th a sn (msk cl kd) (msk th pl) (msk th pa) (msk th kn) (msk sn sp) (msk sn ss)) = _
  rw [mkM_self]
theorem wf_day {a : Int32} {M : Mem} (h : wfM M) : wfM (opDay a M).2 := by
  unfold opDay
  split
  · rename_i p
    exact wf_mk ⟨h.1.1, h.1.2.1, h.1.2.2.1, p⟩ h.2.1 h.2.2.1 h.2.2.2
  · exact h
noncomputable def opForget (a : Int32) (M : Mem) : Int × Mem := if 0 ≤ a.toInt ∧ a.toInt ≤ (snM M).toInt then ((snM M).toInt, mkM (clM M) (thM M) (dyM M) a (kdM M) (plM M) (paM M) (knM M) (spM M) (ssM M)) else (-1, M)
theorem forget_bad {a cl th dy sn : Int32} {kd pl pa kn sp ss : Nat → Int32} (q : ¬ (0 ≤ a.toInt ∧ a.toInt ≤ sn.toInt)) : opForget a (mkM cl th dy sn kd pl pa kn sp ss) = (-1, mkM cl th dy sn kd pl pa kn sp ss) := if_neg q
theorem forget_ok {a cl th dy sn : Int32} {kd pl pa kn sp ss : Nat → Int32} (q : 0 ≤ a.toInt ∧ a.toInt ≤ sn.toInt) : opForget a (mkM cl th dy sn kd pl pa kn sp ss) = (sn.toInt, mkM cl th dy a kd pl pa kn sp ss) := by
  unfold opForget
  rw [if_pos (show 0 ≤ a.toInt ∧ a.toInt ≤ (snM (mkM cl th dy sn kd pl pa kn sp ss)).toInt from q)]
  show (sn.toInt, mkM cl th dy a (msk cl kd) (msk th pl) (msk th pa) (msk th kn) (msk sn sp) (msk sn ss)) = _
  rw [mkM_eq (fun j w => msk_in w) (fun j w => ⟨msk_in w, msk_in w, msk_in w⟩) (fun j w => ⟨msk_in (by omega), msk_in (by omega)⟩)]
theorem wf_forget {a : Int32} {M : Mem} (h : wfM M) : wfM (opForget a M).2 := by
  unfold opForget
  split
  · rename_i p
    have h3 := h.1.2.2.1
    exact wf_mk ⟨h.1.1, h.1.2.1, by omega, h.1.2.2.2⟩ h.2.1 h.2.2.1 (fun j w => h.2.2.2 j (by omega))
  · exact h
noncomputable def opSee (a b : Int32) (M : Mem) : Int × Mem := if ¬ (okPr (clM M).toInt a.toInt ∧ 0 ≤ b.toInt ∧ b.toInt ≤ 99) then (-1, M) else if 6 ≤ (snM M).toInt then (-3, M) else ((snM M).toInt + 1, mkM (clM M) (thM M) (dyM M) (snM M + 1) (kdM M) (plM M) (paM M) (knM M) (upd (spM M) (snM M).toInt.toNat a) (upd (ssM M) (snM M).toInt.toNat b))
theorem see_bad {a b cl th dy sn : Int32} {kd pl pa kn sp ss : Nat → Int32} (q : ¬ ((0 ≤ a.toInt ∧ a.toInt / 10 < cl.toInt ∧ a.toInt % 10 < cl.toInt ∧ ¬ a.toInt / 10 = a.toInt % 10) ∧ 0 ≤ b.toInt ∧ b.toInt ≤ 99)) : opSee a b (mkM cl th dy sn kd pl pa kn sp ss) = (-1, mkM cl th dy sn kd pl pa kn sp ss) := if_pos q
theorem see_full {a b cl th dy sn : Int32} {kd pl pa kn sp ss : Nat → Int32} (p : (0 ≤ a.toInt ∧ a.toInt / 10 < cl.toInt ∧ a.toInt % 10 < cl.toInt ∧ ¬ a.toInt / 10 = a.toInt % 10) ∧ 0 ≤ b.toInt ∧ b.toInt ≤ 99) (q : 6 ≤ sn.toInt) : opSee a b (mkM cl th dy sn kd pl pa kn sp ss) = (-3, mkM cl th dy sn kd pl pa kn sp ss) := by
  unfold opSee
  rw [if_neg (fun z => z p), if_pos (show 6 ≤ (snM (mkM cl th dy sn kd pl pa kn sp ss)).toInt from q)]
theorem see_ok {a b cl th dy sn : Int32} {kd pl pa kn sp ss : Nat → Int32} (p : (0 ≤ a.toInt ∧ a.toInt / 10 < cl.toInt ∧ a.toInt % 10 < cl.toInt ∧ ¬ a.toInt / 10 = a.toInt % 10) ∧ 0 ≤ b.toInt ∧ b.toInt ≤ 99) (q : ¬ 6 ≤ sn.toInt) (h0 : 0 ≤ sn.toInt) : opSee a b (mkM cl th dy sn kd pl pa kn sp ss) = (sn.toInt + 1, mkM cl th dy (sn + 1) kd pl pa kn (upd sp sn.toInt.toNat a) (upd ss sn.toInt.toNat b)) := by
  unfold opSee
  rw [if_neg (fun z => z p), if_neg (show ¬ 6 ≤ (snM (mkM cl th dy sn kd pl pa kn sp ss)).toInt from q)]
  have e := ti_addK sn (1 : Int32) 1 rfl (by omega)
  show (sn.toInt + 1, mkM cl th dy (sn + 1) (msk cl kd) (msk th pl) (msk th pa) (msk th kn) (upd (msk sn sp) sn.toInt.toNat a) (upd (msk sn ss) sn.toInt.toNat b)) = _
  rw [mkM_eq (fun j w => msk_in w) (fun j w => ⟨msk_in w, msk_in w, msk_in w⟩) (fun j w => ⟨upd_msk h0 (by omega), upd_msk h0 (by omega)⟩)]
theorem wf_see {a b : Int32} {M : Mem} (h : wfM M) : wfM (opSee a b M).2 := by
  unfold opSee
  split
  · exact h
  · rename_i p
    have p := Decidable.not_not.mp p
    split
    · exact h
    · rename_i q
      obtain ⟨⟨h1, h2, h3, h4⟩, h5, h6, h7⟩ := h
      have e := ti_addK (snM M) (1 : Int32) 1 rfl (by omega)
      refine wf_mk ⟨h1, h2, by omega, h4⟩ h5 h6 (fun j w => ?_)
      by_cases z : j = (snM M).toInt.toNat
      · rw [z, upd_same, upd_same]; exact p
      · rw [upd_ne z, upd_ne z]; exact h7 j (by omega)
/-! threads that stay, in their order -/
noncomputable def rnk (p : Nat → Bool) : Nat → Nat
  | 0 => 0
  | n + 1 => rnk p n + (if p n = true then 1 else 0)
theorem rnk_t {p : Nat → Bool} {n : Nat} (h : p n = true) : rnk p (n + 1) = rnk p n + 1 := by
  show rnk p n + (if p n = true then 1 else 0) = _
  rw [if_pos h]
theorem rnk_f {p : Nat → Bool} {n : Nat} (h : ¬ p n = true) : rnk p (n + 1) = rnk p n := by
  show rnk p n + (if p n = true then 1 else 0) = _
  rw [if_neg h, Nat.add_zero]
theorem rnk_le {p : Nat → Bool} : ∀ {n : Nat}, rnk p n ≤ n
  | 0 => Nat.le_refl _
  | n + 1 => by
    have := rnk_le (p := p) (n := n)
    by_cases h : p n = true
    · rw [rnk_t h]; omega
    · rw [rnk_f h]; omega
theorem rnk_mono {p : Nat → Bool} {m : Nat} : ∀ {n : Nat}, m ≤ n → rnk p m ≤ rnk p n
  | 0, h => by rw [show m = 0 by omega]; exact Nat.le_refl _
  | n + 1, h => by
    by_cases q : m = n + 1
    · rw [q]; exact Nat.le_refl _
    · have w := rnk_mono (p := p) (n := n) (show m ≤ n by omega)
      by_cases z : p n = true
      · rw [rnk_t z]; omega
      · rw [rnk_f z]; exact w
theorem rnk_lt {p : Nat → Bool} {u n : Nat} (h : u < n) (hu : p u = true) : rnk p u < rnk p n := by
  have := rnk_mono (p := p) (m := u + 1) (n := n) h
  rw [rnk_t hu] at this
  exact this
noncomputable def sel (p : Nat → Bool) (f : Nat → Int32) : Nat → Nat → Int32
  | 0 => fun _ => 0
  | n + 1 => if p n = true then upd (sel p f n) (rnk p n) (f n) else sel p f n
theorem sel_one {p : Nat → Bool} {f g : Nat → Int32} : ∀ {n : Nat}, (∀ u : Nat, u < n → p u = true → g (rnk p u) = f u) → ∀ j : Nat, j < rnk p n → sel p f n j = g j
  | 0, _, j, hj => absurd hj (Nat.not_lt_zero _)
  | n + 1, h, j, hj => by
    show (if p n = true then upd (sel p f n) (rnk p n) (f n) else sel p f n) j = g j
    by_cases z : p n = true
    · rw [rnk_t z] at hj
      rw [if_pos z]
      by_cases e : j = rnk p n
      · rw [e, upd_same]; exact (h n (Nat.lt_succ_self _) z).symm
      · rw [upd_ne e]; exact sel_one (fun u hu => h u (by omega)) j (by omega)
    · rw [rnk_f z] at hj
      rw [if_neg z]
      exact sel_one (fun u hu => h u (by omega)) j hj
theorem sel_at {p : Nat → Bool} {f : Nat → Int32} : ∀ {n : Nat} {u : Nat}, u < n → p u = true → sel p f n (rnk p u) = f u
  | 0, u, h, _ => absurd h (Nat.not_lt_zero _)
  | n + 1, u, h, hu => by
    show (if p n = true then upd (sel p f n) (rnk p n) (f n) else sel p f n) (rnk p u) = f u
    by_cases e : u = n
    · subst e
      rw [if_pos hu, upd_same]
    · have hl := rnk_lt (show u < n by omega) hu
      by_cases z : p n = true
      · rw [if_pos z, upd_ne (by omega)]; exact sel_at (by omega) hu
      · rw [if_neg z]; exact sel_at (by omega) hu
/-- every place below the number of those that stay is one of them -/
theorem rnk_ex {p : Nat → Bool} : ∀ {n j : Nat}, j < rnk p n → ∃ u : Nat, u < n ∧ p u = true ∧ rnk p u = j
  | 0, j, h => absurd h (Nat.not_lt_zero _)
  | n + 1, j, h => by
    by_cases z : p n = true
    · rw [rnk_t z] at h
      by_cases e : j = rnk p n
      · exact ⟨n, Nat.lt_succ_self _, z, e.symm⟩
      · obtain ⟨u, a, b, c⟩ := rnk_ex (p := p) (n := n) (j := j) (by omega)
        exact ⟨u, by omega, b, c⟩
    · rw [rnk_f z] at h
      obtain ⟨u, a, b, c⟩ := rnk_ex (p := p) (n := n) (j := j) h
      exact ⟨u, by omega, b, c⟩
noncomputable def wSel (p : Nat → Bool) (M : Mem) : Mem := mkM (clM M) (nI (rnk p (thM M).toInt.toNat)) (dyM M) (snM M) (kdM M) (sel p (plM M) (thM M).toInt.toNat) (sel p (paM M) (thM M).toInt.toNat) (sel p (knM M) (thM M).toInt.toNat) (spM M) (ssM M)
theorem wSel_mk {p : Nat → Bool} {cl th dy sn K : Int32} {kd pl pa kn sp ss pl2 pa2 kn2 : Nat → Int32} (hK : K.toInt = (rnk p th.toInt.toNat : Int)) (hg : ∀ u : Nat, u < th.toInt.toNat → p u = true → pl2 (rnk p u) = pl u ∧ pa2 (rnk p u) = pa u ∧ kn2 (rnk p u) = kn u) (hth : th.toInt ≤ 10) : wSel p (mkM cl th dy sn kd pl pa kn sp ss) = mkM cl K dy sn kd pl2 pa2 kn2 sp ss := by
  have hr := rnk_le (p := p) (n := th.toInt.toNat)
  have e : K = nI (rnk p th.toInt.toNat) := nI_is (by omega) hK
  show mkM cl (nI (rnk p th.toInt.toNat)) dy sn (msk cl kd) (sel p (msk th pl) th.toInt.toNat) (sel p (msk th pa) th.toInt.toNat) (sel p (msk th kn) th.toInt.toNat) (msk sn sp) (msk sn ss) = _
  rw [← e]
  refine mkM_eq (fun j w => msk_in w) (fun j w => ?_) (fun j w => ⟨msk_in w, msk_in w⟩)
  have hj : j < rnk p th.toInt.toNat := by omega
  exact ⟨sel_one (fun u hu hp => by rw [msk_in (by omega)]; exact (hg u hu hp).1) j hj, sel_one (fun u hu hp => by rw [msk_in (by omega)]; exact (hg u hu hp).2.1) j hj, sel_one (fun u hu hp => by rw [msk_in (by omega)]; exact (hg u hu hp).2.2) j hj⟩
theorem wf_sel {p : Nat → Bool} {M : Mem} (h : wfM M) : wfM (wSel p M) := by
  obtain ⟨⟨h1, h2, h3, h4⟩, h5, h6, h7⟩ := h
  have hr := rnk_le (p := p) (n := (thM M).toInt.toNat)
  have e := nI_toInt (n := rnk p (thM M).toInt.toNat) (by omega)
  refine wf_mk ⟨h1, by omega, h3, h4⟩ h5 (fun j w => ?_) h7
  obtain ⟨u, hu, hp, he⟩ := rnk_ex (p := p) (n := (thM M).toInt.toNat) (j := j) (by omega)
  rw [← he, sel_at hu hp, sel_at hu hp, sel_at hu hp]
  exact h6 u (by omega)
noncomputable def opCut (a : Int32) (M : Mem) : Int × Mem := if 0 ≤ a.toInt ∧ a.toInt < (thM M).toInt then ((thM (wSel (fun u => decide (¬ (u : Int) = a.toInt)) M)).toInt, wSel (fun u => decide (¬ (u : Int) = a.toInt)) M) else (-1, M)
theorem cut_bad {a : Int32} {M : Mem} (q : ¬ (0 ≤ a.toInt ∧ a.toInt < (thM M).toInt)) : opCut a M = (-1, M) := if_neg q
theorem cut_ok {a : Int32} {M N : Mem} (q : 0 ≤ a.toInt ∧ a.toInt < (thM M).toInt) (e : wSel (fun u => decide (¬ (u : Int) = a.toInt)) M = N) : opCut a M = ((thM N).toInt, N) := by
  rw [← e]; exact if_pos q
theorem wf_cut {a : Int32} {M : Mem} (h : wfM M) : wfM (opCut a M).2 := by
  unfold opCut
  split
  · exact wf_sel h
  · exact h
/-- the threads that are not on a hand -/
noncomputable def onP (f : Nat → Int32) (c : Int) : Nat → Bool := fun u => decide (¬ (f u / 10).toInt = c)
noncomputable def opLose (a : Int32) (M : Mem) : Int × Mem := if 0 ≤ a.toInt ∧ a.toInt < (clM M).toInt then ((thM M).toInt - (thM (wSel (onP (plM M) a.toInt) M)).toInt, wSel (onP (plM M) a.toInt) M) else (-1, M)
theorem lose_bad {a : Int32} {M : Mem} (q : ¬ (0 ≤ a.toInt ∧ a.toInt < (clM M).toInt)) : opLose a M = (-1, M) := if_neg q
theorem lose_ok {a : Int32} {M N : Mem} (q : 0 ≤ a.toInt ∧ a.toInt < (clM M).toInt) (e : wSel (onP (plM M) a.toInt) M = N) : opLose a M = ((thM M).toInt - (thM N).toInt, N) := by
  rw [← e]; exact if_pos q
theorem wf_lose {a : Int32} {M : Mem} (h : wfM M) : wfM (opLose a M).2 := by
  unfold opLose
  split
  · exact wf_sel h
  · exact h
theorem rnk_eq {p q : Nat → Bool} : ∀ {n : Nat}, (∀ u : Nat, u < n → p u = q u) → rnk p n = rnk q n
  | 0, _ => rfl
  | n + 1, h => by
    show rnk p n + (if p n = true then 1 else 0) = rnk q n + (if q n = true then 1 else 0)
    rw [rnk_eq (fun u hu => h u (by omega)), h n (Nat.lt_succ_self _)]
theorem sel_eq {p q : Nat → Bool} {f : Nat → Int32} : ∀ {n : Nat}, (∀ u : Nat, u < n → p u = q u) → sel p f n = sel q f n
  | 0, _ => rfl
  | n + 1, h => by
    show (if p n = true then upd (sel p f n) (rnk p n) (f n) else sel p f n) = (if q n = true then upd (sel q f n) (rnk q n) (f n) else sel q f n)
    rw [sel_eq (fun u hu => h u (by omega)), rnk_eq (fun u hu => h u (by omega)), h n (Nat.lt_succ_self _)]
theorem wSel_eq {p q : Nat → Bool} {M : Mem} (h : ∀ u : Nat, u < (thM M).toInt.toNat → p u = q u) : wSel p M = wSel q M := by
  unfold wSel
  rw [rnk_eq h, sel_eq h, sel_eq h, sel_eq h]
