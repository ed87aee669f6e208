/-! ===== what is asked of a method's own words, by numbers ===== -/
noncomputable def qdcs : List Nat := [0, 1, 1, 2, 3, 4, 5, 6, 7, 8, 9, 1, 2, 4, 2, 2, 0, 2, 10, 0, 0, 1, 10, 9, 11, 11, 12, 1, 12, 12, 12, 12, 0, 0, 2, 0, 0, 0, 0, 2, 0, 0, 0, 2, 12, 13, 11, 14, 15, 11, 0, 12, 2, 1, 0, 0, 16, 17, 18, 12, 2, 11, 0, 11, 1, 12, 12, 12, 11, 1, 19, 19, 1, 1, 1, 12, 4, 10, 11, 4, 4, 4, 4, 4, 4, 4, 14, 0, 2, 20, 0, 0, 2, 2, 0, 1, 1, 1, 14, 0, 1, 0, 1, 0, 1, 0, 0, 0, 0, 2, 2, 2, 0, 2, 0, 0, 21, 22, 22, 1, 0, 0, 14, 0, 0, 14, 14, 23, 2, 0, 11, 2, 4, 0, 24, 12, 12, 12, 11, 25, 26, 27, 28, 10, 10, 0, 0, 29, 0, 30, 30, 2, 10, 1, 1, 15, 2, 2, 15, 10, 1, 4, 2, 2, 12, 12, 12, 12, 12, 10, 10, 1, 0, 0, 0, 0, 0, 15, 11, 12, 15, 0, 0, 2, 0, 1, 1, 1, 1, 14, 0, 1, 0, 0, 1, 0, 1, 0, 11, 0, 1, 4, 10, 0, 2, 0, 0, 0, 0, 2, 2, 2, 0, 12, 0, 0, 2, 0, 0, 26, 25, 1, 21, 22, 22, 1, 0, 12, 0, 14, 7, 0, 0, 11, 14, 14, 23, 2, 0, 31]
noncomputable def qdc (m : Nat) : Nat := qdcs.getD m 0
noncomputable def qds (k : Nat) : String × Nat := (bif Nat.ble 16 k then (bif Nat.ble 24 k then (bif Nat.ble 28 k then (bif Nat.ble 30 k then (bif Nat.ble 31 k then ("([I)Z", 1) else ("(IIII)Z", 4)) else (bif Nat.ble 29 k then ("(ZI)V", 2) else ("(Z)I", 1))) else (bif Nat.ble 26 k then (bif Nat.ble 27 k then ("(JJJ)Z", 3) else ("(JJ)J", 2)) else (bif Nat.ble 25 k then ("(JJI)J", 3) else ("(I)LThreadBank$Memory;", 1)))) else (bif Nat.ble 20 k then (bif Nat.ble 22 k then (bif Nat.ble 23 k then ("(IIII)I", 4) else ("(II)J", 2)) else (bif Nat.ble 21 k then ("(III)J", 3) else ("(Ljava/lang/String;)Z", 1))) else (bif Nat.ble 18 k then (bif Nat.ble 19 k then ("(III)V", 3) else ("(I[I)Z", 2)) else (bif Nat.ble 17 k then ("(II[I)I", 3) else ("([I)V", 1))))) else (bif Nat.ble 8 k then (bif Nat.ble 12 k then (bif Nat.ble 14 k then (bif Nat.ble 15 k then ("(I)V", 1) else ("(III)I", 3)) else (bif Nat.ble 13 k then ("(III)Z", 3) else ("(I)Z", 1))) else (bif Nat.ble 10 k then (bif Nat.ble 11 k then ("(II)Z", 2) else ("()V", 0)) else (bif Nat.ble 9 k then ("(LThreadBank$Memory;)V", 1) else ("(IILjava/util/function/BiFunction;)I", 3)))) else (bif Nat.ble 4 k then (bif Nat.ble 6 k then (bif Nat.ble 7 k then ("(II)V", 2) else ("([BI)C", 2)) else (bif Nat.ble 5 k then ("(I)C", 1) else ("()Z", 0))) else (bif Nat.ble 2 k then (bif Nat.ble 3 k then ("()B", 0) else ("()I", 0)) else (bif Nat.ble 1 k then ("(II)I", 2) else ("(I)I", 1))))))
set_option maxRecDepth 100000 in
theorem qds_eq : (qmn.map (fun m => (qct m).1.desc)) = qmn.map (fun m => (qds (qdc m)).1) := rfl
theorem qds_m {m : Nat} (hm : m < 240) : (qct m).1.desc = (qds (qdc m)).1 := by
  have h := congrArg (fun l => l[m]?) qds_eq
  simp only [List.getElem?_map, qmn_at m hm, Option.map_some, Option.some.injEq] at h
  exact h
theorem qds_ok : ∀ k, k < 32 → (parseMethodDescriptor (qds k).1).map (fun d => d.parameters.length) = some (qds k).2 := by decide +kernel
theorem qo_ne : ∀ o, o < 12 → qo o ≠ "java/lang/invoke/MethodHandle" ∧ qo o ≠ "java/lang/invoke/VarHandle" := by decide +kernel
theorem qo_plain : ∀ o, o < 12 → 5 ≤ o → plainName (qo o) = true := by decide +kernel
theorem qj_plain : ∀ m, m < 10 → plainFor (qct m).1 = true := by decide +kernel
noncomputable def qcl (k o : Nat) : Bool := match k with
  | 7 => Nat.beq o 2
  | 0 => Nat.beq o 5
  | 1 => Nat.beq o 6
  | 2 => Nat.beq o 7
  | 3 => Nat.beq o 8
  | 4 => Nat.beq o 9
  | 5 => Nat.beq o 10
  | _ => false
theorem qcl_7 {o : Nat} (h : qcl 7 o = true) : qo o = "java/lang/String" := by
  have e : o = 2 := Nat.eq_of_beq_eq_true h
  subst e
  rfl
theorem qcl_n {k o : Nat} (h7 : k ≠ 7) (h : qcl k o = true) : (vwCl[k]?).map (fun q => q.1) = some (qo o) := by
  have hk : (k = 0 ∧ o = 5) ∨ (k = 1 ∧ o = 6) ∨ (k = 2 ∧ o = 7) ∨ (k = 3 ∧ o = 8) ∨ (k = 4 ∧ o = 9) ∨ (k = 5 ∧ o = 10) := by
    unfold qcl at h
    split at h
    · exact absurd rfl h7
    · have e : o = 5 := Nat.eq_of_beq_eq_true h
      omega
    · have e : o = 6 := Nat.eq_of_beq_eq_true h
      omega
    · have e : o = 7 := Nat.eq_of_beq_eq_true h
      omega
    · have e : o = 8 := Nat.eq_of_beq_eq_true h
      omega
    · have e : o = 9 := Nat.eq_of_beq_eq_true h
      omega
    · have e : o = 10 := Nat.eq_of_beq_eq_true h
      omega
    · cases h
  rcases hk with ⟨rfl, rfl⟩ | ⟨rfl, rfl⟩ | ⟨rfl, rfl⟩ | ⟨rfl, rfl⟩ | ⟨rfl, rfl⟩ | ⟨rfl, rfl⟩
  · rfl
  · rfl
  · rfl
  · rfl
  · rfl
  · rfl
noncomputable def qmk (m : Nat) : Bool := match qm_hins.getD m [] with
  | [x, y] => Nat.beq (qm_cls m) 9 && qhas x.1 x.2 (2, m, 0, 0, 0) && qhas y.1 y.2 (5, qoc m, 0, 0, 0)
  | [x, y, z] => qcl (qm_cls m) (qoc m) && qhas x.1 x.2 (3, m, 0, 0, 0) && qhas y.1 y.2 (4, m, 0, 0, 0) && qhas z.1 z.2 (5, qoc m, 0, 0, 0)
  | _ => false
theorem qmk_ok {m : Nat} (hm : m < 240) (h : qmk m = true) : qm_mk m = true := by
  unfold qmk at h
  unfold qm_mk
  split at h
  · rename_i x y e
    rw [e]
    simp only [Bool.and_eq_true] at h
    obtain ⟨⟨h1, h2⟩, h3⟩ := h
    have e1 : qm_cls m = 9 := Nat.eq_of_beq_eq_true h1
    show (decide (qm_cls m = 9) && qm_has x.1 x.2 (.static (qm_y m)) && qm_has y.1 y.2 (.initialized (qm_y m).cls)) = true
    rw [decide_eq_true e1, qh2 hm h2, qh5 hm h3]
    rfl
  · rename_i x y z e
    rw [e]
    simp only [Bool.and_eq_true] at h
    obtain ⟨⟨⟨h1, h2⟩, h3⟩, h4⟩ := h
    have e9 : qm_cls m ≠ 9 := by
      intro q
      rw [q] at h1
      exact absurd (show false = true from h1) (by decide)
    show (decide (qm_cls m ≠ 9) && qm_has x.1 x.2 (.instanceMethod (qm_y m)) && qm_has y.1 y.2 (.selects (qm_y m).cls (qm_y m) (qm_y m)) && qm_has z.1 z.2 (.initialized (qm_y m).cls) && (if qm_cls m = 7 then decide ((qm_y m).cls = "java/lang/String") else decide ((vwCl[qm_cls m]?).map (fun q => q.1) = some (qm_y m).cls))) = true
    rw [decide_eq_true e9, qh3 hm h2, qh4 hm h3, qh5 hm h4]
    have ec : (qm_y m).cls = qo (qoc m) := by rw [qct_ym hm, qct_om hm]
    by_cases e7 : qm_cls m = 7
    · rw [if_pos e7, ec]
      rw [e7] at h1
      rw [decide_eq_true (qcl_7 h1)]
      rfl
    · rw [if_neg e7, ec, decide_eq_true (qcl_n e7 h1)]
      rfl
  · cases h
noncomputable def qnk (m : Nat) : Bool := Nat.ble (qoc m + 1) 12 && (Nat.ble 5 (qoc m) || Nat.ble (m + 1) 10) && Nat.ble (qdc m + 1) 32 && Nat.beq (qds (qdc m)).2 (qm_np m)
theorem qnk_ok {m : Nat} (hm : m < 240) (h : qnk m = true) : qm_mk2 m = true := by
  unfold qnk at h
  simp only [Bool.and_eq_true, Bool.or_eq_true] at h
  obtain ⟨⟨⟨h1, h2⟩, h3⟩, h4⟩ := h
  have ho : qoc m < 12 := Nat.le_of_ble_eq_true h1
  have hd : qdc m < 32 := Nat.le_of_ble_eq_true h3
  have e4 : (qds (qdc m)).2 = qm_np m := Nat.eq_of_beq_eq_true h4
  have ec : (qm_y m).cls = qo (qoc m) := by rw [qct_ym hm, qct_om hm]
  have ed : (qm_y m).desc = (qds (qdc m)).1 := by rw [qct_ym hm, qds_m hm]
  have n1 := qo_ne _ ho
  have hp : plainFor (qm_y m) = true := by
    rcases h2 with h2 | h2
    · exact plainFor_of_name (by rw [ec]; exact qo_plain _ ho (Nat.le_of_ble_eq_true h2))
    · rw [qct_ym hm]
      exact qj_plain _ (Nat.le_of_ble_eq_true h2)
  have hn : (parseMethodDescriptor (qm_y m).desc).map (fun d => d.parameters.length) = some (qm_np m) := by rw [ed, ← e4]; exact qds_ok _ hd
  have hw : qm_own m = (qm_y m).cls := by rw [ec, qct_wm hm]
  unfold qm_mk2
  rw [hp, decide_eq_true hn, decide_eq_true hw, decide_eq_true (show (qm_y m).cls ≠ "java/lang/invoke/MethodHandle" by rw [ec]; exact n1.1), decide_eq_true (show (qm_y m).cls ≠ "java/lang/invoke/VarHandle" by rw [ec]; exact n1.2)]
  rfl
noncomputable def qck (m : Nat) : Bool := let q := qm_cws.getD m (0, 0); qhas q.1 q.2 (1, m, 0, 0, 0)
noncomputable def qmm (m : Nat) : Bool := qmk m && qnk m && qck m
theorem qmm_all : (List.range' 0 239).all qmm = true := by decide +kernel
theorem qmm_at {m : Nat} (hm : m < 239) : qmm m = true := List.all_eq_true.mp qmm_all m (List.mem_range'_1.mpr ⟨by omega, by omega⟩)
theorem qm_mval (m : Nat) (hm : m < qm_law) : (qm_mk m && qm_mk2 m) = true := by
  have hm : m < 239 := hm
  have h := qmm_at hm
  unfold qmm at h
  simp only [Bool.and_eq_true] at h
  rw [qmk_ok (by omega) h.1.1, qnk_ok (by omega) h.1.2]
  rfl
theorem qm_cw (m : Nat) (hm : m < qm_law) : Cond.code (qm_y m) (qm_b m) (qm_ml m) (qm_ret m) ∈ qm_tbl := by
  have hm : m < 239 := hm
  have h := qmm_at hm
  unfold qmm at h
  simp only [Bool.and_eq_true] at h
  exact qm_has_mem (qh1 (j := (qm_cws.getD m (0, 0)).1) (p := (qm_cws.getD m (0, 0)).2) (by omega) h.2)
