/-! ===== one instruction ===== -/
theorem qm_lk {lv : qm_L} {a : Nat} {v : Value} (h : lv.lookup a = some v) : (a, v) ∈ lv := by
  induction lv with
  | nil => cases h
  | cons q t ih =>
    obtain ⟨k, w⟩ := q
    rw [List.lookup_cons] at h
    split at h
    · rename_i hk
      cases h
      rw [show a = k from by simpa using hk]
      exact List.mem_cons_self
    · exact List.mem_cons_of_mem _ (ih h)
theorem qm_ldi_spec {lv : qm_L} {a : Nat} {k : Int32 → Prop} (h : qm_ldi lv a k) : ∃ x, (a, Value.int x) ∈ lv ∧ k x := by
  unfold qm_ldi at h
  split at h
  · rename_i x e; exact ⟨x, qm_lk e, h⟩
  · exact h.elim
theorem qm_ldl_spec {lv : qm_L} {a : Nat} {k : Int64 → Prop} (h : qm_ldl lv a k) : ∃ x, (a, Value.long x) ∈ lv ∧ k x := by
  unfold qm_ldl at h
  split at h
  · rename_i x e; exact ⟨x, qm_lk e, h⟩
  · exact h.elim
theorem qm_lda_spec {lv : qm_L} {a : Nat} {k : Nat → Prop} (h : qm_lda lv a k) : ∃ x, (a, Value.ref x) ∈ lv ∧ k x := by
  unfold qm_lda at h
  split at h
  · rename_i x e; exact ⟨x, qm_lk e, h⟩
  · exact h.elim
theorem qm_bin_spec {st : List Value} {k : Int32 → Int32 → List Value → Prop} (h : qm_bin st k) : ∃ x y r, st = .int y :: .int x :: r ∧ k x y r := by
  match st, h with
  | .int y :: .int x :: r, h => exact ⟨x, y, r, rfl, h⟩
theorem qm_bil_spec {st : List Value} {k : Int64 → Int64 → List Value → Prop} (h : qm_bil st k) : ∃ x y r, st = .long y :: .long x :: r ∧ k x y r := by
  match st, h with
  | .long y :: .long x :: r, h => exact ⟨x, y, r, rfl, h⟩
theorem qm_one_spec {st : List Value} {k : Int32 → List Value → Prop} (h : qm_one st k) : ∃ x r, st = .int x :: r ∧ k x r := by
  match st, h with
  | .int x :: r, h => exact ⟨x, r, rfl, h⟩
theorem qm_onl_spec {st : List Value} {k : Int64 → List Value → Prop} (h : qm_onl st k) : ∃ x r, st = .long x :: r ∧ k x r := by
  match st, h with
  | .long x :: r, h => exact ⟨x, r, rfl, h⟩
theorem qm_onr_spec {st : List Value} {k : Nat → List Value → Prop} (h : qm_onr st k) : ∃ x r, st = .ref x :: r ∧ k x r := by
  match st, h with
  | .ref x :: r, h => exact ⟨x, r, rfl, h⟩
theorem qm_ins_mem {a : Nat} {v : Value} : ∀ (l : qm_L) (q : Nat × Value), q ∈ qm_put a v l → q = (a, v) ∨ q ∈ l
  | [], q, h => by
    rcases List.mem_cons.mp h with e | e
    · exact Or.inl e
    · cases e
  | (k, w) :: t, q, h => by
    unfold qm_put at h
    split at h
    · rcases List.mem_cons.mp h with e | e
      · exact Or.inr (by rw [e]; exact List.mem_cons_self)
      · rcases qm_ins_mem t q e with e | e
        · exact Or.inl e
        · exact Or.inr (List.mem_cons_of_mem _ e)
    · rcases List.mem_cons.mp h with e | e
      · exact Or.inl e
      · exact Or.inr e
theorem qm_set_has {ad : qm_AD} (hz : ad.2.category = 1) {ls : Array Slot} {nL a : Nat} {v w : Value} {lv : qm_L} (hw : qm_cv ad v = w) (h1 : v.category = 1) (h : lv_has ls nL ((a, w) :: (lv.map (qm_lc ad)).filter (fun q => !(q.1 == a) && !(q.1 + 1 == a && q.2.category == 2)))) : lv_has ls nL ((qm_set a v lv).map (qm_lc ad)) := by
  refine ⟨h.1, h.2.1, fun q hq => h.2.2 q ?_⟩
  obtain ⟨q0, h2, rfl⟩ := List.mem_map.mp hq
  rcases qm_ins_mem _ _ h2 with rfl | h3
  · rw [← hw]; exact List.mem_cons_self
  · obtain ⟨h4, h5⟩ := List.mem_filter.mp h3
    refine List.mem_cons_of_mem _ (List.mem_filter.mpr ⟨List.mem_map.mpr ⟨q0, h4, rfl⟩, ?_⟩)
    simp only [Bool.and_eq_true] at h5 ⊢
    refine ⟨h5.1.1, ?_⟩
    show (!((q0.1 + 1 == a) && ((qm_cv ad q0.2).category == 2))) = true
    rw [qm_cv_cat hz]
    exact h5.1.2
theorem qm_set_has2 {ad : qm_AD} (hz : ad.2.category = 1) {ls : Array Slot} {nL a : Nat} {x : Int64} {lv : qm_L} (h : lv_has ls nL ((a, Value.long x) :: (lv.map (qm_lc ad)).filter (fun q => !(q.1 == a) && (!(q.1 == a + 1) && !(q.1 + 1 == a && q.2.category == 2))))) : lv_has ls nL ((qm_set a (.long x) lv).map (qm_lc ad)) := by
  refine ⟨h.1, h.2.1, fun q hq => h.2.2 q ?_⟩
  obtain ⟨q0, h2, rfl⟩ := List.mem_map.mp hq
  rcases qm_ins_mem _ _ h2 with rfl | h3
  · exact List.mem_cons_self
  · obtain ⟨h4, h5⟩ := List.mem_filter.mp h3
    refine List.mem_cons_of_mem _ (List.mem_filter.mpr ⟨List.mem_map.mpr ⟨q0, h4, rfl⟩, ?_⟩)
    simp only [Bool.and_eq_true] at h5 ⊢
    refine ⟨h5.1.1, ?_, ?_⟩
    · have h6 := h5.2
      show (!(q0.1 == a + 1)) = true
      simpa [Value.category] using h6
    · show (!((q0.1 + 1 == a) && ((qm_cv ad q0.2).category == 2))) = true
      rw [qm_cv_cat hz]
      exact h5.1.2
theorem qm_i0 : (0 : Int32).toInt = 0 := rfl
theorem qm_lt {x y : Int32} : x < y ↔ x.toInt < y.toInt := Int32.lt_iff_toInt_lt
theorem qm_le {x y : Int32} : x ≤ y ↔ x.toInt ≤ y.toInt := Int32.le_iff_toInt_le
theorem qm_in {i : Int32} {n : Nat} (h : 0 ≤ i.toInt ∧ i.toInt < n) : vp_in i n := vp_in_iff.mpr h
theorem qm_fld_spec {h0 : qm_H} {r k ci : Nat} {kk : Value → Prop} (h : qm_fld h0 r k ci kk) : ∃ rs o, qm_sh[r]? = some (.inr (ci, rs)) ∧ rs[k]? = some o ∧ kk (match o with
    | some t => .ref t
    | none => .int (h0 r k)) := by
  unfold qm_fld at h
  split at h
  · rename_i c' rs e
    split at h
    · rename_i hc
      subst hc
      split at h
      · rename_i t e2; exact ⟨rs, _, e, e2, h⟩
      · rename_i e2; exact ⟨rs, _, e, e2, h⟩
      · exact h.elim
    · exact h.elim
  · exact h.elim
theorem qm_pfl_spec {h0 : qm_H} {r k ci : Nat} {x : Int32} {kk : qm_H → Prop} (h : qm_pfl h0 r k ci x kk) : ∃ rs, qm_sh[r]? = some (.inr (ci, rs)) ∧ rs[k]? = some none ∧ (qm_isz ci k = true → x = 0 ∨ x = 1) ∧ kk (qm_row h0 r (upd (h0 r) k x)) := by
  unfold qm_pfl at h
  split at h
  · rename_i c' rs e
    split at h
    · rename_i hc
      subst hc
      split at h
      · rename_i e2
        split at h
        · exact ⟨rs, e, e2, fun _ => h.1, h.2⟩
        · rename_i hz; exact ⟨rs, e, e2, fun q => absurd q hz, h⟩
      · exact h.elim
    · exact h.elim
  · exact h.elim
theorem qm_cls_in {a : Nat} {C : String} {T : u_T} {N : Nat} (h : vwCl[a]? = some (C, T, N)) : (∀ w ∈ u_ws C T N, w ∈ qm_tbl) ∧ ∃ ty : Nat → FieldType, (∀ k, k < N → parseFieldDescriptor (T k).2.2.1 = some (ty k)) ∧ ∀ x, x < N → ∀ y, y < N → x ≠ y → (T x).2.1 ≠ (T y).2.1 := by
  match a, h with
  | 0, h => cases h; exact ⟨by decide +kernel, tyX0, tyX0_ok, nmX0⟩
  | 1, h => cases h; exact ⟨by decide +kernel, tyX1, tyX1_ok, nmX1⟩
  | 2, h => cases h; exact ⟨by decide +kernel, tyX2, tyX2_ok, nmX2⟩
  | 3, h => cases h; exact ⟨by decide +kernel, tyX3, tyX3_ok, nmX3⟩
  | 4, h => cases h; exact ⟨by decide +kernel, tyX4, tyX4_ok, nmX4⟩
  | 5, h => cases h; exact ⟨by decide +kernel, tyX5, tyX5_ok, nmX5⟩
theorem qm_sw_go {x : Int32} {ts : List (Int32 × Nat)} {d : Nat} {k : Nat → Prop} (h : qm_sw x ts d k) : (∃ q ∈ ts, x = q.1 ∧ k q.2 ∧ ∀ q' ∈ ts, x = q'.1 → True) ∨ ((∀ q ∈ ts, ¬ x = q.1) ∧ k d) := by
  induction ts with
  | nil => exact Or.inr ⟨fun _ h => (by cases h), h⟩
  | cons q ts ih =>
    obtain ⟨v, t⟩ := q
    by_cases e : x = v
    · exact Or.inl ⟨(v, t), List.mem_cons_self, e, h.1 e, fun _ _ _ => trivial⟩
    · rcases ih (h.2 e) with ⟨q', h1, h2, h3, -⟩ | ⟨h1, h2⟩
      · exact Or.inl ⟨q', List.mem_cons_of_mem _ h1, h2, h3, fun _ _ _ => trivial⟩
      · refine Or.inr ⟨fun q' hq' => ?_, h2⟩
        rcases List.mem_cons.mp hq' with rfl | hq'
        · exact e
        · exact h1 q' hq'
theorem qm_tgs_spec {pc : Nat} : ∀ (offs : List Int) (ts : List (Int32 × Nat)) (lo : Int), qm_tgs pc lo offs ts = true → offs.length = ts.length ∧ ∀ (j : Nat) (q : Int32 × Nat), ts[j]? = some q → q.1.toInt = lo + j ∧ ∃ o, offs[j]? = some o ∧ (pc : Int) + o = (q.2 : Int)
  | [], [], lo, _ => ⟨rfl, fun j q h => by simp at h⟩
  | o :: offs, (v, t) :: ts, lo, h => by
    unfold qm_tgs at h
    simp only [Bool.and_eq_true, decide_eq_true_eq] at h
    obtain ⟨h1, h2⟩ := qm_tgs_spec offs ts (lo + 1) h.2
    refine ⟨by simp [h1], fun j q hj => ?_⟩
    cases j with
    | zero =>
      rw [List.getElem?_cons_zero] at hj
      cases hj
      exact ⟨by rw [h.1.1]; simp, o, rfl, h.1.2⟩
    | succ j =>
      rw [List.getElem?_cons_succ] at hj
      obtain ⟨a1, o', a2, a3⟩ := h2 j q hj
      refine ⟨by rw [a1]; omega, o', ?_, a3⟩
      rw [List.getElem?_cons_succ]; exact a2
theorem qm_lks_spec {pc d : Nat} {dflt : Int} (hd : (pc : Int) + dflt = (d : Int)) {x : Int32} {k : Nat → Prop} : ∀ (ps : List (Int × Int)) (ts : List (Int32 × Nat)), qm_lks pc ps ts = true → qm_sw x ts d k → ∃ tgt : Nat, (pc : Int) + Op.lookupswitch.offset ps dflt x.toInt = (tgt : Int) ∧ k tgt
  | [], [], _, h => ⟨d, hd, h⟩
  | (a, o) :: ps, (v, t) :: ts, hc, h => by
    unfold qm_lks at hc
    simp only [Bool.and_eq_true, decide_eq_true_eq] at hc
    rw [Op.lookupswitch.offset_cons]
    by_cases e : x = v
    · refine ⟨t, ?_, h.1 e⟩
      rw [if_pos (by rw [e]; exact hc.1.1.symm)]
      exact hc.1.2
    · obtain ⟨tgt, h1, h2⟩ := qm_lks_spec hd ps ts hc.2 (h.2 e)
      refine ⟨tgt, ?_, h2⟩
      rw [if_neg]
      · exact h1
      · intro q
        exact e (Int32.toInt_inj.mp (by rw [hc.1.1]; exact q.symm))
/-- what a call needs of its method's own words -/
theorem qm_mw {a : Nat} (ha : a < qm_n) (h9 : a ≠ qm_law) : (Cond.code (qm_y a) (qm_b a) (qm_ml a) (qm_ret a) ∈ qm_tbl ∧ Cond.initialized (qm_y a).cls ∈ qm_tbl) ∧ (qm_cls a = 9 → Cond.static (qm_y a) ∈ qm_tbl) ∧ (qm_cls a ≠ 9 → Cond.instanceMethod (qm_y a) ∈ qm_tbl ∧ Cond.selects (qm_y a).cls (qm_y a) (qm_y a) ∈ qm_tbl ∧ ((qm_cls a = 7 ∧ (qm_y a).cls = "java/lang/String") ∨ (qm_cls a ≠ 7 ∧ (vwCl[qm_cls a]?).map (fun q => q.1) = some (qm_y a).cls))) ∧ ((qm_y a).cls ≠ "java/lang/invoke/MethodHandle" ∧ (qm_y a).cls ≠ "java/lang/invoke/VarHandle" ∧ (parseMethodDescriptor (qm_y a).desc).map (fun d => d.parameters.length) = some (qm_np a)) ∧ plainFor (qm_y a) = true ∧ qm_own a = (qm_y a).cls := by
  have hl : a < qm_law := by
    have h1 : a < 240 := ha
    have h2 : a ≠ 239 := h9
    show a < 239
    omega
  have h := qm_mval a hl
  rw [Bool.and_eq_true] at h
  obtain ⟨h1, h2⟩ := h
  unfold qm_mk2 at h2
  simp only [Bool.and_eq_true, decide_eq_true_eq] at h2
  unfold qm_mk at h1
  split at h1
  · simp only [Bool.and_eq_true, decide_eq_true_eq] at h1
    exact ⟨⟨qm_cw a hl, qm_has_mem h1.2⟩, fun _ => qm_has_mem h1.1.2, fun q => absurd h1.1.1 q, ⟨h2.1.1.1.1, h2.1.1.1.2, h2.1.1.2⟩, h2.1.2, h2.2⟩
  · simp only [Bool.and_eq_true, decide_eq_true_eq] at h1
    refine ⟨⟨qm_cw a hl, qm_has_mem h1.1.2⟩, fun q => absurd q h1.1.1.1.1, fun _ => ⟨qm_has_mem h1.1.1.1.2, qm_has_mem h1.1.1.2, ?_⟩, ⟨h2.1.1.1.1, h2.1.1.1.2, h2.1.1.2⟩, h2.1.2, h2.2⟩
    have h3 := h1.2
    split at h3
    · rename_i e; exact Or.inl ⟨e, of_decide_eq_true h3⟩
    · rename_i e; exact Or.inr ⟨e, of_decide_eq_true h3⟩
  · cases h1
