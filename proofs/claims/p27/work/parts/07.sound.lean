/-! ===== the pure machine's formula holds: the machine itself comes to the end that it tells ===== -/
theorem qm_find_mem {l : List qm_E} {pc : Nat} {I : qm_I} (h : qm_find l pc = some I) : ∃ j p, (pc, I, j, p) ∈ l := by
  induction l with
  | nil => cases h
  | cons e t ih =>
    obtain ⟨k, J, j, p⟩ := e
    unfold qm_find at h
    split at h
    · rename_i hk
      cases h
      exact ⟨j, p, by rw [hk]; exact List.mem_cons_self⟩
    · obtain ⟨j', p', h'⟩ := ih h
      exact ⟨j', p', List.mem_cons_of_mem _ h'⟩
theorem qm_at_ok {m pc : Nat} {i : Instr} {nx a b : Nat} {v : Value} {ts : List (Int32 × Nat)} (hm : m < qm_n) (h : qm_at m pc = some (i, nx, a, b, v, ts)) : decode (qm_b m) pc = .ok (i, qm_dl i pc nx) ∧ qm_nl i pc nx = true ∧ ∃ j p, qm_ck m pc i nx a b v ts j p = true := by
  obtain ⟨j, p, hmem⟩ := qm_find_mem h
  have h1 := List.all_eq_true.mp (qm_valid m hm) _ hmem
  unfold qm_ok at h1
  simp only [Bool.and_eq_true, decide_eq_true_eq] at h1
  exact ⟨h1.1.1, h1.1.2, j, p, h1.2⟩
noncomputable abbrev qm_AD : Type := (Nat → Nat) × Value
noncomputable def qm_cv (ad : qm_AD) : Value → Value
  | .ref r => if r = 140 then ad.2 else .ref (ad.1 r)
  | v => v
noncomputable def qm_lc (ad : qm_AD) (q : Nat × Value) : Nat × Value := (q.1, qm_cv ad q.2)
noncomputable def qm_fv (ad : qm_AD) (h : qm_H) (r k : Nat) (o : Option Nat) : Value := match o with
  | some t => qm_cv ad (.ref t)
  | none => .int (h r k)
noncomputable def qm_fs (ad : qm_AD) (h : qm_H) (r : Nat) (rs : List (Option Nat)) : List Value := rs.mapIdx (qm_fv ad h r)
noncomputable def qm_ce (ad : qm_AD) (ca : Nat → ClassId) (h : qm_H) (r : Nat) (c : qm_T) : va_E := match c with
  | .inl (t, n) => .inl (ca t, n, .inl (h r))
  | .inr (ci, rs) => .inr (ci, qm_fs ad h r rs)
noncomputable def qm_w (ad : qm_AD) (ca : Nat → ClassId) (h : qm_H) : va_W := qm_sh.mapIdx (fun r c => (ad.1 r, qm_ce ad ca h r c))
theorem qm_sh_lt {r : Nat} {c : qm_T} (h : qm_sh[r]? = some c) : r < 51 := (List.getElem?_eq_some_iff.mp h).1
theorem qm_cv_ref {ad : qm_AD} {r : Nat} (h : r ≠ 140) : qm_cv ad (.ref r) = .ref (ad.1 r) := by simp [qm_cv, h]
theorem qm_cv_cat {ad : qm_AD} (hz : ad.2.category = 1) (v : Value) : (qm_cv ad v).category = v.category := by
  cases v <;> try rfl
  rename_i r
  show (if r = 140 then ad.2 else Value.ref (ad.1 r)).category = 1
  split
  · exact hz
  · rfl
theorem qm_w_at {ad : qm_AD} {ca : Nat → ClassId} {h0 : qm_H} {r : Nat} {c : qm_T} (h : qm_sh[r]? = some c) : (qm_w ad ca h0)[r]? = some (ad.1 r, qm_ce ad ca h0 r c) := by
  unfold qm_w
  rw [List.getElem?_mapIdx, h]
  rfl
theorem qm_w_arr {ad : qm_AD} {ca : Nat → ClassId} {h0 : qm_H} {r t n : Nat} {f : Nat → Int32} (h : qm_sh[r]? = some (.inl (t, n))) : (qm_w ad ca h0).set r (ad.1 r, .inl (ca t, n, .inl f)) = qm_w ad ca (qm_row h0 r f) := by
  have hl := (List.getElem?_eq_some_iff.mp h).1
  apply List.ext_getElem?
  intro k
  by_cases hk : k = r
  · subst hk
    rw [List.getElem?_set_self (by unfold qm_w; rw [List.length_mapIdx]; exact hl), qm_w_at h]
    simp [qm_ce, qm_row]
  · rw [List.getElem?_set_ne (Ne.symm hk)]
    unfold qm_w
    rw [List.getElem?_mapIdx, List.getElem?_mapIdx]
    cases hc : qm_sh[k]? with
    | none => rfl
    | some c =>
      simp only [Option.map_some]
      have e : qm_ce ad ca (qm_row h0 r f) k c = qm_ce ad ca h0 k c := by
        cases c with
        | inl q => simp [qm_ce, qm_row, hk]
        | inr q =>
          have e2 : qm_fv ad (qm_row h0 r f) k = qm_fv ad h0 k := by
            funext i o
            cases o <;> simp [qm_fv, qm_row, hk]
          simp [qm_ce, qm_fs, e2]
      rw [e]
theorem qm_fs_at {ad : qm_AD} {h0 : qm_H} {r k : Nat} {rs : List (Option Nat)} {o : Option Nat} (h : rs[k]? = some o) : (qm_fs ad h0 r rs)[k]? = some (qm_fv ad h0 r k o) := by
  unfold qm_fs
  rw [List.getElem?_mapIdx, h]
  rfl
theorem qm_w_fld {ad : qm_AD} {ca : Nat → ClassId} {h0 : qm_H} {r ci k : Nat} {rs : List (Option Nat)} {x : Int32} (h : qm_sh[r]? = some (.inr (ci, rs))) (hk0 : rs[k]? = some none) : (qm_w ad ca h0).set r (ad.1 r, .inr (ci, (qm_fs ad h0 r rs).set k (.int x))) = qm_w ad ca (qm_row h0 r (upd (h0 r) k x)) := by
  have hl := (List.getElem?_eq_some_iff.mp h).1
  have hlk := (List.getElem?_eq_some_iff.mp hk0).1
  apply List.ext_getElem?
  intro j
  by_cases hj : j = r
  · subst hj
    rw [List.getElem?_set_self (by unfold qm_w; rw [List.length_mapIdx]; exact hl), qm_w_at h]
    have e : (qm_fs ad h0 j rs).set k (.int x) = qm_fs ad (qm_row h0 j (upd (h0 j) k x)) j rs := by
      apply List.ext_getElem?
      intro i
      by_cases hi : i = k
      · subst hi
        rw [List.getElem?_set_self (by unfold qm_fs; rw [List.length_mapIdx]; exact hlk), qm_fs_at hk0]
        simp [qm_fv, qm_row, upd]
      · rw [List.getElem?_set_ne (Ne.symm hi)]
        unfold qm_fs
        rw [List.getElem?_mapIdx, List.getElem?_mapIdx]
        cases hc : rs[i]? with
        | none => rfl
        | some o =>
          simp only [Option.map_some]
          cases o with
          | some t => rfl
          | none => simp [qm_fv, qm_row, upd, hi]
    rw [e]
    rfl
  · rw [List.getElem?_set_ne (Ne.symm hj)]
    unfold qm_w
    rw [List.getElem?_mapIdx, List.getElem?_mapIdx]
    cases hc : qm_sh[j]? with
    | none => rfl
    | some c =>
      simp only [Option.map_some]
      have e : qm_ce ad ca (qm_row h0 r (upd (h0 r) k x)) j c = qm_ce ad ca h0 j c := by
        cases c with
        | inl q => simp [qm_ce, qm_row, hj]
        | inr q =>
          have e2 : qm_fv ad (qm_row h0 r (upd (h0 r) k x)) j = qm_fv ad h0 j := by
            funext i o
            cases o <;> simp [qm_fv, qm_row, hj]
          simp [qm_ce, qm_fs, e2]
      rw [e]
/-- addresses alone say that cells are apart -/
theorem qm_w_D {ad : qm_AD} {ca : Nat → ClassId} {h0 h1 : qm_H} {A : Nat → Prop} (h : va_D A (qm_w ad ca h0)) : va_D A (qm_w ad ca h1) := by
  have key : ∀ (k : Nat) (q : Nat × va_E), (qm_w ad ca h1)[k]? = some q → ∃ q0, (qm_w ad ca h0)[k]? = some q0 ∧ q0.1 = q.1 := by
    intro k q hq
    unfold qm_w at hq ⊢
    rw [List.getElem?_mapIdx] at hq ⊢
    cases hc : qm_sh[k]? with
    | none => rw [hc] at hq; cases hq
    | some c => rw [hc] at hq; cases hq; exact ⟨_, rfl, rfl⟩
  refine ⟨fun i j x y hi hj hxy => ?_, fun k q hk => ?_⟩
  · obtain ⟨x0, a1, a2⟩ := key i x hi
    obtain ⟨y0, b1, b2⟩ := key j y hj
    exact h.1 i j x0 y0 a1 b1 (a2.trans (hxy.trans b2.symm))
  · obtain ⟨q0, a1, a2⟩ := key k q hk
    rw [← a2]
    exact h.2 k q0 a1
/-- what the machine's state holds beside the cells: classes, the arrays and words that nobody writes -/
noncomputable def qm_Env (X : qm_X) (D : va_G) (ca : Nat → ClassId) (ad : qm_AD) (A : Nat → Prop) (U : State) : Prop :=
  (va_K D vwCl [(ca 0, .int), (ca 1, .byte), (ca 2, .boolean)] U ∧ ad.2.category = 1) ∧
  (va_Z "ThreadBank" "ROOMS" "[I" (.ref (ad.1 100)) A U U.heap ∧ va_Z "ThreadBank$Clearing" "RINGS" "[I" (.ref (ad.1 101)) A U U.heap ∧ va_Z "java/lang/String" "COMPACT_STRINGS" "Z" (.int 1) A U U.heap ∧ va_Z "jdk/internal/util/Preconditions" "SIOOBE_FORMATTER" "Ljava/util/function/BiFunction;" ad.2 A U U.heap) ∧
  (va_T .int (ad.1 100) 20 (fun j => .int (qm_rooms.getD j 0)) A U U.heap ∧ va_T .int (ad.1 101) 100 (fun j => .int (qm_rings.getD j 0)) A U U.heap ∧ va_T .int (ad.1 130) X.1 (fun j => .int (X.2 j)) A U U.heap) ∧
  (vk_S 6 qm_slen qm_sbyt (fun i => ad.1 (110 + i)) (fun i => ad.1 (120 + i)) A U U.heap ∧ ∀ i, i < 6 → vk_R "ThreadBank$TextReader" (qm_six.getD i 0) (qm_stx.getD i "") (ad.1 (110 + i)) U) ∧
  (va_Nw (.methodLinkNest "ThreadBank$Memory" qm_nestM (qm_y qm_hasBit) "ThreadBank") U ∧ va_Nw (.fieldLinkNest "ThreadBank$Memory" qm_nestF "ThreadBank" "ROOMS" "[I" "ThreadBank") U)
theorem qm_Env.go {X : qm_X} {D : va_G} {ca : Nat → ClassId} {ad : qm_AD} {A B : Nat → Prop} {s U : State} (h : qm_Env X D ca ad A s) (hW : s.WarmedH U.vm) (hH : ∀ a : Nat, a < s.heap.size → ¬ A a → U.heap[a]? = s.heap[a]?) (hB : ∀ q, B q → A q) : qm_Env X D ca ad B U := by
  obtain ⟨⟨h1, h1z⟩, ⟨h2, h3, h4, h4b⟩, ⟨h5, h6, h6b⟩, ⟨h7, h8⟩, h9, h10⟩ := h
  have hv := hW.alike
  exact ⟨⟨va_K.moved hv h1, h1z⟩, ⟨((h2.moved hv).kept hH).narrow hB, ((h3.moved hv).kept hH).narrow hB, ((h4.moved hv).kept hH).narrow hB, ((h4b.moved hv).kept hH).narrow hB⟩, ⟨((h5.moved hv).kept hH).narrow hB, ((h6.moved hv).kept hH).narrow hB, ((h6b.moved hv).kept hH).narrow hB⟩, ⟨((h7.moved hv).kept hH).narrow hB, fun i hi => (h8 i hi).warm hW⟩, va_Nw.warmM hW h9, va_Nw.warmF hW h10⟩
theorem qm_Env.blind {X : qm_X} {D : va_G} {ca : Nat → ClassId} {ad : qm_AD} {A : Nat → Prop} {U V : State} (h : qm_Env X D ca ad A U) (hv : V.vm = U.vm) (hH : V.heap = U.heap) : qm_Env X D ca ad A V := by
  obtain ⟨⟨h1, h1z⟩, ⟨h2, h3, h4, h4b⟩, ⟨h5, h6, h6b⟩, ⟨h7, h8⟩, h9, h10⟩ := h
  have ha : U.vm.Alike V.vm := by rw [hv]; exact Vm.Alike.refl _
  unfold qm_Env
  rw [hH]
  exact ⟨⟨va_K.moved ha h1, h1z⟩, ⟨h2.moved ha, h3.moved ha, h4.moved ha, h4b.moved ha⟩, ⟨h5.moved ha, h6.moved ha, h6b.moved ha⟩, ⟨h7.moved ha, fun i hi => (h8 i hi).same hv⟩, va_Nw.same rfl hv.symm h9, va_Nw.same rfl hv.symm h10⟩
/-- where a method stands: machine, code, words, room -/
noncomputable def qm_Cx (X : qm_X) (mid : Nat) (p : Program) (R : Room) (s : State) (m : MethodId) (args : Array Value) (c : Code) (cells slots : Nat) (D : va_G) (ca : Nat → ClassId) (ad : qm_AD) (A : Nat → Prop) : Prop :=
  (p.tables.exec = Jvm.exec ∧ c.code = qm_b mid ∧ c.maxLocals = qm_ml mid ∧ s.vm.findClass (qm_own mid) = some m.cls) ∧ (∀ w ∈ qm_tbl, w.before args s = true) ∧ qm_Env X D ca ad A s ∧ (∀ q, s.heap.size ≤ q → A q) ∧ (qm_fr mid ≤ R.frames ∧ qm_lo mid ≤ R.locals ∧ cells ≤ R.cells ∧ slots ≤ R.slots) ∧ mid < qm_n
/-- a return: at its pc stands the instruction that gives r back -/
noncomputable def qm_rt (mid pc : Nat) (r : Option Value) : Prop := match r with
  | none => decode (qm_b mid) pc = .ok (.return_, 1) ∧ qm_ret mid = none
  | some (.int x) => decode (qm_b mid) pc = .ok (.ireturn, 1) ∧ ∃ ty, qm_ret mid = some ty ∧ narrow ty (.int x) = .int x
  | some (.long _) => decode (qm_b mid) pc = .ok (.lreturn, 1) ∧ qm_ret mid = some .long
  | some (.ref x) => decode (qm_b mid) pc = .ok (.areturn, 1) ∧ (∃ n, qm_ret mid = some (.object n)) ∧ x ≠ 140
  | _ => False
/-- PA: from this pc, with these locals, this stack and this store the method comes to its end, and there Q -/
noncomputable def qm_PA (X : qm_X) (mid pc : Nat) (lv : qm_L) (st : List Value) (h : qm_H) (Q : qm_Q) : Prop :=
  ∀ (p : Program) (l : Launch) (e : Env) (R : Room) (s : State) (m : MethodId) (args : Array Value) (below : List Frame) (meth : Method) (c : Code) (H : Heap) (locs : List Loc) (cells slots : Nat) (Qw : State → Prop) (ls : Array Slot) (D : va_G) (ca : Nat → ClassId) (ad : qm_AD) (A : Nat → Prop),
    qm_Cx X mid p R s m args c cells slots D ca ad A → va_P D vwCl (qm_w ad ca h) H → va_D A (qm_w ad ca h) → va_S A s.heap H locs → lv_has ls (qm_ml mid) (lv.map (qm_lc ad)) →
    (∀ (pc' : Nat) (ls' : Array Slot) (H' : Heap) (locs' : List Loc) (h' : qm_H) (r : Option Value), qm_rt mid pc' r → Q r h' → va_P D vwCl (qm_w ad ca h') H' → va_S A s.heap H' locs' → W p l e R s m args below meth c H' locs' cells slots Qw (F0 m pc' ls' (r.toList.map (qm_cv ad)))) →
    W p l e R s m args below meth c H locs cells slots Qw (F0 m pc ls (st.map (qm_cv ad)))
noncomputable def qm_PW (X : qm_X) (mid : Nat) (as : List Value) (h : qm_H) (Q : qm_Q) : Prop := qm_PA X mid 0 (lv_args 0 as) [] h Q
theorem qm_PA.mono {X : qm_X} {mid pc : Nat} {lv : qm_L} {st : List Value} {h : qm_H} {Q Q' : qm_Q} (hq : ∀ r h, Q r h → Q' r h) (k : qm_PA X mid pc lv st h Q) : qm_PA X mid pc lv st h Q' :=
  fun p l e R s m args below meth c H locs cells slots Qw ls D ca ad A hC hP hD hS hl hr => k p l e R s m args below meth c H locs cells slots Qw ls D ca ad A hC hP hD hS hl (fun pc' ls' H' locs' h' r h1 h2 => hr pc' ls' H' locs' h' r h1 (hq r h' h2))
/-- fewer locals known: more is said -/
theorem qm_PA.fewer {X : qm_X} {mid pc : Nat} {lv lv' : qm_L} {st : List Value} {h : qm_H} {Q : qm_Q} (hs : ∀ q ∈ lv', q ∈ lv) (k : qm_PA X mid pc lv' st h Q) : qm_PA X mid pc lv st h Q :=
  fun p l e R s m args below meth c H locs cells slots Qw ls D ca ad A hC hP hD hS hl hr => k p l e R s m args below meth c H locs cells slots Qw ls D ca ad A hC hP hD hS ⟨hl.1, hl.2.1, fun q hq => by
    obtain ⟨q0, h1, h2⟩ := List.mem_map.mp hq
    exact hl.2.2 q (List.mem_map.mpr ⟨q0, hs q0 h1, h2⟩)⟩ hr
/-! ===== one instruction ===== -/
theorem qm_lk {lv : qm_L} {a : Nat} {v : Value} (h : lv.lookup a = some v) : (a, v) ∈ lv := by
  induction lv with
  | nil => cases h
  | cons q t ih =>
    obtain ⟨k, w⟩ := q
    rw [List.lookup_cons] at h
    split at h
    · rename_i hk
      cases h
      rw [show a = k from by simpa using hk]
      exact List.mem_cons_self
    · exact List.mem_cons_of_mem _ (ih h)
theorem qm_ldi_spec {lv : qm_L} {a : Nat} {k : Int32 → Prop} (h : qm_ldi lv a k) : ∃ x, (a, Value.int x) ∈ lv ∧ k x := by
  unfold qm_ldi at h
  split at h
  · rename_i x e; exact ⟨x, qm_lk e, h⟩
  · exact h.elim
theorem qm_ldl_spec {lv : qm_L} {a : Nat} {k : Int64 → Prop} (h : qm_ldl lv a k) : ∃ x, (a, Value.long x) ∈ lv ∧ k x := by
  unfold qm_ldl at h
  split at h
  · rename_i x e; exact ⟨x, qm_lk e, h⟩
  · exact h.elim
theorem qm_lda_spec {lv : qm_L} {a : Nat} {k : Nat → Prop} (h : qm_lda lv a k) : ∃ x, (a, Value.ref x) ∈ lv ∧ k x := by
  unfold qm_lda at h
  split at h
  · rename_i x e; exact ⟨x, qm_lk e, h⟩
  · exact h.elim
theorem qm_bin_spec {st : List Value} {k : Int32 → Int32 → List Value → Prop} (h : qm_bin st k) : ∃ x y r, st = .int y :: .int x :: r ∧ k x y r := by
  match st, h with
  | .int y :: .int x :: r, h => exact ⟨x, y, r, rfl, h⟩
theorem qm_bil_spec {st : List Value} {k : Int64 → Int64 → List Value → Prop} (h : qm_bil st k) : ∃ x y r, st = .long y :: .long x :: r ∧ k x y r := by
  match st, h with
  | .long y :: .long x :: r, h => exact ⟨x, y, r, rfl, h⟩
theorem qm_one_spec {st : List Value} {k : Int32 → List Value → Prop} (h : qm_one st k) : ∃ x r, st = .int x :: r ∧ k x r := by
  match st, h with
  | .int x :: r, h => exact ⟨x, r, rfl, h⟩
theorem qm_onl_spec {st : List Value} {k : Int64 → List Value → Prop} (h : qm_onl st k) : ∃ x r, st = .long x :: r ∧ k x r := by
  match st, h with
  | .long x :: r, h => exact ⟨x, r, rfl, h⟩
theorem qm_onr_spec {st : List Value} {k : Nat → List Value → Prop} (h : qm_onr st k) : ∃ x r, st = .ref x :: r ∧ k x r := by
  match st, h with
  | .ref x :: r, h => exact ⟨x, r, rfl, h⟩
theorem qm_ins_mem {a : Nat} {v : Value} : ∀ (l : qm_L) (q : Nat × Value), q ∈ qm_put a v l → q = (a, v) ∨ q ∈ l
  | [], q, h => by
    rcases List.mem_cons.mp h with e | e
    · exact Or.inl e
    · cases e
  | (k, w) :: t, q, h => by
    unfold qm_put at h
    split at h
    · rcases List.mem_cons.mp h with e | e
      · exact Or.inr (by rw [e]; exact List.mem_cons_self)
      · rcases qm_ins_mem t q e with e | e
        · exact Or.inl e
        · exact Or.inr (List.mem_cons_of_mem _ e)
    · rcases List.mem_cons.mp h with e | e
      · exact Or.inl e
      · exact Or.inr e
theorem qm_set_has {ad : qm_AD} (hz : ad.2.category = 1) {ls : Array Slot} {nL a : Nat} {v w : Value} {lv : qm_L} (hw : qm_cv ad v = w) (h1 : v.category = 1) (h : lv_has ls nL ((a, w) :: (lv.map (qm_lc ad)).filter (fun q => !(q.1 == a) && !(q.1 + 1 == a && q.2.category == 2)))) : lv_has ls nL ((qm_set a v lv).map (qm_lc ad)) := by
  refine ⟨h.1, h.2.1, fun q hq => h.2.2 q ?_⟩
  obtain ⟨q0, h2, rfl⟩ := List.mem_map.mp hq
  rcases qm_ins_mem _ _ h2 with rfl | h3
  · rw [← hw]; exact List.mem_cons_self
  · obtain ⟨h4, h5⟩ := List.mem_filter.mp h3
    refine List.mem_cons_of_mem _ (List.mem_filter.mpr ⟨List.mem_map.mpr ⟨q0, h4, rfl⟩, ?_⟩)
    simp only [Bool.and_eq_true] at h5 ⊢
    refine ⟨h5.1.1, ?_⟩
    show (!((q0.1 + 1 == a) && ((qm_cv ad q0.2).category == 2))) = true
    rw [qm_cv_cat hz]
    exact h5.1.2
theorem qm_set_has2 {ad : qm_AD} (hz : ad.2.category = 1) {ls : Array Slot} {nL a : Nat} {x : Int64} {lv : qm_L} (h : lv_has ls nL ((a, Value.long x) :: (lv.map (qm_lc ad)).filter (fun q => !(q.1 == a) && (!(q.1 == a + 1) && !(q.1 + 1 == a && q.2.category == 2))))) : lv_has ls nL ((qm_set a (.long x) lv).map (qm_lc ad)) := by
  refine ⟨h.1, h.2.1, fun q hq => h.2.2 q ?_⟩
  obtain ⟨q0, h2, rfl⟩ := List.mem_map.mp hq
  rcases qm_ins_mem _ _ h2 with rfl | h3
  · exact List.mem_cons_self
  · obtain ⟨h4, h5⟩ := List.mem_filter.mp h3
    refine List.mem_cons_of_mem _ (List.mem_filter.mpr ⟨List.mem_map.mpr ⟨q0, h4, rfl⟩, ?_⟩)
    simp only [Bool.and_eq_true] at h5 ⊢
    refine ⟨h5.1.1, ?_, ?_⟩
    · have h6 := h5.2
      show (!(q0.1 == a + 1)) = true
      simpa [Value.category] using h6
    · show (!((q0.1 + 1 == a) && ((qm_cv ad q0.2).category == 2))) = true
      rw [qm_cv_cat hz]
      exact h5.1.2
theorem qm_i0 : (0 : Int32).toInt = 0 := rfl
theorem qm_lt {x y : Int32} : x < y ↔ x.toInt < y.toInt := Int32.lt_iff_toInt_lt
theorem qm_le {x y : Int32} : x ≤ y ↔ x.toInt ≤ y.toInt := Int32.le_iff_toInt_le
theorem qm_in {i : Int32} {n : Nat} (h : 0 ≤ i.toInt ∧ i.toInt < n) : vp_in i n := vp_in_iff.mpr h
theorem qm_fld_spec {h0 : qm_H} {r k ci : Nat} {kk : Value → Prop} (h : qm_fld h0 r k ci kk) : ∃ rs o, qm_sh[r]? = some (.inr (ci, rs)) ∧ rs[k]? = some o ∧ kk (match o with
    | some t => .ref t
    | none => .int (h0 r k)) := by
  unfold qm_fld at h
  split at h
  · rename_i c' rs e
    split at h
    · rename_i hc
      subst hc
      split at h
      · rename_i t e2; exact ⟨rs, _, e, e2, h⟩
      · rename_i e2; exact ⟨rs, _, e, e2, h⟩
      · exact h.elim
    · exact h.elim
  · exact h.elim
theorem qm_pfl_spec {h0 : qm_H} {r k ci : Nat} {x : Int32} {kk : qm_H → Prop} (h : qm_pfl h0 r k ci x kk) : ∃ rs, qm_sh[r]? = some (.inr (ci, rs)) ∧ rs[k]? = some none ∧ (qm_isz ci k = true → x = 0 ∨ x = 1) ∧ kk (qm_row h0 r (upd (h0 r) k x)) := by
  unfold qm_pfl at h
  split at h
  · rename_i c' rs e
    split at h
    · rename_i hc
      subst hc
      split at h
      · rename_i e2
        split at h
        · exact ⟨rs, e, e2, fun _ => h.1, h.2⟩
        · rename_i hz; exact ⟨rs, e, e2, fun q => absurd q hz, h⟩
      · exact h.elim
    · exact h.elim
  · exact h.elim
theorem qm_cls_in {a : Nat} {C : String} {T : u_T} {N : Nat} (h : vwCl[a]? = some (C, T, N)) : (∀ w ∈ u_ws C T N, w ∈ qm_tbl) ∧ ∃ ty : Nat → FieldType, (∀ k, k < N → parseFieldDescriptor (T k).2.2.1 = some (ty k)) ∧ ∀ x, x < N → ∀ y, y < N → x ≠ y → (T x).2.1 ≠ (T y).2.1 := by
  match a, h with
  | 0, h => cases h; exact ⟨by decide +kernel, tyX0, tyX0_ok, nmX0⟩
  | 1, h => cases h; exact ⟨by decide +kernel, tyX1, tyX1_ok, nmX1⟩
  | 2, h => cases h; exact ⟨by decide +kernel, tyX2, tyX2_ok, nmX2⟩
  | 3, h => cases h; exact ⟨by decide +kernel, tyX3, tyX3_ok, nmX3⟩
  | 4, h => cases h; exact ⟨by decide +kernel, tyX4, tyX4_ok, nmX4⟩
  | 5, h => cases h; exact ⟨by decide +kernel, tyX5, tyX5_ok, nmX5⟩
theorem qm_sw_go {x : Int32} {ts : List (Int32 × Nat)} {d : Nat} {k : Nat → Prop} (h : qm_sw x ts d k) : (∃ q ∈ ts, x = q.1 ∧ k q.2 ∧ ∀ q' ∈ ts, x = q'.1 → True) ∨ ((∀ q ∈ ts, ¬ x = q.1) ∧ k d) := by
  induction ts with
  | nil => exact Or.inr ⟨fun _ h => (by cases h), h⟩
  | cons q ts ih =>
    obtain ⟨v, t⟩ := q
    by_cases e : x = v
    · exact Or.inl ⟨(v, t), List.mem_cons_self, e, h.1 e, fun _ _ _ => trivial⟩
    · rcases ih (h.2 e) with ⟨q', h1, h2, h3, -⟩ | ⟨h1, h2⟩
      · exact Or.inl ⟨q', List.mem_cons_of_mem _ h1, h2, h3, fun _ _ _ => trivial⟩
      · refine Or.inr ⟨fun q' hq' => ?_, h2⟩
        rcases List.mem_cons.mp hq' with rfl | hq'
        · exact e
        · exact h1 q' hq'
theorem qm_tgs_spec {pc : Nat} : ∀ (offs : List Int) (ts : List (Int32 × Nat)) (lo : Int), qm_tgs pc lo offs ts = true → offs.length = ts.length ∧ ∀ (j : Nat) (q : Int32 × Nat), ts[j]? = some q → q.1.toInt = lo + j ∧ ∃ o, offs[j]? = some o ∧ (pc : Int) + o = (q.2 : Int)
  | [], [], lo, _ => ⟨rfl, fun j q h => by simp at h⟩
  | o :: offs, (v, t) :: ts, lo, h => by
    unfold qm_tgs at h
    simp only [Bool.and_eq_true, decide_eq_true_eq] at h
    obtain ⟨h1, h2⟩ := qm_tgs_spec offs ts (lo + 1) h.2
    refine ⟨by simp [h1], fun j q hj => ?_⟩
    cases j with
    | zero =>
      rw [List.getElem?_cons_zero] at hj
      cases hj
      exact ⟨by rw [h.1.1]; simp, o, rfl, h.1.2⟩
    | succ j =>
      rw [List.getElem?_cons_succ] at hj
      obtain ⟨a1, o', a2, a3⟩ := h2 j q hj
      refine ⟨by rw [a1]; omega, o', ?_, a3⟩
      rw [List.getElem?_cons_succ]; exact a2
theorem qm_lks_spec {pc d : Nat} {dflt : Int} (hd : (pc : Int) + dflt = (d : Int)) {x : Int32} {k : Nat → Prop} : ∀ (ps : List (Int × Int)) (ts : List (Int32 × Nat)), qm_lks pc ps ts = true → qm_sw x ts d k → ∃ tgt : Nat, (pc : Int) + Op.lookupswitch.offset ps dflt x.toInt = (tgt : Int) ∧ k tgt
  | [], [], _, h => ⟨d, hd, h⟩
  | (a, o) :: ps, (v, t) :: ts, hc, h => by
    unfold qm_lks at hc
    simp only [Bool.and_eq_true, decide_eq_true_eq] at hc
    rw [Op.lookupswitch.offset_cons]
    by_cases e : x = v
    · refine ⟨t, ?_, h.1 e⟩
      rw [if_pos (by rw [e]; exact hc.1.1.symm)]
      exact hc.1.2
    · obtain ⟨tgt, h1, h2⟩ := qm_lks_spec hd ps ts hc.2 (h.2 e)
      refine ⟨tgt, ?_, h2⟩
      rw [if_neg]
      · exact h1
      · intro q
        exact e (Int32.toInt_inj.mp (by rw [hc.1.1]; exact q.symm))
/-- what a call needs of its method's own words -/
theorem qm_mw {a : Nat} (ha : a < qm_n) (h9 : a ≠ qm_law) : (Cond.code (qm_y a) (qm_b a) (qm_ml a) (qm_ret a) ∈ qm_tbl ∧ Cond.initialized (qm_y a).cls ∈ qm_tbl) ∧ (qm_cls a = 9 → Cond.static (qm_y a) ∈ qm_tbl) ∧ (qm_cls a ≠ 9 → Cond.instanceMethod (qm_y a) ∈ qm_tbl ∧ Cond.selects (qm_y a).cls (qm_y a) (qm_y a) ∈ qm_tbl ∧ ((qm_cls a = 7 ∧ (qm_y a).cls = "java/lang/String") ∨ (qm_cls a ≠ 7 ∧ (vwCl[qm_cls a]?).map (fun q => q.1) = some (qm_y a).cls))) ∧ ((qm_y a).cls ≠ "java/lang/invoke/MethodHandle" ∧ (qm_y a).cls ≠ "java/lang/invoke/VarHandle" ∧ (parseMethodDescriptor (qm_y a).desc).map (fun d => d.parameters.length) = some (qm_np a)) ∧ plainFor (qm_y a) = true ∧ qm_own a = (qm_y a).cls := by
  have hl : a < qm_law := by
    have h1 : a < 240 := ha
    have h2 : a ≠ 239 := h9
    show a < 239
    omega
  have h := qm_mval a hl
  rw [Bool.and_eq_true] at h
  obtain ⟨h1, h2⟩ := h
  unfold qm_mk2 at h2
  simp only [Bool.and_eq_true, decide_eq_true_eq] at h2
  unfold qm_mk at h1
  split at h1
  · simp only [Bool.and_eq_true, decide_eq_true_eq] at h1
    exact ⟨⟨qm_cw a hl, qm_has_mem h1.2⟩, fun _ => qm_has_mem h1.1.2, fun q => absurd h1.1.1 q, ⟨h2.1.1.1.1, h2.1.1.1.2, h2.1.1.2⟩, h2.1.2, h2.2⟩
  · simp only [Bool.and_eq_true, decide_eq_true_eq] at h1
    refine ⟨⟨qm_cw a hl, qm_has_mem h1.1.2⟩, fun q => absurd q h1.1.1.1.1, fun _ => ⟨qm_has_mem h1.1.1.1.2, qm_has_mem h1.1.1.2, ?_⟩, ⟨h2.1.1.1.1, h2.1.1.1.2, h2.1.1.2⟩, h2.1.2, h2.2⟩
    have h3 := h1.2
    split at h3
    · rename_i e; exact Or.inl ⟨e, of_decide_eq_true h3⟩
    · rename_i e; exact Or.inr ⟨e, of_decide_eq_true h3⟩
  · cases h1
/-! ===== a method's contract out of its formula ===== -/
noncomputable def qm_sz (vs : List Value) : Nat := (vs.map fun v => v.category).sum
theorem qm_sz_sl : ∀ vs : List Value, (lg_sl vs).length = qm_sz vs
  | [] => rfl
  | v :: vs => by
    have ih := qm_sz_sl vs
    have e : lg_sl (v :: vs) = (if v.category = 2 then [Slot.val v, .second] else [Slot.val v]) ++ lg_sl vs := by simp [lg_sl]
    rw [e, List.length_append, ih]
    show _ = v.category + qm_sz vs
    rcases lv_cat v with h | h <;> simp [h]
theorem qm_sz_cv {ad : qm_AD} (hz : ad.2.category = 1) (vs : List Value) : qm_sz (vs.map (qm_cv ad)) = qm_sz vs := by
  unfold qm_sz
  rw [List.map_map]
  congr 1
  apply List.map_congr_left
  intro v _
  exact qm_cv_cat hz v
theorem qm_args_cv {ad : qm_AD} (hz : ad.2.category = 1) : ∀ (vs : List Value) (k : Nat), lv_args k (vs.map (qm_cv ad)) = (lv_args k vs).map (qm_lc ad)
  | [], _ => rfl
  | v :: vs, k => by
    show (k, qm_cv ad v) :: lv_args (if (qm_cv ad v).category = 2 then k + 2 else k + 1) (vs.map (qm_cv ad)) = _
    rw [qm_cv_cat hz, qm_args_cv hz vs]
    rfl
noncomputable def qm_rm (mid : Nat) : Room := { frames := qm_fr mid, cells := 0, slots := 0, locals := qm_lo mid }
noncomputable def qm_ws (mid : Nat) : List Cond := Cond.code (qm_y mid) (qm_b mid) (qm_ml mid) (qm_ret mid) :: qm_tbl
noncomputable def qm_Pc (X : qm_X) (D : va_G) (ca : Nat → ClassId) (ad : qm_AD) (h : qm_H) (sz : Nat) (as : List Value) : Array Value → State → Prop := va_Pc (as.map (qm_cv ad)) (fun U => U.heap.size = sz ∧ va_P D vwCl (qm_w ad ca h) U.heap ∧ va_D (fun _ => True) (qm_w ad ca h) ∧ qm_Env X D ca ad (va_A (qm_w ad ca h) sz) U)
noncomputable def qm_Qc (D : va_G) (ca : Nat → ClassId) (ad : qm_AD) (Q : qm_Q) (A : Nat → Prop) : Array Value → State → Outcome → State → Prop := fun _ st oc t => (∃ (r : Option Value) (h' : qm_H), oc = .returned (r.map (qm_cv ad)) ∧ Q r h' ∧ va_P D vwCl (qm_w ad ca h') t.heap) ∧ va_F A st t
theorem qm_met {X : qm_X} {mid : Nat} {as : List Value} {h : qm_H} {Q : qm_Q} (hm : mid < qm_n) (h9 : mid ≠ qm_law) (hsz : qm_sz as ≤ qm_ml mid) (k : qm_PW X mid as h Q) (l : Launch) (D : va_G) (ca : Nat → ClassId) (ad : qm_AD) (sz : Nat) : Met l (qm_y mid) (qm_ws mid) (qm_rm mid) (qm_Pc X D ca ad h sz as) (qm_Qc D ca ad Q (va_A (qm_w ad ca h) sz)) 0 0 (va_A (qm_w ad ca h) sz) := by
  obtain ⟨⟨hcd, hini⟩, -, -, -, hpl, hownE⟩ := qm_mw hm h9
  refine va_MetF (cc := qm_b mid) (maxL := qm_ml mid) (ret := qm_ret mid) hpl rfl ?_
  intro p e s m args below meth c s₁ B hml hv
  obtain ⟨rfl, hszz, hP, hD0, hE⟩ := hv
  have hts := atoms_spec (ws := qm_ws mid) B.pre
  have hown : s.vm.findClass (qm_own mid) = some m.cls := by rw [hownE]; exact findClass_of_methodNamed B.named
  have hlocks := B.notSynchronized
  subst hszz
  have hz := hE.1.2
  have hl := lv_entry (as.map (qm_cv ad)) (n := qm_ml mid) (by rw [qm_sz_sl, qm_sz_cv hz]; exact hsz)
  rw [qm_args_cv hz] at hl
  rw [lg_entry_eq]
  refine k p l e (qm_rm mid) s m _ below meth c s.heap [] 0 0 _ _ D ca ad (va_A (qm_w ad ca h) s.heap.size) ⟨⟨B.exec, B.bytes, hml, hown⟩, fun w hw => hts w (List.mem_cons_of_mem _ hw), hE, fun q hq => Or.inr hq, ⟨Nat.le_refl _, Nat.le_refl _, Nat.le_refl _, Nat.le_refl _⟩, hm⟩ hP hD0.self va_S.rf hl ?_
  intro pc' ls' H' locs' h' r hrt hq hP' hS'
  have post : ∀ t : State, t.heap = H' → qm_Qc D ca ad Q (va_A (qm_w ad ca h) s.heap.size) (as.map (qm_cv ad)).toArray s (.returned (r.map (qm_cv ad))) t := fun t ht => ⟨⟨r, h', rfl, hq, by rw [ht]; exact hP'⟩, hS'.F ht⟩
  cases r with
  | none => exact W.vret B.exec B.bytes (B.returns.trans hrt.2) (fun t ht _ => post t ht) hS'.2.2 hrt.1
  | some v =>
    cases v with
    | int x =>
      obtain ⟨h1, ty, h2, h3⟩ := hrt
      exact W.zret B.exec B.bytes (B.returns.trans h2) h3 (fun t ht _ => post t ht) hS'.2.2 h1
    | long x => exact W.lret B.exec B.bytes (B.returns.trans hrt.2) (fun t ht _ => post t ht) hS'.2.2 hrt.1
    | ref x =>
      obtain ⟨h1, ⟨n, h2⟩, h3⟩ := hrt
      refine W.aret B.exec B.bytes (B.returns.trans h2) (Or.inl ⟨n, rfl⟩) (Or.inr ⟨ad.1 x, qm_cv_ref h3⟩) (fun t ht _ => post t ht) hS'.2.2 h1
    | _ => exact hrt.elim
/-- behind a call -/
theorem qm_behind {p : Program} {l : Launch} {e : Env} {R : Room} {s : State} {m : MethodId} {args : Array Value} {below : List Frame} {meth : Method} {c : Code} {H : Heap} {locs : List Loc} {cells slots : Nat} {Qw : State → Prop} {pc : Nat} {ls : Array Slot} {st0 rest : List Value} {D : va_G} {ca : Nat → ClassId} {ad : qm_AD} {Q : qm_Q} {A A1 : Nat → Prop} {free : Addr → Prop} {a : Array Value}
    (hr : va_Run p l e R s m args below meth c H locs cells slots 0 0 (F0 m pc ls st0) rest (qm_Qc D ca ad Q A1 a) free) (hS : va_S A s.heap H locs) (hA : ∀ q, q < H.size → A1 q → A q) (hf : ∀ q, free q → A q)
    (kk : ∀ (r : Option Value) (h' : qm_H) (H1 : Heap) (locs1 : List Loc), Q r h' → va_P D vwCl (qm_w ad ca h') H1 → va_S A s.heap H1 locs1 → W p l e R s m args below meth c H1 locs1 cells slots Qw (F0 m (pc + 3) ls ((r.map (qm_cv ad)).toList ++ rest))) : W p l e R s m args below meth c H locs cells slots Qw (F0 m pc ls st0) := by
  intro T hT X
  obtain ⟨v, st₀, t, T', L, h0, X', hL, e1, e2, ⟨⟨r, h', hv, hq, hP⟩, hz, hk⟩, st⟩ := hr T hT X
  cases hv
  rw [h0] at hz hk
  obtain ⟨t2, a1, b1⟩ := kk r h' T'.heap (locs ++ L) hq (by rw [e1]; exact hP)
    ⟨Nat.le_trans hS.1 (by rw [e1]; exact hz), fun q h1 h2 => by rw [e1, hk q (Nat.lt_of_lt_of_le h1 hS.1) (fun z => h2 (hA q (Nat.lt_of_lt_of_le h1 hS.1) z))]; exact hS.2.1 q h1 h2, fun q hq => by
      rcases List.mem_append.mp hq with h | h
      · exact hS.2.2 q h
      · exact hf _ (hL q h)⟩ T' rfl X'
  exact ⟨t2, st t2 a1, b1⟩
theorem qm_Pc_blind {X : qm_X} {D : va_G} {ca : Nat → ClassId} {ad : qm_AD} {h : qm_H} {sz : Nat} {as : List Value} : FrameBlind (qm_Pc X D ca ad h sz as) := by
  intro a U g mk q
  obtain ⟨q0, q1, qP, qD, qE⟩ := q
  exact ⟨q0, q1, qP, qD, qE.blind rfl rfl⟩
theorem qm_Pc_go {X : qm_X} {D : va_G} {ca : Nat → ClassId} {ad : qm_AD} {h : qm_H} {as : List Value} {A : Nat → Prop} {s : State} {H : Heap} {locs : List Loc} (hE : qm_Env X D ca ad A s) (hP : va_P D vwCl (qm_w ad ca h) H) (hD : va_D A (qm_w ad ca h)) (hS : va_S A s.heap H locs) (hF : ∀ q, va_A (qm_w ad ca h) H.size q → A q) (U : State) (hU : U.heap = H) (hW : s.WarmedH U.vm) : qm_Pc X D ca ad h H.size as (as.map (qm_cv ad)).toArray U :=
  ⟨rfl, by rw [hU], by rw [hU]; exact hP, hD.weaken (fun _ _ _ _ => trivial), hE.go hW (fun a h1 h2 => by rw [hU]; exact hS.2.1 a h1 h2) hF⟩
theorem qm_w_free {ad : qm_AD} {ca : Nat → ClassId} {h : qm_H} {A : Nat → Prop} {s : State} {H : Heap} {locs : List Loc} (hD : va_D A (qm_w ad ca h)) (hS : va_S A s.heap H locs) (hA : ∀ q, s.heap.size ≤ q → A q) : ∀ q, va_A (qm_w ad ca h) H.size q → A q := by
  intro q hq
  rcases hq with ⟨k, e, hk⟩ | hq
  · exact hD.2 k (q, e) hk
  · exact hA q (Nat.le_trans hS.1 hq)
