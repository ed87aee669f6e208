/-! ===== the pure machine's formula holds: the machine itself comes to the end that it tells ===== -/
theorem qm_find_mem {l : List qm_E} {pc : Nat} {I : qm_I} (h : qm_find l pc = some I) : ∃ j p, (pc, I, j, p) ∈ l := by
  induction l with
  | nil => cases h
  | cons e t ih =>
    obtain ⟨k, J, j, p⟩ := e
    unfold qm_find at h
    split at h
    · rename_i hk
      cases h
      exact ⟨j, p, by rw [hk]; exact List.mem_cons_self⟩
    · obtain ⟨j', p', h'⟩ := ih h
      exact ⟨j', p', List.mem_cons_of_mem _ h'⟩
theorem qm_at_ok {m pc : Nat} {i : Instr} {nx a b : Nat} {v : Value} {ts : List (Int32 × Nat)} (hm : m < qm_n) (h : qm_at m pc = some (i, nx, a, b, v, ts)) : decode (qm_b m) pc = .ok (i, qm_dl i pc nx) ∧ qm_nl i pc nx = true ∧ ∃ j p, qm_ck m pc i nx a b v ts j p = true := by
  obtain ⟨j, p, hmem⟩ := qm_find_mem h
  have h1 := List.all_eq_true.mp (qm_valid m hm) _ hmem
  unfold qm_ok at h1
  simp only [Bool.and_eq_true, decide_eq_true_eq] at h1
  exact ⟨h1.1.1, h1.1.2, j, p, h1.2⟩
noncomputable abbrev qm_AD : Type := (Nat → Nat) × Value
noncomputable def qm_cv (ad : qm_AD) : Value → Value
  | .ref r => if r = 140 then ad.2 else .ref (ad.1 r)
  | v => v
noncomputable def qm_lc (ad : qm_AD) (q : Nat × Value) : Nat × Value := (q.1, qm_cv ad q.2)
noncomputable def qm_fv (ad : qm_AD) (h : qm_H) (r k : Nat) (o : Option Nat) : Value := match o with
  | some t => qm_cv ad (.ref t)
  | none => .int (h r k)
noncomputable def qm_fs (ad : qm_AD) (h : qm_H) (r : Nat) (rs : List (Option Nat)) : List Value := rs.mapIdx (qm_fv ad h r)
noncomputable def qm_ce (ad : qm_AD) (ca : Nat → ClassId) (h : qm_H) (r : Nat) (c : qm_T) : va_E := match c with
  | .inl (t, n) => .inl (ca t, n, .inl (h r))
  | .inr (ci, rs) => .inr (ci, qm_fs ad h r rs)
noncomputable def qm_w (ad : qm_AD) (ca : Nat → ClassId) (h : qm_H) : va_W := qm_sh.mapIdx (fun r c => (ad.1 r, qm_ce ad ca h r c))
theorem qm_sh_lt {r : Nat} {c : qm_T} (h : qm_sh[r]? = some c) : r < 51 := (List.getElem?_eq_some_iff.mp h).1
theorem qm_cv_ref {ad : qm_AD} {r : Nat} (h : r ≠ 140) : qm_cv ad (.ref r) = .ref (ad.1 r) := by simp [qm_cv, h]
theorem qm_cv_cat {ad : qm_AD} (hz : ad.2.category = 1) (v : Value) : (qm_cv ad v).category = v.category := by
  cases v <;> try rfl
  rename_i r
  show (if r = 140 then ad.2 else Value.ref (ad.1 r)).category = 1
  split
  · exact hz
  · rfl
theorem qm_w_at {ad : qm_AD} {ca : Nat → ClassId} {h0 : qm_H} {r : Nat} {c : qm_T} (h : qm_sh[r]? = some c) : (qm_w ad ca h0)[r]? = some (ad.1 r, qm_ce ad ca h0 r c) := by
  unfold qm_w
  rw [List.getElem?_mapIdx, h]
  rfl
theorem qm_w_arr {ad : qm_AD} {ca : Nat → ClassId} {h0 : qm_H} {r t n : Nat} {f : Nat → Int32} (h : qm_sh[r]? = some (.inl (t, n))) : (qm_w ad ca h0).set r (ad.1 r, .inl (ca t, n, .inl f)) = qm_w ad ca (qm_row h0 r f) := by
  have hl := (List.getElem?_eq_some_iff.mp h).1
  apply List.ext_getElem?
  intro k
  by_cases hk : k = r
  · subst hk
    rw [List.getElem?_set_self (by unfold qm_w; rw [List.length_mapIdx]; exact hl), qm_w_at h]
    simp [qm_ce, qm_row]
  · rw [List.getElem?_set_ne (Ne.symm hk)]
    unfold qm_w
    rw [List.getElem?_mapIdx, List.getElem?_mapIdx]
    cases hc : qm_sh[k]? with
    | none => rfl
    | some c =>
      simp only [Option.map_some]
      have e : qm_ce ad ca (qm_row h0 r f) k c = qm_ce ad ca h0 k c := by
        cases c with
        | inl q => simp [qm_ce, qm_row, hk]
        | inr q =>
          have e2 : qm_fv ad (qm_row h0 r f) k = qm_fv ad h0 k := by
            funext i o
            cases o <;> simp [qm_fv, qm_row, hk]
          simp [qm_ce, qm_fs, e2]
      rw [e]
theorem qm_fs_at {ad : qm_AD} {h0 : qm_H} {r k : Nat} {rs : List (Option Nat)} {o : Option Nat} (h : rs[k]? = some o) : (qm_fs ad h0 r rs)[k]? = some (qm_fv ad h0 r k o) := by
  unfold qm_fs
  rw [List.getElem?_mapIdx, h]
  rfl
theorem qm_w_fld {ad : qm_AD} {ca : Nat → ClassId} {h0 : qm_H} {r ci k : Nat} {rs : List (Option Nat)} {x : Int32} (h : qm_sh[r]? = some (.inr (ci, rs))) (hk0 : rs[k]? = some none) : (qm_w ad ca h0).set r (ad.1 r, .inr (ci, (qm_fs ad h0 r rs).set k (.int x))) = qm_w ad ca (qm_row h0 r (upd (h0 r) k x)) := by
  have hl := (List.getElem?_eq_some_iff.mp h).1
  have hlk := (List.getElem?_eq_some_iff.mp hk0).1
  apply List.ext_getElem?
  intro j
  by_cases hj : j = r
  · subst hj
    rw [List.getElem?_set_self (by unfold qm_w; rw [List.length_mapIdx]; exact hl), qm_w_at h]
    have e : (qm_fs ad h0 j rs).set k (.int x) = qm_fs ad (qm_row h0 j (upd (h0 j) k x)) j rs := by
      apply List.ext_getElem?
      intro i
      by_cases hi : i = k
      · subst hi
        rw [List.getElem?_set_self (by unfold qm_fs; rw [List.length_mapIdx]; exact hlk), qm_fs_at hk0]
        simp [qm_fv, qm_row, upd]
      · rw [List.getElem?_set_ne (Ne.symm hi)]
        unfold qm_fs
        rw [List.getElem?_mapIdx, List.getElem?_mapIdx]
        cases hc : rs[i]? with
        | none => rfl
        | some o =>
          simp only [Option.map_some]
          cases o with
          | some t => rfl
          | none => simp [qm_fv, qm_row, upd, hi]
    rw [e]
    rfl
  · rw [List.getElem?_set_ne (Ne.symm hj)]
    unfold qm_w
    rw [List.getElem?_mapIdx, List.getElem?_mapIdx]
    cases hc : qm_sh[j]? with
    | none => rfl
    | some c =>
      simp only [Option.map_some]
      have e : qm_ce ad ca (qm_row h0 r (upd (h0 r) k x)) j c = qm_ce ad ca h0 j c := by
        cases c with
        | inl q => simp [qm_ce, qm_row, hj]
        | inr q =>
          have e2 : qm_fv ad (qm_row h0 r (upd (h0 r) k x)) j = qm_fv ad h0 j := by
            funext i o
            cases o <;> simp [qm_fv, qm_row, hj]
          simp [qm_ce, qm_fs, e2]
      rw [e]
/-- addresses alone say that cells are apart -/
theorem qm_w_D {ad : qm_AD} {ca : Nat → ClassId} {h0 h1 : qm_H} {A : Nat → Prop} (h : va_D A (qm_w ad ca h0)) : va_D A (qm_w ad ca h1) := by
  have key : ∀ (k : Nat) (q : Nat × va_E), (qm_w ad ca h1)[k]? = some q → ∃ q0, (qm_w ad ca h0)[k]? = some q0 ∧ q0.1 = q.1 := by
    intro k q hq
    unfold qm_w at hq ⊢
    rw [List.getElem?_mapIdx] at hq ⊢
    cases hc : qm_sh[k]? with
    | none => rw [hc] at hq; cases hq
    | some c => rw [hc] at hq; cases hq; exact ⟨_, rfl, rfl⟩
  refine ⟨fun i j x y hi hj hxy => ?_, fun k q hk => ?_⟩
  · obtain ⟨x0, a1, a2⟩ := key i x hi
    obtain ⟨y0, b1, b2⟩ := key j y hj
    exact h.1 i j x0 y0 a1 b1 (a2.trans (hxy.trans b2.symm))
  · obtain ⟨q0, a1, a2⟩ := key k q hk
    rw [← a2]
    exact h.2 k q0 a1
/-- what the machine's state holds beside the cells: classes, the arrays and words that nobody writes -/
noncomputable def qm_Env (X : qm_X) (D : va_G) (ca : Nat → ClassId) (ad : qm_AD) (A : Nat → Prop) (U : State) : Prop :=
  (va_K D vwCl [(ca 0, .int), (ca 1, .byte), (ca 2, .boolean)] U ∧ ad.2.category = 1) ∧
  (va_Z "ThreadBank" "ROOMS" "[I" (.ref (ad.1 100)) A U U.heap ∧ va_Z "ThreadBank$Clearing" "RINGS" "[I" (.ref (ad.1 101)) A U U.heap ∧ va_Z "java/lang/String" "COMPACT_STRINGS" "Z" (.int 1) A U U.heap ∧ va_Z "jdk/internal/util/Preconditions" "SIOOBE_FORMATTER" "Ljava/util/function/BiFunction;" ad.2 A U U.heap) ∧
  (va_T .int (ad.1 100) 20 (fun j => .int (qm_rooms.getD j 0)) A U U.heap ∧ va_T .int (ad.1 101) 100 (fun j => .int (qm_rings.getD j 0)) A U U.heap ∧ va_T .int (ad.1 130) X.1 (fun j => .int (X.2 j)) A U U.heap) ∧
  (vk_S 6 qm_slen qm_sbyt (fun i => ad.1 (110 + i)) (fun i => ad.1 (120 + i)) A U U.heap ∧ ∀ i, i < 6 → vk_R "ThreadBank$TextReader" (qm_six.getD i 0) (qm_stx.getD i "") (ad.1 (110 + i)) U) ∧
  (va_Nw (.methodLinkNest "ThreadBank$Memory" qm_nestM (qm_y qm_hasBit) "ThreadBank") U ∧ va_Nw (.fieldLinkNest "ThreadBank$Memory" qm_nestF "ThreadBank" "ROOMS" "[I" "ThreadBank") U)
theorem qm_Env.go {X : qm_X} {D : va_G} {ca : Nat → ClassId} {ad : qm_AD} {A B : Nat → Prop} {s U : State} (h : qm_Env X D ca ad A s) (hW : s.WarmedH U.vm) (hH : ∀ a : Nat, a < s.heap.size → ¬ A a → U.heap[a]? = s.heap[a]?) (hB : ∀ q, B q → A q) : qm_Env X D ca ad B U := by
  obtain ⟨⟨h1, h1z⟩, ⟨h2, h3, h4, h4b⟩, ⟨h5, h6, h6b⟩, ⟨h7, h8⟩, h9, h10⟩ := h
  have hv := hW.alike
  exact ⟨⟨va_K.moved hv h1, h1z⟩, ⟨((h2.moved hv).kept hH).narrow hB, ((h3.moved hv).kept hH).narrow hB, ((h4.moved hv).kept hH).narrow hB, ((h4b.moved hv).kept hH).narrow hB⟩, ⟨((h5.moved hv).kept hH).narrow hB, ((h6.moved hv).kept hH).narrow hB, ((h6b.moved hv).kept hH).narrow hB⟩, ⟨((h7.moved hv).kept hH).narrow hB, fun i hi => (h8 i hi).warm hW⟩, va_Nw.warmM hW h9, va_Nw.warmF hW h10⟩
theorem qm_Env.blind {X : qm_X} {D : va_G} {ca : Nat → ClassId} {ad : qm_AD} {A : Nat → Prop} {U V : State} (h : qm_Env X D ca ad A U) (hv : V.vm = U.vm) (hH : V.heap = U.heap) : qm_Env X D ca ad A V := by
  obtain ⟨⟨h1, h1z⟩, ⟨h2, h3, h4, h4b⟩, ⟨h5, h6, h6b⟩, ⟨h7, h8⟩, h9, h10⟩ := h
  have ha : U.vm.Alike V.vm := by rw [hv]; exact Vm.Alike.refl _
  unfold qm_Env
  rw [hH]
  exact ⟨⟨va_K.moved ha h1, h1z⟩, ⟨h2.moved ha, h3.moved ha, h4.moved ha, h4b.moved ha⟩, ⟨h5.moved ha, h6.moved ha, h6b.moved ha⟩, ⟨h7.moved ha, fun i hi => (h8 i hi).same hv⟩, va_Nw.same rfl hv.symm h9, va_Nw.same rfl hv.symm h10⟩
/-- where a method stands: machine, code, words, room -/
noncomputable def qm_Cx (X : qm_X) (mid : Nat) (p : Program) (R : Room) (s : State) (m : MethodId) (args : Array Value) (c : Code) (cells slots : Nat) (D : va_G) (ca : Nat → ClassId) (ad : qm_AD) (A : Nat → Prop) : Prop :=
  (p.tables.exec = Jvm.exec ∧ c.code = qm_b mid ∧ c.maxLocals = qm_ml mid ∧ s.vm.findClass (qm_own mid) = some m.cls) ∧ (∀ w ∈ qm_tbl, w.before args s = true) ∧ qm_Env X D ca ad A s ∧ (∀ q, s.heap.size ≤ q → A q) ∧ (qm_fr mid ≤ R.frames ∧ qm_lo mid ≤ R.locals ∧ cells ≤ R.cells ∧ slots ≤ R.slots) ∧ mid < qm_n
/-- a return: at its pc stands the instruction that gives r back -/
noncomputable def qm_rt (mid pc : Nat) (r : Option Value) : Prop := match r with
  | none => decode (qm_b mid) pc = .ok (.return_, 1) ∧ qm_ret mid = none
  | some (.int x) => decode (qm_b mid) pc = .ok (.ireturn, 1) ∧ ∃ ty, qm_ret mid = some ty ∧ narrow ty (.int x) = .int x
  | some (.long _) => decode (qm_b mid) pc = .ok (.lreturn, 1) ∧ qm_ret mid = some .long
  | some (.ref x) => decode (qm_b mid) pc = .ok (.areturn, 1) ∧ (∃ n, qm_ret mid = some (.object n)) ∧ x ≠ 140
  | _ => False
/-- PA: from this pc, with these locals, this stack and this store the method comes to its end, and there Q -/
noncomputable def qm_PA (X : qm_X) (mid pc : Nat) (lv : qm_L) (st : List Value) (h : qm_H) (Q : qm_Q) : Prop :=
  ∀ (p : Program) (l : Launch) (e : Env) (R : Room) (s : State) (m : MethodId) (args : Array Value) (below : List Frame) (meth : Method) (c : Code) (H : Heap) (locs : List Loc) (cells slots : Nat) (Qw : State → Prop) (ls : Array Slot) (D : va_G) (ca : Nat → ClassId) (ad : qm_AD) (A : Nat → Prop),
    qm_Cx X mid p R s m args c cells slots D ca ad A → va_P D vwCl (qm_w ad ca h) H → va_D A (qm_w ad ca h) → va_S A s.heap H locs → lv_has ls (qm_ml mid) (lv.map (qm_lc ad)) →
    (∀ (pc' : Nat) (ls' : Array Slot) (H' : Heap) (locs' : List Loc) (h' : qm_H) (r : Option Value), qm_rt mid pc' r → Q r h' → va_P D vwCl (qm_w ad ca h') H' → va_S A s.heap H' locs' → W p l e R s m args below meth c H' locs' cells slots Qw (F0 m pc' ls' (r.toList.map (qm_cv ad)))) →
    W p l e R s m args below meth c H locs cells slots Qw (F0 m pc ls (st.map (qm_cv ad)))
noncomputable def qm_PW (X : qm_X) (mid : Nat) (as : List Value) (h : qm_H) (Q : qm_Q) : Prop := qm_PA X mid 0 (lv_args 0 as) [] h Q
theorem qm_PA.mono {X : qm_X} {mid pc : Nat} {lv : qm_L} {st : List Value} {h : qm_H} {Q Q' : qm_Q} (hq : ∀ r h, Q r h → Q' r h) (k : qm_PA X mid pc lv st h Q) : qm_PA X mid pc lv st h Q' :=
  fun p l e R s m args below meth c H locs cells slots Qw ls D ca ad A hC hP hD hS hl hr => k p l e R s m args below meth c H locs cells slots Qw ls D ca ad A hC hP hD hS hl (fun pc' ls' H' locs' h' r h1 h2 => hr pc' ls' H' locs' h' r h1 (hq r h' h2))
/-- fewer locals known: more is said -/
theorem qm_PA.fewer {X : qm_X} {mid pc : Nat} {lv lv' : qm_L} {st : List Value} {h : qm_H} {Q : qm_Q} (hs : ∀ q ∈ lv', q ∈ lv) (k : qm_PA X mid pc lv' st h Q) : qm_PA X mid pc lv st h Q :=
  fun p l e R s m args below meth c H locs cells slots Qw ls D ca ad A hC hP hD hS hl hr => k p l e R s m args below meth c H locs cells slots Qw ls D ca ad A hC hP hD hS ⟨hl.1, hl.2.1, fun q hq => by
    obtain ⟨q0, h1, h2⟩ := List.mem_map.mp hq
    exact hl.2.2 q (List.mem_map.mpr ⟨q0, hs q0 h1, h2⟩)⟩ hr
