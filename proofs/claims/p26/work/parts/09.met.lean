/-! ===== a method's contract out of its formula ===== -/
noncomputable def qm_sz (vs : List Value) : Nat := (vs.map fun v => v.category).sum
theorem qm_sz_sl : ∀ vs : List Value, (lg_sl vs).length = qm_sz vs
  | [] => rfl
  | v :: vs => by
    have ih := qm_sz_sl vs
    have e : lg_sl (v :: vs) = (if v.category = 2 then [Slot.val v, .second] else [Slot.val v]) ++ lg_sl vs := by simp [lg_sl]
    rw [e, List.length_append, ih]
    show _ = v.category + qm_sz vs
    rcases lv_cat v with h | h <;> simp [h]
theorem qm_sz_cv {ad : qm_AD} (hz : ad.2.category = 1) (vs : List Value) : qm_sz (vs.map (qm_cv ad)) = qm_sz vs := by
  unfold qm_sz
  rw [List.map_map]
  congr 1
  apply List.map_congr_left
  intro v _
  exact qm_cv_cat hz v
theorem qm_args_cv {ad : qm_AD} (hz : ad.2.category = 1) : ∀ (vs : List Value) (k : Nat), lv_args k (vs.map (qm_cv ad)) = (lv_args k vs).map (qm_lc ad)
  | [], _ => rfl
  | v :: vs, k => by
    show (k, qm_cv ad v) :: lv_args (if (qm_cv ad v).category = 2 then k + 2 else k + 1) (vs.map (qm_cv ad)) = _
    rw [qm_cv_cat hz, qm_args_cv hz vs]
    rfl
noncomputable def qm_rm (mid : Nat) : Room := { frames := qm_fr mid, cells := 0, slots := 0, locals := qm_lo mid }
noncomputable def qm_ws (mid : Nat) : List Cond := Cond.code (qm_y mid) (qm_b mid) (qm_ml mid) (qm_ret mid) :: qm_tbl
noncomputable def qm_Pc (X : qm_X) (D : va_G) (ca : Nat → ClassId) (ad : qm_AD) (h : qm_H) (sz : Nat) (as : List Value) : Array Value → State → Prop := va_Pc (as.map (qm_cv ad)) (fun U => U.heap.size = sz ∧ va_P D vwCl (qm_w ad ca h) U.heap ∧ va_D (fun _ => True) (qm_w ad ca h) ∧ qm_Env X D ca ad (va_A (qm_w ad ca h) sz) U)
noncomputable def qm_Qc (D : va_G) (ca : Nat → ClassId) (ad : qm_AD) (Q : qm_Q) (A : Nat → Prop) : Array Value → State → Outcome → State → Prop := fun _ st oc t => (∃ (r : Option Value) (h' : qm_H), oc = .returned (r.map (qm_cv ad)) ∧ Q r h' ∧ va_P D vwCl (qm_w ad ca h') t.heap) ∧ va_F A st t
theorem qm_met {X : qm_X} {mid : Nat} {as : List Value} {h : qm_H} {Q : qm_Q} (hm : mid < qm_n) (h9 : mid ≠ qm_law) (hsz : qm_sz as ≤ qm_ml mid) (k : qm_PW X mid as h Q) (l : Launch) (D : va_G) (ca : Nat → ClassId) (ad : qm_AD) (sz : Nat) : Met l (qm_y mid) (qm_ws mid) (qm_rm mid) (qm_Pc X D ca ad h sz as) (qm_Qc D ca ad Q (va_A (qm_w ad ca h) sz)) 0 0 (va_A (qm_w ad ca h) sz) := by
  obtain ⟨⟨hcd, hini⟩, -, -, -, hpl, hownE⟩ := qm_mw hm h9
  refine va_MetF (cc := qm_b mid) (maxL := qm_ml mid) (ret := qm_ret mid) hpl rfl ?_
  intro p e s m args below meth c s₁ B hml hv
  obtain ⟨rfl, hszz, hP, hD0, hE⟩ := hv
  have hts := atoms_spec (ws := qm_ws mid) B.pre
  have hown : s.vm.findClass (qm_own mid) = some m.cls := by rw [hownE]; exact findClass_of_methodNamed B.named
  have hlocks := B.notSynchronized
  subst hszz
  have hz := hE.1.2
  have hl := lv_entry (as.map (qm_cv ad)) (n := qm_ml mid) (by rw [qm_sz_sl, qm_sz_cv hz]; exact hsz)
  rw [qm_args_cv hz] at hl
  rw [lg_entry_eq]
  refine k p l e (qm_rm mid) s m _ below meth c s.heap [] 0 0 _ _ D ca ad (va_A (qm_w ad ca h) s.heap.size) ⟨⟨B.exec, B.bytes, hml, hown⟩, fun w hw => hts w (List.mem_cons_of_mem _ hw), hE, fun q hq => Or.inr hq, ⟨Nat.le_refl _, Nat.le_refl _, Nat.le_refl _, Nat.le_refl _⟩, hm⟩ hP hD0.self va_S.rf hl ?_
  intro pc' ls' H' locs' h' r hrt hq hP' hS'
  have post : ∀ t : State, t.heap = H' → qm_Qc D ca ad Q (va_A (qm_w ad ca h) s.heap.size) (as.map (qm_cv ad)).toArray s (.returned (r.map (qm_cv ad))) t := fun t ht => ⟨⟨r, h', rfl, hq, by rw [ht]; exact hP'⟩, hS'.F ht⟩
  cases r with
  | none => exact W.vret B.exec B.bytes (B.returns.trans hrt.2) (fun t ht _ => post t ht) hS'.2.2 hrt.1
  | some v =>
    cases v with
    | int x =>
      obtain ⟨h1, ty, h2, h3⟩ := hrt
      exact W.zret B.exec B.bytes (B.returns.trans h2) h3 (fun t ht _ => post t ht) hS'.2.2 h1
    | long x => exact W.lret B.exec B.bytes (B.returns.trans hrt.2) (fun t ht _ => post t ht) hS'.2.2 hrt.1
    | ref x =>
      obtain ⟨h1, ⟨n, h2⟩, h3⟩ := hrt
      refine W.aret B.exec B.bytes (B.returns.trans h2) (Or.inl ⟨n, rfl⟩) (Or.inr ⟨ad.1 x, qm_cv_ref h3⟩) (fun t ht _ => post t ht) hS'.2.2 h1
    | _ => exact hrt.elim
/-- behind a call -/
theorem qm_behind {p : Program} {l : Launch} {e : Env} {R : Room} {s : State} {m : MethodId} {args : Array Value} {below : List Frame} {meth : Method} {c : Code} {H : Heap} {locs : List Loc} {cells slots : Nat} {Qw : State → Prop} {pc : Nat} {ls : Array Slot} {st0 rest : List Value} {D : va_G} {ca : Nat → ClassId} {ad : qm_AD} {Q : qm_Q} {A A1 : Nat → Prop} {free : Addr → Prop} {a : Array Value}
    (hr : va_Run p l e R s m args below meth c H locs cells slots 0 0 (F0 m pc ls st0) rest (qm_Qc D ca ad Q A1 a) free) (hS : va_S A s.heap H locs) (hA : ∀ q, q < H.size → A1 q → A q) (hf : ∀ q, free q → A q)
    (kk : ∀ (r : Option Value) (h' : qm_H) (H1 : Heap) (locs1 : List Loc), Q r h' → va_P D vwCl (qm_w ad ca h') H1 → va_S A s.heap H1 locs1 → W p l e R s m args below meth c H1 locs1 cells slots Qw (F0 m (pc + 3) ls ((r.map (qm_cv ad)).toList ++ rest))) : W p l e R s m args below meth c H locs cells slots Qw (F0 m pc ls st0) := by
  intro T hT X
  obtain ⟨v, st₀, t, T', L, h0, X', hL, e1, e2, ⟨⟨r, h', hv, hq, hP⟩, hz, hk⟩, st⟩ := hr T hT X
  cases hv
  rw [h0] at hz hk
  obtain ⟨t2, a1, b1⟩ := kk r h' T'.heap (locs ++ L) hq (by rw [e1]; exact hP)
    ⟨Nat.le_trans hS.1 (by rw [e1]; exact hz), fun q h1 h2 => by rw [e1, hk q (Nat.lt_of_lt_of_le h1 hS.1) (fun z => h2 (hA q (Nat.lt_of_lt_of_le h1 hS.1) z))]; exact hS.2.1 q h1 h2, fun q hq => by
      rcases List.mem_append.mp hq with h | h
      · exact hS.2.2 q h
      · exact hf _ (hL q h)⟩ T' rfl X'
  exact ⟨t2, st t2 a1, b1⟩
theorem qm_Pc_blind {X : qm_X} {D : va_G} {ca : Nat → ClassId} {ad : qm_AD} {h : qm_H} {sz : Nat} {as : List Value} : FrameBlind (qm_Pc X D ca ad h sz as) := by
  intro a U g mk q
  obtain ⟨q0, q1, qP, qD, qE⟩ := q
  exact ⟨q0, q1, qP, qD, qE.blind rfl rfl⟩
theorem qm_Pc_go {X : qm_X} {D : va_G} {ca : Nat → ClassId} {ad : qm_AD} {h : qm_H} {as : List Value} {A : Nat → Prop} {s : State} {H : Heap} {locs : List Loc} (hE : qm_Env X D ca ad A s) (hP : va_P D vwCl (qm_w ad ca h) H) (hD : va_D A (qm_w ad ca h)) (hS : va_S A s.heap H locs) (hF : ∀ q, va_A (qm_w ad ca h) H.size q → A q) (U : State) (hU : U.heap = H) (hW : s.WarmedH U.vm) : qm_Pc X D ca ad h H.size as (as.map (qm_cv ad)).toArray U :=
  ⟨rfl, by rw [hU], by rw [hU]; exact hP, hD.weaken (fun _ _ _ _ => trivial), hE.go hW (fun a h1 h2 => by rw [hU]; exact hS.2.1 a h1 h2) hF⟩
theorem qm_w_free {ad : qm_AD} {ca : Nat → ClassId} {h : qm_H} {A : Nat → Prop} {s : State} {H : Heap} {locs : List Loc} (hD : va_D A (qm_w ad ca h)) (hS : va_S A s.heap H locs) (hA : ∀ q, s.heap.size ≤ q → A q) : ∀ q, va_A (qm_w ad ca h) H.size q → A q := by
  intro q hq
  rcases hq with ⟨k, e, hk⟩ | hq
  · exact hD.2 k (q, e) hk
  · exact hA q (Nat.le_trans hS.1 hq)
