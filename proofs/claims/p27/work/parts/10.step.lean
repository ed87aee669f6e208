/-! ===== the step: an instruction's formula gives the machine's own run ===== -/
theorem qm_ald_spec {X : qm_X} {t r : Nat} {i : Int32} {h0 : qm_H} {kk : Int32 → Prop} (h : qm_ald X t r i h0 kk) : (∃ t' n, qm_sh[r]? = some (.inl (t', n)) ∧ ((t = 0 ∧ t' = 0) ∨ (t = 1 ∧ (t' = 1 ∨ t' = 2))) ∧ (0 ≤ i.toInt ∧ i.toInt < n) ∧ kk (h0 r i.toInt.toNat)) ∨ (∃ n f, qm_ca X r = some (t, n, f) ∧ (0 ≤ i.toInt ∧ i.toInt < n) ∧ kk (f i.toInt.toNat)) := by
  unfold qm_ald at h
  split at h
  · rename_i t' n e
    split at h
    · rename_i hc; exact Or.inl ⟨t', n, e, hc, h.1, h.2⟩
    · exact h.elim
  · exact h.elim
  · split at h
    · rename_i t' n f e
      split at h
      · rename_i hc; subst hc; exact Or.inr ⟨n, f, e, h.1, h.2⟩
      · exact h.elim
    · exact h.elim
theorem qm_ast_spec {t r : Nat} {i : Int32} {h0 : qm_H} {x : Int32} {kk : qm_H → Prop} (h : qm_ast t r i h0 x kk) : ∃ t' n, qm_sh[r]? = some (.inl (t', n)) ∧ (0 ≤ i.toInt ∧ i.toInt < n) ∧ ((t = 0 ∧ t' = 0 ∧ kk (qm_row h0 r (upd (h0 r) i.toInt.toNat x))) ∨ (t = 1 ∧ t' = 1 ∧ kk (qm_row h0 r (upd (h0 r) i.toInt.toNat x.toInt8.toInt32))) ∨ (t = 1 ∧ t' = 2 ∧ kk (qm_row h0 r (upd (h0 r) i.toInt.toNat (vp_nar .boolean x))))) := by
  unfold qm_ast at h
  split at h
  · rename_i t' n e
    split at h
    · rename_i hc; exact ⟨t', n, e, h.1, Or.inl ⟨hc.1, hc.2, h.2⟩⟩
    · split at h
      · rename_i hc; exact ⟨t', n, e, h.1, Or.inr (Or.inl ⟨hc.1, hc.2, h.2⟩)⟩
      · split at h
        · rename_i hc; exact ⟨t', n, e, h.1, Or.inr (Or.inr ⟨hc.1, hc.2, h.2⟩)⟩
        · exact h.elim
  · exact h.elim
theorem qm_ca_spec {X : qm_X} {D : va_G} {ca : Nat → ClassId} {ad : qm_AD} {A : Nat → Prop} {U : State} (hE : qm_Env X D ca ad A U) {r t n : Nat} {f : Nat → Int32} (h : qm_ca X r = some (t, n, f)) : r ≠ 140 ∧ ((t = 0 ∧ va_T .int (ad.1 r) n (fun j => .int (f j)) A U U.heap) ∨ (t = 1 ∧ va_T .byte (ad.1 r) n (fun j => .int (f j)) A U U.heap)) := by
  unfold qm_ca at h
  split at h
  · rename_i e; subst e
    have h2 := Option.some.inj h
    rw [← (Prod.mk.inj h2).1, ← (Prod.mk.inj (Prod.mk.inj h2).2).1, ← (Prod.mk.inj (Prod.mk.inj h2).2).2]
    exact ⟨by decide, Or.inl ⟨rfl, hE.2.2.1.1⟩⟩
  · split at h
    · rename_i e; subst e
      have h2 := Option.some.inj h
      rw [← (Prod.mk.inj h2).1, ← (Prod.mk.inj (Prod.mk.inj h2).2).1, ← (Prod.mk.inj (Prod.mk.inj h2).2).2]
      exact ⟨by decide, Or.inl ⟨rfl, hE.2.2.1.2.1⟩⟩
    · split at h
      · rename_i e; subst e
        have h2 := Option.some.inj h
        rw [← (Prod.mk.inj h2).1, ← (Prod.mk.inj (Prod.mk.inj h2).2).1, ← (Prod.mk.inj (Prod.mk.inj h2).2).2]
        exact ⟨by decide, Or.inl ⟨rfl, hE.2.2.1.2.2⟩⟩
      · split at h
        · rename_i e
          have h2 := Option.some.inj h
          rw [← (Prod.mk.inj h2).1, ← (Prod.mk.inj (Prod.mk.inj h2).2).1, ← (Prod.mk.inj (Prod.mk.inj h2).2).2]
          have h1 := (hE.2.2.2.1.1.1 (r - 120) (by omega)).2.2.2
          dsimp only at h1
          rw [show 120 + (r - 120) = r from by omega] at h1
          exact ⟨by omega, Or.inr ⟨rfl, h1⟩⟩
        · cases h
theorem qm_len_spec {X : qm_X} {r : Nat} {kk : Int32 → Prop} (h : qm_len X r kk) : (∃ t n, qm_sh[r]? = some (.inl (t, n)) ∧ kk (nI n)) ∨ (∃ t n f, qm_ca X r = some (t, n, f) ∧ kk (nI n)) := by
  unfold qm_len at h
  split at h
  · rename_i t n e; exact Or.inl ⟨t, n, e, h⟩
  · exact h.elim
  · split at h
    · rename_i t n f e; exact Or.inr ⟨t, n, f, e, h⟩
    · exact h.elim
theorem qm_sh_ty : qm_sh.all (fun c => match c with
    | .inl (t, _) => decide (t < 3)
    | .inr _ => true) = true := by decide +kernel
theorem qm_sh_t3 {r t n : Nat} (h : qm_sh[r]? = some (.inl (t, n))) : t = 0 ∨ t = 1 ∨ t = 2 := by
  have h1 := List.all_eq_true.mp qm_sh_ty _ (List.mem_of_getElem? h)
  have h2 : t < 3 := of_decide_eq_true h1
  omega
theorem qm_cpy_spec {h0 : qm_H} {st : List Value} {kk : qm_H → List Value → Prop} (h : qm_cpy h0 st kk) : ∃ (n dp sp : Int32) (d s0 n0 n1 : Nat) (rest : List Value), st = .int n :: .int dp :: .ref d :: .int sp :: .ref s0 :: rest ∧ qm_sh[s0]? = some (.inl (0, n0)) ∧ qm_sh[d]? = some (.inl (0, n1)) ∧ (rest.map fun v => v.category).sum = 0 ∧ (0 ≤ sp.toInt ∧ 0 ≤ dp.toInt ∧ 0 ≤ n.toInt ∧ sp.toInt + n.toInt ≤ n0 ∧ dp.toInt + n.toInt ≤ n1) ∧ kk (qm_row h0 d (va_cpy (h0 s0) (h0 d) sp.toInt.toNat dp.toInt.toNat n.toInt.toNat)) rest := by
  unfold qm_cpy at h
  split at h
  · rename_i n dp d sp s0 rest
    split at h
    · rename_i t0 n0 t1 n1 e0 e1
      split at h
      · rename_i hc
        obtain ⟨rfl, rfl, hc⟩ := hc
        exact ⟨n, dp, sp, d, s0, n0, n1, rest, rfl, e0, e1, hc, h.1, h.2⟩
      · exact h.elim
    · exact h.elim
  · exact h.elim
theorem qm_goodW {a : Nat} (hc : Cond.code (qm_y a) (qm_b a) (qm_ml a) (qm_ret a) ∈ qm_tbl) : GoodIn qm_tbl (qm_ws a) := by
  intro w hw
  rcases List.mem_cons.mp hw with rfl | hw
  · exact qm_tbl_in _ hc
  · exact qm_tbl_in _ hw
theorem qm_cat_cv {ad : qm_AD} (hz : ad.2.category = 1) (vs : List Value) : ((vs.map (qm_cv ad)).map fun v => v.category).sum = (vs.map fun v => v.category).sum := qm_sz_cv hz vs
theorem qm_retI_spec {rt : Option FieldType} {v : Int32} {k : Prop} (h : qm_retI rt v k) : (∃ ty, rt = some ty ∧ narrow ty (.int v) = .int v) ∧ k := by
  unfold qm_retI at h
  split at h
  · exact ⟨⟨_, rfl, rfl⟩, h⟩
  · refine ⟨⟨_, rfl, ?_⟩, h.2⟩
    rcases h.1 with rfl | rfl <;> rfl
  · refine ⟨⟨_, rfl, ?_⟩, h.2⟩
    rw [h.1]; rfl
  · refine ⟨⟨_, rfl, ?_⟩, h.2⟩
    obtain ⟨⟨h1, h2⟩, -⟩ := h
    obtain ⟨n, hn, e⟩ : ∃ n : Nat, n < 65536 ∧ v = nI n := by
      refine ⟨v.toInt.toNat, by omega, ?_⟩
      apply Int32.toInt_inj.mp
      rw [nI_toInt (by omega)]
      omega
    rw [e]
    exact (pk_charN hn).1
  · exact h.elim
theorem qm_ne {r : Nat} (h : r < 51) : r ≠ 140 := by omega
theorem qm_ne2 {r : Nat} (h : 110 ≤ r ∧ r < 116) : r ≠ 140 := by omega
theorem qm_ne3 {r : Nat} (h : 110 ≤ r ∧ r < 116) : r + 10 ≠ 140 := by omega
theorem qm_sub1 {r : Nat} (h : 110 ≤ r ∧ r < 116) : r - 110 < 6 ∧ 110 + (r - 110) = r ∧ 120 + (r - 110) = r + 10 := by omega
set_option maxHeartbeats 4000000 in
set_option maxRecDepth 100000 in
theorem qm_step {X : qm_X} {mid pc : Nat} {lv : qm_L} {st : List Value} {h : qm_H} {Q : qm_Q} {I : qm_I} (ha : qm_at mid pc = some I)
    (k : qm_ins X (qm_ret mid) qm_cls qm_ml I lv st h (fun pc' lv' st' h' => qm_PA X mid pc' lv' st' h' Q) (fun m as P => m ≠ qm_law ∧ qm_PW X m as h P) Q) : qm_PA X mid pc lv st h Q := by
  obtain ⟨i, nx, a, b, v, ts⟩ := I
  intro p l e R s m args below meth c H locs cells slots Qw ls D ca ad A hC hP hD hS hl hr
  have hC0 := hC
  obtain ⟨⟨hx, hb, hml, hown⟩, hts, hE, hA, ⟨hfr, hlo, hcel, hslo⟩, hmid⟩ := hC
  obtain ⟨hd, hn, j, q, hk⟩ := qm_at_ok hmid ha
  have hz := hE.1.2
  have hK := hE.1.1
  have go : ∀ {pc' : Nat} {lv' : qm_L} {st' : List Value} {h' : qm_H} {H' : Heap} {locs' : List Loc} {ls' : Array Slot}, qm_PA X mid pc' lv' st' h' Q → va_P D vwCl (qm_w ad ca h') H' → va_S A s.heap H' locs' → lv_has ls' (qm_ml mid) (lv'.map (qm_lc ad)) → W p l e R s m args below meth c H' locs' cells slots Qw (F0 m pc' ls' (st'.map (qm_cv ad))) :=
    fun k' hP' hS' hl' => k' p l e R s m args below meth c _ _ cells slots Qw _ D ca ad A hC0 hP' (qm_w_D hD) hS' hl' hr
  have loc : ∀ {q : Nat × Value}, q ∈ lv → ls[q.1]? = some (.val (qm_cv ad q.2)) := fun hq => hl.2.2 _ (List.mem_map.mpr ⟨_, hq, rfl⟩)
  cases i
  case iconst n =>
    have hv := of_decide_eq_true hk
    subst hv
    have hnx : nx = pc + 1 := by simpa [qm_nl, qm_ln] using hn
    subst hnx
    exact lv_iconst hx hb hd rfl (go k hP hS hl)
  case bipush n =>
    have hv := of_decide_eq_true hk
    subst hv
    have hnx : nx = pc + 2 := by simpa [qm_nl, qm_ln] using hn
    subst hnx
    exact lv_bipush hx hb hd rfl (go k hP hS hl)
  case sipush n =>
    have hv := of_decide_eq_true hk
    subst hv
    have hnx : nx = pc + 3 := by simpa [qm_nl, qm_ln] using hn
    subst hnx
    exact lv_sipush hx hb hd rfl (go k hP hS hl)
  case lconst n =>
    have hv := of_decide_eq_true hk
    subst hv
    have hnx : nx = pc + 1 := by simpa [qm_nl, qm_ln] using hn
    subst hnx
    exact lv_lconst hx hb hd rfl (go k hP hS hl)
  case ldc n =>
    have hnx : nx = pc + 2 := by simpa [qm_nl, qm_ln] using hn
    subst hnx
    unfold qm_ck at hk
    dsimp only at hk
    split at hk
    · exact lv_ldc hx hb hown (hts _ (qm_has_mem hk)) hd (go k hP hS hl)
    · rename_i r
      simp only [Bool.and_eq_true, decide_eq_true_eq] at hk
      obtain ⟨⟨ho, h1, h2⟩, h3⟩ := hk
      have hR := hE.2.2.2.1.2 (r - 110) (qm_sub1 ⟨h1, h2⟩).1
      rw [h3, ← ho] at hR
      rw [(qm_sub1 ⟨h1, h2⟩).2.1] at hR
      have k' := go k hP hS hl
      rw [List.map_cons, qm_cv_ref (qm_ne2 ⟨h1, h2⟩)] at k'
      exact va_ldcS hx hb hown hR hd k'
    · cases hk
  case ldc_w n =>
    have hnx : nx = pc + 3 := by simpa [qm_nl, qm_ln] using hn
    subst hnx
    unfold qm_ck at hk
    dsimp only at hk
    split at hk
    · exact lv_ldcw hx hb hown (hts _ (qm_has_mem hk)) hd (go k hP hS hl)
    · cases hk
  case ldc2_w n =>
    have hnx : nx = pc + 3 := by simpa [qm_nl, qm_ln] using hn
    subst hnx
    unfold qm_ck at hk
    dsimp only at hk
    split at hk
    · exact lv_ldc2 hx hb hown (hts _ (qm_has_mem hk)) hd (go k hP hS hl)
    · cases hk
  case getstatic n =>
    have hnx : nx = pc + 3 := by simpa [qm_nl, qm_ln] using hn
    subst hnx
    unfold qm_ck at hk
    dsimp only at hk
    split at hk
    · rename_i r
      simp only [Bool.or_eq_true, Bool.and_eq_true, decide_eq_true_eq] at hk
      rcases hk with (⟨⟨h1, h2⟩, h3⟩ | ⟨h1, h2⟩) | ⟨h1, h2⟩
      · subst h1; subst h3
        refine va_getsN hx hb hE.2.1.1 hS (by rw [← h2]; exact hown) (va_Nw.use rfl hE.2.2.2.2.2) (fun _ h => h) hd ?_
        exact go k hP hS hl
      · subst h1
        exact va_gets hx hb hE.2.1.2.1 hS hown (hts _ (qm_has_mem h2)) (fun _ h => h) hd (go k hP hS hl)
      · subst h1
        exact va_gets hx hb hE.2.1.2.2.2 hS hown (hts _ (qm_has_mem h2)) (fun _ h => h) hd (go k hP hS hl)
    · rename_i x
      simp only [Bool.and_eq_true, decide_eq_true_eq] at hk
      obtain ⟨h1, h2⟩ := hk
      subst h1
      exact va_gets hx hb hE.2.1.2.2.1 hS hown (hts _ (qm_has_mem h2)) (fun _ h => h) hd (go k hP hS hl)
    · cases hk
  case iload_n n =>
    have hv := of_decide_eq_true hk
    have hnx : nx = pc + 1 := by simpa [qm_nl, qm_ln] using hn
    subst hnx
    obtain ⟨x, h1, k⟩ := qm_ldi_spec k
    exact lv_iload_n hx hb hd hv (loc h1) (go k hP hS hl)
  case iload n =>
    have hv := of_decide_eq_true hk
    subst hv
    have hnx : nx = pc + 2 := by simpa [qm_nl, qm_ln] using hn
    subst hnx
    obtain ⟨x, h1, k⟩ := qm_ldi_spec k
    exact lv_iload hx hb hd (loc h1) (go k hP hS hl)
  case lload_n n =>
    have hv := of_decide_eq_true hk
    have hnx : nx = pc + 1 := by simpa [qm_nl, qm_ln] using hn
    subst hnx
    obtain ⟨x, h1, k⟩ := qm_ldl_spec k
    exact lv_lload_n hx hb hd hv (loc h1) (go k hP hS hl)
  case lload n =>
    have hv := of_decide_eq_true hk
    subst hv
    have hnx : nx = pc + 2 := by simpa [qm_nl, qm_ln] using hn
    subst hnx
    obtain ⟨x, h1, k⟩ := qm_ldl_spec k
    exact lv_lload hx hb hd (loc h1) (go k hP hS hl)
  case aload_n n =>
    have hv := of_decide_eq_true hk
    have hnx : nx = pc + 1 := by simpa [qm_nl, qm_ln] using hn
    subst hnx
    obtain ⟨x, h1, k⟩ := qm_lda_spec k
    split at k
    · exact k.elim
    · rename_i h140
      have h2 := loc h1
      rw [qm_cv_ref h140] at h2
      have k' := go k hP hS hl
      rw [List.map_cons, qm_cv_ref h140] at k'
      exact lv_aload_n hx hb hd hv h2 k'
  case istore_n n =>
    unfold qm_ck at hk
    simp only [Bool.and_eq_true, decide_eq_true_eq] at hk
    have hnx : nx = pc + 1 := by simpa [qm_nl, qm_ln] using hn
    subst hnx
    obtain ⟨x, r, hst, k2⟩ := qm_one_spec k
    clear k
    subst hst
    have k2 := qm_stK_eq.mp k2
    exact lv_istore_n hx hb hd hk.1 hl hk.2 rfl (fun ls' hl' => go k2 hP hS (qm_set_has hz rfl rfl hl'))
  case istore n =>
    unfold qm_ck at hk
    simp only [Bool.and_eq_true, decide_eq_true_eq] at hk
    obtain ⟨hk1, hk2⟩ := hk
    subst hk1
    have hnx : nx = pc + 2 := by simpa [qm_nl, qm_ln] using hn
    subst hnx
    obtain ⟨x, r, hst, k2⟩ := qm_one_spec k
    clear k
    subst hst
    have k2 := qm_stK_eq.mp k2
    exact lv_istore hx hb hd hl hk2 rfl (fun ls' hl' => go k2 hP hS (qm_set_has hz rfl rfl hl'))
  case lstore_n n =>
    unfold qm_ck at hk
    simp only [Bool.and_eq_true, decide_eq_true_eq] at hk
    have hnx : nx = pc + 1 := by simpa [qm_nl, qm_ln] using hn
    subst hnx
    obtain ⟨x, r, hst, k2⟩ := qm_onl_spec k
    clear k
    subst hst
    have k2 := qm_stK_eq.mp k2
    exact lv_lstore_n hx hb hd hk.1 hl hk.2 rfl (fun ls' hl' => go k2 hP hS (qm_set_has2 hz hl'))
  case lstore n =>
    unfold qm_ck at hk
    simp only [Bool.and_eq_true, decide_eq_true_eq] at hk
    obtain ⟨hk1, hk2⟩ := hk
    subst hk1
    have hnx : nx = pc + 2 := by simpa [qm_nl, qm_ln] using hn
    subst hnx
    obtain ⟨x, r, hst, k2⟩ := qm_onl_spec k
    clear k
    subst hst
    have k2 := qm_stK_eq.mp k2
    exact lv_lstore hx hb hd hl hk2 rfl (fun ls' hl' => go k2 hP hS (qm_set_has2 hz hl'))
  case iinc n w =>
    unfold qm_ck at hk
    simp only [Bool.and_eq_true, decide_eq_true_eq] at hk
    obtain ⟨⟨hk1, hk2⟩, hk3⟩ := hk
    subst hk1; subst hk2
    have hnx : nx = pc + 3 := by simpa [qm_nl, qm_ln] using hn
    subst hnx
    obtain ⟨x, h1, k⟩ := qm_ldi_spec k
    have k := qm_stK_eq.mp k
    obtain ⟨i, hi⟩ := List.getElem?_of_mem (List.mem_map.mpr ⟨_, h1, rfl⟩ : qm_lc ad (n, .int x) ∈ lv.map (qm_lc ad))
    exact lv_iinc hx hb hd hl (k := i) hi rfl hk3 rfl (fun ls' hl' => go k hP hS (qm_set_has hz rfl rfl hl'))
  case iadd =>
    have hnx : nx = pc + 1 := by simpa [qm_nl, qm_ln] using hn
    subst hnx
    obtain ⟨x, y, r, hst, k2⟩ := qm_bin_spec k
    clear k
    subst hst
    exact lv_iadd hx hb hd (go k2 hP hS hl)
  case isub =>
    have hnx : nx = pc + 1 := by simpa [qm_nl, qm_ln] using hn
    subst hnx
    obtain ⟨x, y, r, hst, k2⟩ := qm_bin_spec k
    clear k
    subst hst
    exact lv_isub hx hb hd (go k2 hP hS hl)
  case imul =>
    have hnx : nx = pc + 1 := by simpa [qm_nl, qm_ln] using hn
    subst hnx
    obtain ⟨x, y, r, hst, k2⟩ := qm_bin_spec k
    clear k
    subst hst
    exact lv_imul hx hb hd (go k2 hP hS hl)
  case iand =>
    have hnx : nx = pc + 1 := by simpa [qm_nl, qm_ln] using hn
    subst hnx
    obtain ⟨x, y, r, hst, k2⟩ := qm_bin_spec k
    clear k
    subst hst
    exact lv_iand hx hb hd (go k2 hP hS hl)
  case ior =>
    have hnx : nx = pc + 1 := by simpa [qm_nl, qm_ln] using hn
    subst hnx
    obtain ⟨x, y, r, hst, k2⟩ := qm_bin_spec k
    clear k
    subst hst
    exact lv_ior hx hb hd (go k2 hP hS hl)
  case ixor =>
    have hnx : nx = pc + 1 := by simpa [qm_nl, qm_ln] using hn
    subst hnx
    obtain ⟨x, y, r, hst, k2⟩ := qm_bin_spec k
    clear k
    subst hst
    exact lv_ixor hx hb hd (go k2 hP hS hl)
  case idiv =>
    have hnx : nx = pc + 1 := by simpa [qm_nl, qm_ln] using hn
    subst hnx
    obtain ⟨x, y, r, hst, k1, k2⟩ := qm_bin_spec k
    clear k
    subst hst
    exact lv_idiv hx hb hd k1 (go k2 hP hS hl)
  case irem =>
    have hnx : nx = pc + 1 := by simpa [qm_nl, qm_ln] using hn
    subst hnx
    obtain ⟨x, y, r, hst, k1, k2⟩ := qm_bin_spec k
    clear k
    subst hst
    exact lv_irem hx hb hd k1 (go k2 hP hS hl)
  case ishl =>
    have hnx : nx = pc + 1 := by simpa [qm_nl, qm_ln] using hn
    subst hnx
    obtain ⟨x, y, r, hst, k2⟩ := qm_bin_spec k
    clear k
    subst hst
    exact lv_ishl hx hb hd (go k2 hP hS hl)
  case ishr =>
    have hnx : nx = pc + 1 := by simpa [qm_nl, qm_ln] using hn
    subst hnx
    obtain ⟨x, y, r, hst, k2⟩ := qm_bin_spec k
    clear k
    subst hst
    exact lv_ishr hx hb hd (go k2 hP hS hl)
  case iushr =>
    have hnx : nx = pc + 1 := by simpa [qm_nl, qm_ln] using hn
    subst hnx
    obtain ⟨x, y, r, hst, k2⟩ := qm_bin_spec k
    clear k
    subst hst
    exact lv_iushr hx hb hd rfl (go k2 hP hS hl)
  case ladd =>
    have hnx : nx = pc + 1 := by simpa [qm_nl, qm_ln] using hn
    subst hnx
    obtain ⟨x, y, r, hst, k2⟩ := qm_bil_spec k
    clear k
    subst hst
    exact lv_ladd hx hb hd (go k2 hP hS hl)
  case lsub =>
    have hnx : nx = pc + 1 := by simpa [qm_nl, qm_ln] using hn
    subst hnx
    obtain ⟨x, y, r, hst, k2⟩ := qm_bil_spec k
    clear k
    subst hst
    exact lv_lsub hx hb hd (go k2 hP hS hl)
  case lmul =>
    have hnx : nx = pc + 1 := by simpa [qm_nl, qm_ln] using hn
    subst hnx
    obtain ⟨x, y, r, hst, k2⟩ := qm_bil_spec k
    clear k
    subst hst
    exact lv_lmul hx hb hd (go k2 hP hS hl)
  case ldiv =>
    have hnx : nx = pc + 1 := by simpa [qm_nl, qm_ln] using hn
    subst hnx
    obtain ⟨x, y, r, hst, k1, k2⟩ := qm_bil_spec k
    clear k
    subst hst
    exact lv_ldiv hx hb hd k1 (go k2 hP hS hl)
  case lrem =>
    have hnx : nx = pc + 1 := by simpa [qm_nl, qm_ln] using hn
    subst hnx
    obtain ⟨x, y, r, hst, k1, k2⟩ := qm_bil_spec k
    clear k
    subst hst
    exact lv_lrem hx hb hd k1 (go k2 hP hS hl)
  case lcmp =>
    have hnx : nx = pc + 1 := by simpa [qm_nl, qm_ln] using hn
    subst hnx
    obtain ⟨x, y, r, hst, k2⟩ := qm_bil_spec k
    clear k
    subst hst
    exact W.lcmp hx hb hd (go k2 hP hS hl)
  case i2l =>
    have hnx : nx = pc + 1 := by simpa [qm_nl, qm_ln] using hn
    subst hnx
    obtain ⟨x, r, hst, k2⟩ := qm_one_spec k
    clear k
    subst hst
    exact lv_i2l hx hb hd rfl (go k2 hP hS hl)
  case i2b =>
    have hnx : nx = pc + 1 := by simpa [qm_nl, qm_ln] using hn
    subst hnx
    obtain ⟨x, r, hst, k2⟩ := qm_one_spec k
    clear k
    subst hst
    exact lv_i2b hx hb hd rfl (go k2 hP hS hl)
  case i2s =>
    have hnx : nx = pc + 1 := by simpa [qm_nl, qm_ln] using hn
    subst hnx
    obtain ⟨x, r, hst, k2⟩ := qm_one_spec k
    clear k
    subst hst
    exact lv_i2s hx hb hd rfl (go k2 hP hS hl)
  case i2c =>
    have hnx : nx = pc + 1 := by simpa [qm_nl, qm_ln] using hn
    subst hnx
    obtain ⟨x, r, hst, k2⟩ := qm_one_spec k
    clear k
    subst hst
    exact lv_i2c hx hb hd rfl (go k2 hP hS hl)
  case dup =>
    have hnx : nx = pc + 1 := by simpa [qm_nl, qm_ln] using hn
    subst hnx
    unfold qm_ins at k
    dsimp only at k
    split at k
    · exact lv_dup hx hb hd rfl (go k hP hS hl)
    · rename_i x r
      exact lv_dup hx hb hd (qm_cv_cat hz (.ref x)) (go k hP hS hl)
    · exact k.elim
  case dup2 =>
    have hnx : nx = pc + 1 := by simpa [qm_nl, qm_ln] using hn
    subst hnx
    unfold qm_ins at k
    dsimp only at k
    split at k
    · rename_i x y r
      exact lv_dup2_11 hx hb hd rfl (qm_cv_cat hz (.ref y)) (go k hP hS hl)
    · exact k.elim
  case pop =>
    have hnx : nx = pc + 1 := by simpa [qm_nl, qm_ln] using hn
    subst hnx
    obtain ⟨x, r, hst, k2⟩ := qm_one_spec k
    clear k
    subst hst
    exact lv_pop hx hb hd rfl (go k2 hP hS hl)
  case pop2 =>
    have hnx : nx = pc + 1 := by simpa [qm_nl, qm_ln] using hn
    subst hnx
    obtain ⟨x, r, hst, k2⟩ := qm_onl_spec k
    clear k
    subst hst
    exact lv_pop2_2 hx hb hd rfl (go k2 hP hS hl)
  case goto o =>
    have ht := of_decide_eq_true hk
    exact lv_goto hx hb hd ht (go k hP hS hl)
  case ifCond co o =>
    have ht := of_decide_eq_true hk
    have hnx : nx = pc + 3 := by simpa [qm_nl, qm_ln] using hn
    subst hnx
    obtain ⟨x, r, hst, k2⟩ := qm_one_spec k
    clear k
    subst hst
    cases co
    · exact lv_if_eq hx hb hd ht (fun hc => go (k2.1 hc) hP hS hl) (fun hc => go (k2.2 hc) hP hS hl)
    · exact lv_if_ne hx hb hd ht (fun hc => go (k2.1 hc) hP hS hl) (fun hc => go (k2.2 hc) hP hS hl)
    · exact lv_if_lt hx hb hd ht (fun hc => go (k2.1 (by rw [qm_lt, qm_i0] at hc; omega)) hP hS hl) (fun hc => go (k2.2 (by rw [qm_lt, qm_i0] at hc; omega)) hP hS hl)
    · exact lv_if_ge hx hb hd ht (fun hc => go (k2.1 (by rw [qm_le, qm_i0] at hc; omega)) hP hS hl) (fun hc => go (k2.2 (by rw [qm_le, qm_i0] at hc; omega)) hP hS hl)
    · exact lv_if_gt hx hb hd ht (fun hc => go (k2.1 (by rw [qm_lt, qm_i0] at hc; omega)) hP hS hl) (fun hc => go (k2.2 (by rw [qm_lt, qm_i0] at hc; omega)) hP hS hl)
    · exact lv_if_le hx hb hd ht (fun hc => go (k2.1 (by rw [qm_le, qm_i0] at hc; omega)) hP hS hl) (fun hc => go (k2.2 (by rw [qm_le, qm_i0] at hc; omega)) hP hS hl)
  case if_icmp co o =>
    have ht := of_decide_eq_true hk
    have hnx : nx = pc + 3 := by simpa [qm_nl, qm_ln] using hn
    subst hnx
    obtain ⟨x, y, r, hst, k2⟩ := qm_bin_spec k
    clear k
    subst hst
    cases co
    · exact lv_icmp_eq hx hb hd ht (fun hc => go (k2.1 hc) hP hS hl) (fun hc => go (k2.2 hc) hP hS hl)
    · exact lv_icmp_ne hx hb hd ht (fun hc => go (k2.1 hc) hP hS hl) (fun hc => go (k2.2 hc) hP hS hl)
    · exact lv_icmp_lt hx hb hd ht (fun hc => go (k2.1 (by rw [qm_lt] at hc; omega)) hP hS hl) (fun hc => go (k2.2 (by rw [qm_lt] at hc; omega)) hP hS hl)
    · exact lv_icmp_ge hx hb hd ht (fun hc => go (k2.1 (by rw [qm_le] at hc; omega)) hP hS hl) (fun hc => go (k2.2 (by rw [qm_le] at hc; omega)) hP hS hl)
    · exact lv_icmp_gt hx hb hd ht (fun hc => go (k2.1 (by rw [qm_lt] at hc; omega)) hP hS hl) (fun hc => go (k2.2 (by rw [qm_lt] at hc; omega)) hP hS hl)
    · exact lv_icmp_le hx hb hd ht (fun hc => go (k2.1 (by rw [qm_le] at hc; omega)) hP hS hl) (fun hc => go (k2.2 (by rw [qm_le] at hc; omega)) hP hS hl)
  case tableswitch d lo hi offs =>
    unfold qm_ck at hk
    simp only [Bool.and_eq_true, decide_eq_true_eq] at hk
    obtain ⟨⟨h1, h2⟩, h3⟩ := hk
    obtain ⟨x, r, hst, k2⟩ := qm_one_spec k
    clear k
    subst hst
    obtain ⟨g1, g2⟩ := qm_tgs_spec _ _ _ h3
    have hsz : offs.size = ts.length := by rw [← Array.length_toList]; exact g1
    rcases qm_sw_go k2 with ⟨q0, hq, e, k2, -⟩ | ⟨hno, k2⟩
    · obtain ⟨jj, hj⟩ := List.getElem?_of_mem hq
      obtain ⟨g3, o, g4, g5⟩ := g2 jj q0 hj
      have hlt : jj < ts.length := (List.getElem?_eq_some_iff.mp hj).1
      rw [← e] at g3
      refine lv_tableIn hx hb hd (by omega) (by omega) (off := o) ?_ g5 (go k2 hP hS hl)
      rw [show (x.toInt - lo).toNat = jj from by omega, ← Array.getElem?_toList]
      exact g4
    · refine lv_tableOut hx hb hd ?_ h1 (go k2 hP hS hl)
      rcases Int.lt_or_le x.toInt lo with h | h
      · exact Or.inl h
      · rcases Int.lt_or_le hi x.toInt with h' | h'
        · exact Or.inr h'
        · have hlt : (x.toInt - lo).toNat < ts.length := by omega
          obtain ⟨g3, -⟩ := g2 _ _ (List.getElem?_eq_getElem hlt)
          exact absurd (Int32.toInt_inj.mp (by rw [g3]; omega)) (hno _ (List.getElem_mem hlt))
  case lookupswitch d ps =>
    unfold qm_ck at hk
    simp only [Bool.and_eq_true, decide_eq_true_eq] at hk
    obtain ⟨⟨h1, h2⟩, h3⟩ := hk
    obtain ⟨x, r, hst, k2⟩ := qm_one_spec k
    clear k
    subst hst
    obtain ⟨tgt, g1, k2⟩ := qm_lks_spec h1 _ _ h3 k2
    exact lv_lookup hx hb hd h2 rfl g1 (go k2 hP hS hl)
  case getfield n =>
    have hnx : nx = pc + 3 := by simpa [qm_nl, qm_ln] using hn
    subst hnx
    obtain ⟨x, r, hst, k2⟩ := qm_onr_spec k
    clear k
    subst hst
    unfold qm_ck at hk
    dsimp only at hk
    split at k2
    · rename_i h7
      rw [if_pos h7] at hk
      unfold qm_sfl at k2
      split at k2
      · rename_i hx0
        simp only [Bool.or_eq_true, Bool.and_eq_true, decide_eq_true_eq] at hk
        have hS6 := hE.2.2.2.1.1.1 (x - 110) (qm_sub1 hx0).1
        dsimp only at hS6
        rw [(qm_sub1 hx0).2.1, (qm_sub1 hx0).2.2] at hS6
        rw [List.map_cons, qm_cv_ref (qm_ne2 hx0)]
        rcases hk with ⟨h1, h2⟩ | ⟨h1, h2⟩
        · subst h1
          rw [if_pos rfl] at k2
          refine vk_getf hx hb hS6.2.2.1 hS hown (hts _ (qm_has_mem h2)) (fun _ h => h) hd ?_
          have k' := go k2 hP hS hl
          rw [List.map_cons, qm_cv_ref (qm_ne3 hx0)] at k'
          exact k'
        · subst h1
          rw [if_neg (by decide), if_pos rfl] at k2
          exact vk_getf hx hb hS6.2.1 hS hown (hts _ (qm_has_mem h2)) (fun _ h => h) hd (go k2 hP hS hl)
      · exact k2.elim
    · rename_i h7
      rw [if_neg h7] at hk
      obtain ⟨rs, o, h1, h2, k2⟩ := qm_fld_spec k2
      unfold qm_fl at hk
      split at hk
      · rename_i C T N hc
        simp only [Bool.and_eq_true, decide_eq_true_eq] at hk
        have hlt := qm_sh_lt h1
        rw [List.map_cons, qm_cv_ref (qm_ne hlt)]
        refine va_get hx hb hts (qm_cls_in hc).1 hown hK hP x (qm_w_at h1) hc b hk.1 (hts _ (qm_has_mem hk.2)) (fun _ h => h) (qm_fs_at h2) hd ?_
        cases o with
        | none => exact go k2 hP hS hl
        | some t => exact go k2 hP hS hl
      · cases hk
  case putfield n =>
    have hnx : nx = pc + 3 := by simpa [qm_nl, qm_ln] using hn
    subst hnx
    obtain ⟨x, r0, hst, k2⟩ := qm_one_spec k
    clear k
    subst hst
    obtain ⟨y, r, hst, k3⟩ := qm_onr_spec k2
    clear k2
    subst hst
    obtain ⟨rs, h1, h2, h3, k2⟩ := qm_pfl_spec k3
    unfold qm_ck at hk
    rw [Bool.and_eq_true] at hk
    obtain ⟨hk, hk2⟩ := hk
    unfold qm_fl at hk
    unfold qm_fp at hk2
    split at hk
    · rename_i C T N hc
      rw [hc] at hk2
      simp only [Bool.and_eq_true, decide_eq_true_eq, Bool.not_eq_true'] at hk hk2
      have hlt := qm_sh_lt h1
      obtain ⟨hin, ty0, hty, hnm⟩ := qm_cls_in hc
      rw [List.map_cons, List.map_cons, qm_cv_ref (qm_ne hlt)]
      have hl2 : b < (qm_fs ad h y rs).length := by
        unfold qm_fs
        rw [List.length_mapIdx]
        exact (List.getElem?_eq_some_iff.mp h2).1
      have fin : ∀ ty : FieldType, parseFieldDescriptor (T b).2.2.1 = some ty → narrow ty (.int x) = .int x → fits ty (.int x) = true → W p l e R s m args below meth c H locs cells slots Qw (F0 m pc ls (qm_cv ad (.int x) :: .ref (ad.1 y) :: r.map (qm_cv ad))) := by
        intro ty e1 e2 e3
        refine va_put (v := .int x) hx hb hts hin ty0 hty hnm hown hK hP hD hS y (qm_w_at h1) hc b hk.1 (hts _ (qm_has_mem hk.2)) (fun _ h => h) hk2.1 e1 e2 e3 hl2 hd (fun H1 locs1 hP1 hD1 hS1 => ?_)
        rw [qm_w_fld h1 h2] at hP1
        exact go k2 hP1 hS1 hl
      cases hzz : qm_isz a b with
      | true =>
        rw [hzz] at hk2
        refine fin .boolean (by rw [hk2.2]; rfl) ?_ ?_
        · rcases h3 hzz with rfl | rfl <;> rfl
        · rcases h3 hzz with rfl | rfl <;> rfl
      | false =>
        rw [hzz] at hk2
        exact fin .int (by rw [hk2.2]; rfl) rfl rfl
    · cases hk
  case iaload =>
    have hnx : nx = pc + 1 := by simpa [qm_nl, qm_ln] using hn
    subst hnx
    obtain ⟨x, r0, hst, k2⟩ := qm_one_spec k
    clear k
    subst hst
    obtain ⟨y, r, hst, k3⟩ := qm_onr_spec k2
    clear k2
    subst hst
    rcases qm_ald_spec k3 with ⟨t', n, h1, h2, h3, k2⟩ | ⟨n, f, h1, h3, k2⟩
    · have ht : t' = 0 := by omega
      subst ht
      rw [List.map_cons, List.map_cons, qm_cv_ref (qm_ne (qm_sh_lt h1))]
      exact va_iald hx hb hK hP y 0 (qm_w_at h1) rfl (qm_in h3) hd (go k2 hP hS hl)
    · obtain ⟨g1, ⟨-, g2⟩ | ⟨g2, -⟩⟩ := qm_ca_spec hE h1
      · rw [List.map_cons, List.map_cons, qm_cv_ref g1]
        exact va_ti hx hb g2 hS (qm_in h3) rfl hd (go k2 hP hS hl)
      · cases g2
  case baload =>
    have hnx : nx = pc + 1 := by simpa [qm_nl, qm_ln] using hn
    subst hnx
    obtain ⟨x, r0, hst, k2⟩ := qm_one_spec k
    clear k
    subst hst
    obtain ⟨y, r, hst, k3⟩ := qm_onr_spec k2
    clear k2
    subst hst
    rcases qm_ald_spec k3 with ⟨t', n, h1, h2, h3, k2⟩ | ⟨n, f, h1, h3, k2⟩
    · rw [List.map_cons, List.map_cons, qm_cv_ref (qm_ne (qm_sh_lt h1))]
      rcases (by omega : t' = 1 ∨ t' = 2) with ht | ht
      · subst ht
        exact va_bald hx hb hK hP y 1 (qm_w_at h1) rfl (qm_in h3) hd (go k2 hP hS hl)
      · subst ht
        exact va_zald hx hb hK hP y 2 (qm_w_at h1) rfl (qm_in h3) hd (go k2 hP hS hl)
    · obtain ⟨g1, ⟨g2, -⟩ | ⟨-, g2⟩⟩ := qm_ca_spec hE h1
      · cases g2
      · rw [List.map_cons, List.map_cons, qm_cv_ref g1]
        exact va_tb hx hb g2 hS (qm_in h3) rfl hd (go k2 hP hS hl)
  case iastore =>
    have hnx : nx = pc + 1 := by simpa [qm_nl, qm_ln] using hn
    subst hnx
    obtain ⟨x, r0, hst, k2⟩ := qm_one_spec k
    clear k
    subst hst
    obtain ⟨ix, r1, hst, k3⟩ := qm_one_spec k2
    clear k2
    subst hst
    obtain ⟨y, r, hst, k2⟩ := qm_onr_spec k3
    clear k3
    subst hst
    obtain ⟨t', n, h1, h3, ⟨-, ht, k3⟩ | ⟨ht, -⟩ | ⟨ht, -⟩⟩ := qm_ast_spec k2
    · subst ht
      rw [List.map_cons, List.map_cons, List.map_cons, qm_cv_ref (qm_ne (qm_sh_lt h1))]
      refine va_iast hx hb hK hP hD hS y 0 (qm_w_at h1) rfl (qm_in h3) hd (fun H1 locs1 hP1 hD1 hS1 => ?_)
      rw [qm_w_arr h1] at hP1
      exact go k3 hP1 hS1 hl
    · cases ht
    · cases ht
  case bastore =>
    have hnx : nx = pc + 1 := by simpa [qm_nl, qm_ln] using hn
    subst hnx
    obtain ⟨x, r0, hst, k2⟩ := qm_one_spec k
    clear k
    subst hst
    obtain ⟨ix, r1, hst, k3⟩ := qm_one_spec k2
    clear k2
    subst hst
    obtain ⟨y, r, hst, k2⟩ := qm_onr_spec k3
    clear k3
    subst hst
    obtain ⟨t', n, h1, h3, ⟨ht, -⟩ | ⟨-, ht, k3⟩ | ⟨-, ht, k3⟩⟩ := qm_ast_spec k2
    · cases ht
    · subst ht
      rw [List.map_cons, List.map_cons, List.map_cons, qm_cv_ref (qm_ne (qm_sh_lt h1))]
      refine va_bast hx hb hK hP hD hS y 1 (qm_w_at h1) rfl (qm_in h3) hd (fun H1 locs1 hP1 hD1 hS1 => ?_)
      rw [qm_w_arr h1, vp_nar_byte] at hP1
      exact go k3 hP1 hS1 hl
    · subst ht
      rw [List.map_cons, List.map_cons, List.map_cons, qm_cv_ref (qm_ne (qm_sh_lt h1))]
      refine va_zast hx hb hK hP hD hS y 2 (qm_w_at h1) rfl (qm_in h3) hd (fun H1 locs1 hP1 hD1 hS1 => ?_)
      rw [qm_w_arr h1] at hP1
      exact go k3 hP1 hS1 hl
  case arraylength =>
    have hnx : nx = pc + 1 := by simpa [qm_nl, qm_ln] using hn
    subst hnx
    obtain ⟨y, r, hst, k2⟩ := qm_onr_spec k
    clear k
    subst hst
    rcases qm_len_spec k2 with ⟨t, n, h1, k3⟩ | ⟨t, n, f, h1, k3⟩
    · rw [List.map_cons, qm_cv_ref (qm_ne (qm_sh_lt h1))]
      rcases qm_sh_t3 h1 with rfl | rfl | rfl
      · exact va_alen hx hb hK hP y 0 (qm_w_at h1) rfl rfl hd (go k3 hP hS hl)
      · exact va_alen hx hb hK hP y 1 (qm_w_at h1) rfl rfl hd (go k3 hP hS hl)
      · exact va_alen hx hb hK hP y 2 (qm_w_at h1) rfl rfl hd (go k3 hP hS hl)
    · obtain ⟨g1, ⟨-, g2⟩ | ⟨-, g2⟩⟩ := qm_ca_spec hE h1
      · rw [List.map_cons, qm_cv_ref g1]
        exact va_tlen hx hb g2 hS rfl hd (go k3 hP hS hl)
      · rw [List.map_cons, qm_cv_ref g1]
        exact va_tlen hx hb g2 hS rfl hd (go k3 hP hS hl)
  case invokevirtual n =>
    have hnx : nx = pc + 3 := by simpa [qm_nl, qm_ln] using hn
    subst hnx
    unfold qm_ck at hk
    simp only [Bool.and_eq_true, decide_eq_true_eq] at hk
    obtain ⟨⟨hcl, hc9⟩, hlk⟩ := hk
    unfold qm_cl at hcl
    simp only [Bool.and_eq_true, decide_eq_true_eq, beq_iff_eq] at hcl
    obtain ⟨⟨⟨han, hbn⟩, hf1⟩, hf2⟩ := hcl
    unfold qm_ins at k
    dsimp only at k
    split at k
    · rename_i hcnd
      obtain ⟨hb1, hb2, hb3, hb4⟩ := hcnd
      obtain ⟨k9, k⟩ := k
      obtain ⟨⟨hcd, hini⟩, -, hinst, hy, -, -⟩ := qm_mw han k9
      obtain ⟨hi1, hi2, hi3⟩ := hinst hc9
      unfold qm_rcv at hb4
      split at hb4
      · rename_i rv hrv
        have hdec : st = st.take b ++ .ref rv :: st.drop (b + 1) := by
          have e1 := List.take_append_drop b st
          have e2 : st.drop b = .ref rv :: st.drop (b + 1) := by
            rw [List.drop_eq_getElem_cons hb1]
            rw [List.getElem?_eq_getElem hb1] at hrv
            rw [Option.some.inj hrv]
          rw [e2] at e1
          exact e1.symm
        have htake : st.take (b + 1) = st.take b ++ [.ref rv] := by
          rw [List.take_succ, hrv]
          rfl
        rw [htake, List.reverse_append] at k
        have hsz : qm_sz ([Value.ref rv] ++ (st.take b).reverse) ≤ qm_ml a := by
          have e1 : qm_sz ([Value.ref rv] ++ (st.take b).reverse) = ((st.take (b + 1)).map fun v => v.category).sum := by
            rw [htake]
            unfold qm_sz
            simp [List.sum_append, Nat.add_comm, List.map_reverse, List.sum_reverse]
          rw [e1]
          exact hb3
        have hF := qm_w_free hD hS hA
        have hrec : rv ≠ 140 ∧ ∃ cell : Cell, H[ad.1 rv]? = some cell ∧ cell.vm.isStatics = false ∧ s.vm.findClass (qm_y a).cls = some cell.cls := by
          split at hb4
          · rename_i c' rs hsh
            have hb5 : c' = qm_cls a := by simpa using hb4
            subst hb5
            refine ⟨qm_ne (qm_sh_lt hsh), ?_⟩
            rcases hi3 with ⟨g1, g2⟩ | ⟨g1, g2⟩
            · exfalso
              have g3 : qm_sh.all (fun c => match c with
                | .inl _ => true
                | .inr (ci, _) => decide (ci ≠ 7)) = true := by decide +kernel
              have g4 := List.all_eq_true.mp g3 _ (List.mem_of_getElem? hsh)
              exact (of_decide_eq_true g4) g1
            · cases hq : vwCl[qm_cls a]? with
              | none => rw [hq] at g2; cases g2
              | some qq =>
                rw [hq] at g2
                have g3 : qq.1 = (qm_y a).cls := by simpa using g2
                rw [← g3]
                exact va_recv hK hP hq (qm_w_at hsh)
          · cases hb4
          · simp only [Bool.and_eq_true, decide_eq_true_eq, beq_iff_eq] at hb4
            obtain ⟨g1, g2⟩ := hb4
            refine ⟨qm_ne2 g2, ?_⟩
            rcases hi3 with ⟨-, g3⟩ | ⟨g3, -⟩
            · rw [g3]
              have g4 : ∃ cell : Cell, H[ad.1 (110 + (rv - 110))]? = some cell ∧ cell.vm.isStatics = false ∧ s.vm.findClass "java/lang/String" = some cell.cls := vk_recv (adK := fun i => ad.1 (110 + i)) (i := rv - 110) hE.2.2.2.1.1 (qm_sub1 g2).1 hS
              rw [(qm_sub1 g2).2.1] at g4
              exact g4
            · exact absurd g1 g3
        obtain ⟨h140, hcell⟩ := hrec
        have hbl : (st.take b).length = b := by rw [List.length_take]; omega
        have hst' : st.map (qm_cv ad) = (((st.take b).reverse).map (qm_cv ad)).reverse ++ .ref (ad.1 rv) :: (st.drop (b + 1)).map (qm_cv ad) := by
          conv => lhs; rw [hdec]
          rw [List.map_append, List.map_cons, qm_cv_ref h140, List.map_reverse, List.reverse_reverse]
        have hargs : ([Value.ref rv] ++ (st.take b).reverse).map (qm_cv ad) = .ref (ad.1 rv) :: ((st.take b).reverse).map (qm_cv ad) := by
          show qm_cv ad (.ref rv) :: _ = _
          rw [qm_cv_ref h140]
          rfl
        have hMet := qm_met han k9 hsz k l D ca ad H.size
        have hrun := va_runV (e := e) (below := below) (meth := meth) (Ts := qm_tbl) (n := b) (C := (qm_y a).cls) (b := ad.1 rv) (As := ((st.take b).reverse).map (qm_cv ad)) (rest := (st.drop (b + 1)).map (qm_cv ad)) (g := F0 m pc ls (st.map (qm_cv ad))) (cells := cells) (slots := slots) (locs := locs) (H := H) ⟨hx, hb, hml, hown, hts⟩ hMet
          ⟨callB_of (ws' := qm_tbl) b hts (qm_goodW hcd) rfl rfl rfl (hts _ hini) (hts _ (qm_has_mem hlk)) ⟨hy.1, hy.2.1, by rw [hbn]; exact hy.2.2⟩ ⟨Nat.le_trans hf1 hfr, Nat.le_trans hf2 hlo⟩, hts _ hi1, hts _ hi2⟩
          ⟨qm_Pc_blind, hcell, fun U hU hW => by
            have := qm_Pc_go (as := [Value.ref rv] ++ (st.take b).reverse) hE hP hD hS hF U hU hW
            rw [hargs] at this
            exact this⟩ rfl (by rw [List.length_map, List.length_reverse, hbl]) hl.1 hst' (lv_room (by rw [qm_cat_cv hz]; exact hb2)) hd ⟨hcel, hslo⟩
        refine qm_behind hrun hS (fun q _ hq => hF q hq) hF (fun r h' H1 locs1 kq hP1 hS1 => ?_)
        have k' := go kq hP1 hS1 hl
        rw [List.map_append] at k'
        cases r with
        | none => exact k'
        | some w => exact k'
      · cases hb4
    · exact k.elim
  case invokestatic n =>
    have hnx : nx = pc + 3 := by simpa [qm_nl, qm_ln] using hn
    subst hnx
    unfold qm_ck at hk
    dsimp only at hk
    unfold qm_ins at k
    dsimp only at k
    split at k
    · rename_i h999
      rw [if_pos h999] at hk
      simp only [Bool.and_eq_true, decide_eq_true_eq] at hk
      obtain ⟨⟨hlk, hf1⟩, hf2⟩ := hk
      obtain ⟨n', dp, sp, d, s0, n0, n1, rest, hst, e0, e1, hr0, hbd, k2⟩ := qm_cpy_spec k
      clear k
      subst hst
      rw [List.map_cons, List.map_cons, List.map_cons, List.map_cons, List.map_cons, qm_cv_ref (qm_ne (qm_sh_lt e0)), qm_cv_ref (qm_ne (qm_sh_lt e1))]
      have nn : ∀ z : Int32, 0 ≤ z.toInt → ¬ z < 0 := fun z h0 h1 => by rw [qm_lt, qm_i0] at h1; omega
      have cl : ∀ z : Int32, z.toNatClampNeg = z.toInt.toNat := fun z => rfl
      refine va_copyi hx hb (hml.trans hl.1.symm) hown (hts _ (qm_has_mem hlk)) (hts (.native arraycopyName) (by decide +kernel)) (hts (.static arraycopyName) (by decide +kernel)) (hts (.initialized "java/lang/System") (by decide +kernel)) hK hP hD hS s0 d 0 0 (qm_w_at e0) (qm_w_at e1) rfl rfl rfl (nn _ hbd.1) (nn _ hbd.2.1) (nn _ hbd.2.2.1) (by rw [cl, cl]; omega) (by rw [cl, cl]; omega) (fun _ _ => rfl) (by omega) (by rw [qm_cat_cv hz, hr0]; exact Nat.le_trans (by decide) (Nat.le_trans hf2 hlo)) hd (fun H1 locs1 hP1 hD1 hS1 => ?_)
      rw [qm_w_arr e1] at hP1
      exact go k2 hP1 hS1 hl
    · rename_i h999
      rw [if_neg h999] at hk
      rw [Bool.and_eq_true, Bool.and_eq_true, decide_eq_true_eq] at hk
      obtain ⟨⟨hcl, hc9⟩, hlk⟩ := hk
      unfold qm_cl at hcl
      simp only [Bool.and_eq_true, decide_eq_true_eq, beq_iff_eq] at hcl
      obtain ⟨⟨⟨han, hbn⟩, hf1⟩, hf2⟩ := hcl
      split at k
      · rename_i hcnd
        obtain ⟨hb1, hb2, hb3⟩ := hcnd
        obtain ⟨k9, k⟩ := k
        obtain ⟨⟨hcd, hini⟩, hstat, -, hy, -, -⟩ := qm_mw han k9
        have hsz : qm_sz (st.take b).reverse ≤ qm_ml a := by
          have e1 : qm_sz (st.take b).reverse = ((st.take b).map fun v => v.category).sum := by
            unfold qm_sz
            simp [List.map_reverse, List.sum_reverse]
          rw [e1]
          exact hb3
        have hF := qm_w_free hD hS hA
        have hbl : (st.take b).length = b := by rw [List.length_take]; omega
        have hst' : st.map (qm_cv ad) = (((st.take b).reverse).map (qm_cv ad)).reverse ++ (st.drop b).map (qm_cv ad) := by
          conv => lhs; rw [← List.take_append_drop b st]
          rw [List.map_append, List.map_reverse, List.reverse_reverse]
        have hMet := qm_met han k9 hsz k l D ca ad H.size
        have hrun : va_Run p l e R s m args below meth c H locs cells slots 0 0 (F0 m pc ls (st.map (qm_cv ad))) ((st.drop b).map (qm_cv ad)) (qm_Qc D ca ad (fun r h' => qm_PA X mid (pc + 3) lv (r.toList ++ st.drop b) h' Q) (va_A (qm_w ad ca h) H.size) (((st.take b).reverse).map (qm_cv ad)).toArray) (va_A (qm_w ad ca h) H.size) := by
          split at hlk
          · simp only [Bool.and_eq_true, decide_eq_true_eq] at hlk
            obtain ⟨⟨g1, g2⟩, g3⟩ := hlk
            have hnest := hE.2.2.2.2.1
            rw [← g2, ← g3, ← g1] at hnest
            exact va_runSN (Ts := qm_tbl) (n := b) (As := ((st.take b).reverse).map (qm_cv ad)) (rest := (st.drop b).map (qm_cv ad)) (g := F0 m pc ls (st.map (qm_cv ad))) ⟨hx, hb, hml, hown, hts⟩ hMet
              ⟨va_cnB (ws' := qm_tbl) b hts (qm_goodW hcd) rfl rfl rfl hnest (hts _ hini) ⟨hy.1, hy.2.1, by rw [hbn]; exact hy.2.2⟩ ⟨Nat.le_trans hf1 hfr, Nat.le_trans hf2 hlo⟩, hts _ (hstat hc9), trivial⟩
              ⟨qm_Pc_blind, fun U hU hW => qm_Pc_go hE hP hD hS hF U hU hW⟩ rfl (by rw [List.length_map, List.length_reverse, hbl]) hl.1 hst' (lv_room (by rw [qm_cat_cv hz]; exact hb2)) hd ⟨hcel, hslo⟩
          · exact va_runS (Ts := qm_tbl) (n := b) (As := ((st.take b).reverse).map (qm_cv ad)) (rest := (st.drop b).map (qm_cv ad)) (g := F0 m pc ls (st.map (qm_cv ad))) ⟨hx, hb, hml, hown, hts⟩ hMet
              ⟨callB_of (ws' := qm_tbl) b hts (qm_goodW hcd) rfl rfl rfl (hts _ hini) (hts _ (qm_has_mem hlk)) ⟨hy.1, hy.2.1, by rw [hbn]; exact hy.2.2⟩ ⟨Nat.le_trans hf1 hfr, Nat.le_trans hf2 hlo⟩, hts _ (hstat hc9)⟩
              ⟨qm_Pc_blind, fun U hU hW => qm_Pc_go hE hP hD hS hF U hU hW⟩ rfl (by rw [List.length_map, List.length_reverse, hbl]) hl.1 hst' (lv_room (by rw [qm_cat_cv hz]; exact hb2)) hd ⟨hcel, hslo⟩
        refine qm_behind hrun hS (fun q _ hq => hF q hq) hF (fun r h' H1 locs1 kq hP1 hS1 => ?_)
        have k' := go kq hP1 hS1 hl
        rw [List.map_append] at k'
        cases r with
        | none => exact k'
        | some w => exact k'
      · exact k.elim
  case ireturn =>
    unfold qm_ins at k
    dsimp only at k
    split at k
    · rename_i x
      obtain ⟨⟨ty, g1, g2⟩, k⟩ := qm_retI_spec k
      exact hr pc ls H locs h (some (.int x)) ⟨hd, ty, g1, g2⟩ k hP hS
    · exact k.elim
  case lreturn =>
    have hv := of_decide_eq_true hk
    unfold qm_ins at k
    dsimp only at k
    split at k
    · rename_i x
      exact hr pc ls H locs h (some (.long x)) ⟨hd, hv⟩ k hP hS
    · exact k.elim
  case areturn =>
    unfold qm_ck at hk
    dsimp only at hk
    unfold qm_ins at k
    dsimp only at k
    split at k
    · rename_i x
      split at k
      · exact k.elim
      · rename_i h140
        split at hk
        · rename_i nm e
          exact hr pc ls H locs h (some (.ref x)) ⟨hd, ⟨nm, e⟩, h140⟩ k hP hS
        · cases hk
    · exact k.elim
  case return_ =>
    have hv := of_decide_eq_true hk
    unfold qm_ins at k
    dsimp only at k
    split at k
    · exact hr pc ls H locs h none ⟨hd, hv⟩ k hP hS
    · exact k.elim
  all_goals exact k.elim
