set_option maxHeartbeats 4000000 in
set_option maxRecDepth 100000 in
theorem ct_1 (l : Launch) (D : va_G) (ca : Nat → ClassId) (h0 sz : Nat) : Met l cy_1 (Cond.code cy_1 cb_1 1 none :: qm_tbl) ({ frames := 1, cells := 6, slots := 46, locals := 12 }) (va_Pc [.ref h0] (fun U => U.heap.size = sz ∧ va_P D vwCl (qn_1 h0) U.heap ∧ va_K D vwCl (qt_tys ca) U ∧ va_D (fun _ => True) (qn_1 h0))) (va_Qv (fun _ : Nat → Nat => True) (fun u t => va_P D vwCl (qt_1 ca h0 u) t.heap ∧ va_D (va_A (qn_1 h0) sz) (qt_1 ca h0 u)) (va_A (qn_1 h0) sz)) 6 46 (va_A (qn_1 h0) sz) := by
  refine Met.ofW (cc := cb_1) (maxL := 1) (ret := none) (by decide) rfl ?_
  intro p e s m args below meth c s₁ B hml hv
  obtain ⟨rfl, hsz, hP, hK, hD0⟩ := hv
  have hx := B.exec
  have hb := B.bytes
  have hr := B.returns
  have hts0 := atoms_spec (ws := Cond.code cy_1 cb_1 1 none :: qm_tbl) B.pre
  have hts : ∀ w ∈ qm_tbl, w.before _ s = true := fun w hw => hts0 w (List.mem_cons_of_mem _ hw)
  have hown : s.vm.findClass RX1 = some m.cls := findClass_of_methodNamed B.named
  have hlocks := B.notSynchronized
  have hin : meth.name = "<init>" := (name_of_methodNamed B.named B.method).1
  subst hsz
  have hD := hD0.self (sz := s.heap.size)
  generalize hAe : va_A (qn_1 h0) s.heap.size = A at hD ⊢
  have hA : ∀ q : Nat, s.heap.size ≤ q → A q := fun q h => by rw [← hAe]; exact Or.inr h
  have hS : va_S A s.heap s.heap [] := va_S.rf
  have hl := lv_entry ([.ref h0]) (n := 1) (Nat.le_of_ble_eq_true rfl)
  rw [lg_entry_eq]
  generalize (lg_sl ([.ref h0]) ++ List.replicate (1 - (lg_sl ([.ref h0])).length) Slot.unset).toArray = ls at hl ⊢
  have hl : lv_has ls 1 [(0, .ref h0)] := hl
  refine lv_aload_n hx hb cd_1_0 rfl (lv_at hl 0 rfl) ?_
  refine W.objInit hx hb hown (hts (.methodLink "ThreadBank$Memory" 3 objectInit) (qm_has_mem (j := 1) (p := 27) (by decide +kernel))) (hts (.instanceMethod objectInit) (qm_has_mem (j := 1) (p := 20) (by decide +kernel))) (hts (.code objectInit ⟨#[0xb1]⟩ 1 none) (qm_has_mem (j := 1) (p := 21) (by decide +kernel))) rfl (by rw [hml]; exact hl.1) rfl cd_1_1 (Nat.le_of_ble_eq_true rfl) (Nat.le_of_ble_eq_true rfl) ?_
  refine W.eq (g2 := F0 m 4 ls []) rfl ?_
  refine lv_aload_n hx hb cd_1_4 rfl (lv_at hl 0 rfl) ?_
  refine lv_iconst (v := 4) hx hb cd_1_5 (by decide) ?_
  refine qt_newa (ty := .int) (cA0 := ca 0) (N' := 4) hx hb (hts _ (qm_has_mem (j := 1) (p := 71) (by decide +kernel))) rfl (by decide) hK hP hD hS hA 0 rfl (by decide) (by decide) (by decide) (by decide) (by decide) cd_1_6 (fun q6 H hP hD hS => ?_)
  have hP : va_P D vwCl [(h0, .inr (1, [.null, .null, .null, .null, .null, .null, .int 0, .int 0, .int 0, .int 0])), (q6, .inl (ca 0, 4, .inl (fun _ => 0)))] H := hP
  have hD : va_D A [(h0, .inr (1, [.null, .null, .null, .null, .null, .null, .int 0, .int 0, .int 0, .int 0])), (q6, .inl (ca 0, 4, .inl (fun _ => 0)))] := hD
  refine W.widen (k := 1) (n := 4) (by decide) (by decide) ?_
  refine va_putF (D := D) (ci := 1) (v := .ref q6) (ty := .array .int) (C := RX1) (T := TX1) (N := 10) hx hb hts (qm_cls_in (a := 1) rfl).1 tyX1 tyX1_ok nmX1 hown hK hP hD hS 0 rfl rfl 0 (by decide) (hts (.fieldLink "ThreadBank$Memory" 9 "ThreadBank$Memory" "kinds" "[I") (qm_has_mem (j := 1) (p := 28) (by decide +kernel))) (fun _ h9 => h9) rfl hin rfl (by decide +kernel) rfl rfl (Nat.le_of_ble_eq_true rfl) cd_1_8 (fun H locs hP hD hS => ?_)
  have hP : va_P D vwCl [(h0, .inr (1, [.ref q6, .null, .null, .null, .null, .null, .int 0, .int 0, .int 0, .int 0])), (q6, .inl (ca 0, 4, .inl (fun _ => 0)))] H := hP
  have hD : va_D A [(h0, .inr (1, [.ref q6, .null, .null, .null, .null, .null, .int 0, .int 0, .int 0, .int 0])), (q6, .inl (ca 0, 4, .inl (fun _ => 0)))] := hD
  refine lv_aload_n hx hb cd_1_11 rfl (lv_at hl 0 rfl) ?_
  refine lv_bipush (v := 10) hx hb cd_1_12 (by decide) ?_
  refine qt_newa (ty := .int) (cA0 := ca 0) (N' := 10) hx hb (hts _ (qm_has_mem (j := 1) (p := 71) (by decide +kernel))) rfl (by decide) hK hP hD hS hA 0 rfl (by decide) (by decide) (by decide) (by decide) (by decide) cd_1_14 (fun q14 H hP hD hS => ?_)
  have hP : va_P D vwCl [(h0, .inr (1, [.ref q6, .null, .null, .null, .null, .null, .int 0, .int 0, .int 0, .int 0])), (q6, .inl (ca 0, 4, .inl (fun _ => 0))), (q14, .inl (ca 0, 10, .inl (fun _ => 0)))] H := hP
  have hD : va_D A [(h0, .inr (1, [.ref q6, .null, .null, .null, .null, .null, .int 0, .int 0, .int 0, .int 0])), (q6, .inl (ca 0, 4, .inl (fun _ => 0))), (q14, .inl (ca 0, 10, .inl (fun _ => 0)))] := hD
  refine W.widen (k := 2) (n := 14) (by decide) (by decide) ?_
  refine va_putF (D := D) (ci := 1) (v := .ref q14) (ty := .array .int) (C := RX1) (T := TX1) (N := 10) hx hb hts (qm_cls_in (a := 1) rfl).1 tyX1 tyX1_ok nmX1 hown hK hP hD hS 0 rfl rfl 1 (by decide) (hts (.fieldLink "ThreadBank$Memory" 15 "ThreadBank$Memory" "places" "[I") (qm_has_mem (j := 1) (p := 30) (by decide +kernel))) (fun _ h9 => h9) rfl hin rfl (by decide +kernel) rfl rfl (Nat.le_of_ble_eq_true rfl) cd_1_16 (fun H locs hP hD hS => ?_)
  have hP : va_P D vwCl [(h0, .inr (1, [.ref q6, .ref q14, .null, .null, .null, .null, .int 0, .int 0, .int 0, .int 0])), (q6, .inl (ca 0, 4, .inl (fun _ => 0))), (q14, .inl (ca 0, 10, .inl (fun _ => 0)))] H := hP
  have hD : va_D A [(h0, .inr (1, [.ref q6, .ref q14, .null, .null, .null, .null, .int 0, .int 0, .int 0, .int 0])), (q6, .inl (ca 0, 4, .inl (fun _ => 0))), (q14, .inl (ca 0, 10, .inl (fun _ => 0)))] := hD
  refine lv_aload_n hx hb cd_1_19 rfl (lv_at hl 0 rfl) ?_
  refine lv_bipush (v := 10) hx hb cd_1_20 (by decide) ?_
  refine qt_newa (ty := .int) (cA0 := ca 0) (N' := 10) hx hb (hts _ (qm_has_mem (j := 1) (p := 71) (by decide +kernel))) rfl (by decide) hK hP hD hS hA 0 rfl (by decide) (by decide) (by decide) (by decide) (by decide) cd_1_22 (fun q22 H hP hD hS => ?_)
  have hP : va_P D vwCl [(h0, .inr (1, [.ref q6, .ref q14, .null, .null, .null, .null, .int 0, .int 0, .int 0, .int 0])), (q6, .inl (ca 0, 4, .inl (fun _ => 0))), (q14, .inl (ca 0, 10, .inl (fun _ => 0))), (q22, .inl (ca 0, 10, .inl (fun _ => 0)))] H := hP
  have hD : va_D A [(h0, .inr (1, [.ref q6, .ref q14, .null, .null, .null, .null, .int 0, .int 0, .int 0, .int 0])), (q6, .inl (ca 0, 4, .inl (fun _ => 0))), (q14, .inl (ca 0, 10, .inl (fun _ => 0))), (q22, .inl (ca 0, 10, .inl (fun _ => 0)))] := hD
  refine W.widen (k := 3) (n := 24) (by decide) (by decide) ?_
  refine va_putF (D := D) (ci := 1) (v := .ref q22) (ty := .array .int) (C := RX1) (T := TX1) (N := 10) hx hb hts (qm_cls_in (a := 1) rfl).1 tyX1 tyX1_ok nmX1 hown hK hP hD hS 0 rfl rfl 2 (by decide) (hts (.fieldLink "ThreadBank$Memory" 18 "ThreadBank$Memory" "pairs" "[I") (qm_has_mem (j := 1) (p := 33) (by decide +kernel))) (fun _ h9 => h9) rfl hin rfl (by decide +kernel) rfl rfl (Nat.le_of_ble_eq_true rfl) cd_1_24 (fun H locs hP hD hS => ?_)
  have hP : va_P D vwCl [(h0, .inr (1, [.ref q6, .ref q14, .ref q22, .null, .null, .null, .int 0, .int 0, .int 0, .int 0])), (q6, .inl (ca 0, 4, .inl (fun _ => 0))), (q14, .inl (ca 0, 10, .inl (fun _ => 0))), (q22, .inl (ca 0, 10, .inl (fun _ => 0)))] H := hP
  have hD : va_D A [(h0, .inr (1, [.ref q6, .ref q14, .ref q22, .null, .null, .null, .int 0, .int 0, .int 0, .int 0])), (q6, .inl (ca 0, 4, .inl (fun _ => 0))), (q14, .inl (ca 0, 10, .inl (fun _ => 0))), (q22, .inl (ca 0, 10, .inl (fun _ => 0)))] := hD
  refine lv_aload_n hx hb cd_1_27 rfl (lv_at hl 0 rfl) ?_
  refine lv_bipush (v := 10) hx hb cd_1_28 (by decide) ?_
  refine qt_newa (ty := .int) (cA0 := ca 0) (N' := 10) hx hb (hts _ (qm_has_mem (j := 1) (p := 71) (by decide +kernel))) rfl (by decide) hK hP hD hS hA 0 rfl (by decide) (by decide) (by decide) (by decide) (by decide) cd_1_30 (fun q30 H hP hD hS => ?_)
  have hP : va_P D vwCl [(h0, .inr (1, [.ref q6, .ref q14, .ref q22, .null, .null, .null, .int 0, .int 0, .int 0, .int 0])), (q6, .inl (ca 0, 4, .inl (fun _ => 0))), (q14, .inl (ca 0, 10, .inl (fun _ => 0))), (q22, .inl (ca 0, 10, .inl (fun _ => 0))), (q30, .inl (ca 0, 10, .inl (fun _ => 0)))] H := hP
  have hD : va_D A [(h0, .inr (1, [.ref q6, .ref q14, .ref q22, .null, .null, .null, .int 0, .int 0, .int 0, .int 0])), (q6, .inl (ca 0, 4, .inl (fun _ => 0))), (q14, .inl (ca 0, 10, .inl (fun _ => 0))), (q22, .inl (ca 0, 10, .inl (fun _ => 0))), (q30, .inl (ca 0, 10, .inl (fun _ => 0)))] := hD
  refine W.widen (k := 4) (n := 34) (by decide) (by decide) ?_
  refine va_putF (D := D) (ci := 1) (v := .ref q30) (ty := .array .int) (C := RX1) (T := TX1) (N := 10) hx hb hts (qm_cls_in (a := 1) rfl).1 tyX1 tyX1_ok nmX1 hown hK hP hD hS 0 rfl rfl 3 (by decide) (hts (.fieldLink "ThreadBank$Memory" 21 "ThreadBank$Memory" "knots" "[I") (qm_has_mem (j := 1) (p := 36) (by decide +kernel))) (fun _ h9 => h9) rfl hin rfl (by decide +kernel) rfl rfl (Nat.le_of_ble_eq_true rfl) cd_1_32 (fun H locs hP hD hS => ?_)
  have hP : va_P D vwCl [(h0, .inr (1, [.ref q6, .ref q14, .ref q22, .ref q30, .null, .null, .int 0, .int 0, .int 0, .int 0])), (q6, .inl (ca 0, 4, .inl (fun _ => 0))), (q14, .inl (ca 0, 10, .inl (fun _ => 0))), (q22, .inl (ca 0, 10, .inl (fun _ => 0))), (q30, .inl (ca 0, 10, .inl (fun _ => 0)))] H := hP
  have hD : va_D A [(h0, .inr (1, [.ref q6, .ref q14, .ref q22, .ref q30, .null, .null, .int 0, .int 0, .int 0, .int 0])), (q6, .inl (ca 0, 4, .inl (fun _ => 0))), (q14, .inl (ca 0, 10, .inl (fun _ => 0))), (q22, .inl (ca 0, 10, .inl (fun _ => 0))), (q30, .inl (ca 0, 10, .inl (fun _ => 0)))] := hD
  refine lv_aload_n hx hb cd_1_35 rfl (lv_at hl 0 rfl) ?_
  refine lv_bipush (v := 6) hx hb cd_1_36 (by decide) ?_
  refine qt_newa (ty := .int) (cA0 := ca 0) (N' := 6) hx hb (hts _ (qm_has_mem (j := 1) (p := 71) (by decide +kernel))) rfl (by decide) hK hP hD hS hA 0 rfl (by decide) (by decide) (by decide) (by decide) (by decide) cd_1_38 (fun q38 H hP hD hS => ?_)
  have hP : va_P D vwCl [(h0, .inr (1, [.ref q6, .ref q14, .ref q22, .ref q30, .null, .null, .int 0, .int 0, .int 0, .int 0])), (q6, .inl (ca 0, 4, .inl (fun _ => 0))), (q14, .inl (ca 0, 10, .inl (fun _ => 0))), (q22, .inl (ca 0, 10, .inl (fun _ => 0))), (q30, .inl (ca 0, 10, .inl (fun _ => 0))), (q38, .inl (ca 0, 6, .inl (fun _ => 0)))] H := hP
  have hD : va_D A [(h0, .inr (1, [.ref q6, .ref q14, .ref q22, .ref q30, .null, .null, .int 0, .int 0, .int 0, .int 0])), (q6, .inl (ca 0, 4, .inl (fun _ => 0))), (q14, .inl (ca 0, 10, .inl (fun _ => 0))), (q22, .inl (ca 0, 10, .inl (fun _ => 0))), (q30, .inl (ca 0, 10, .inl (fun _ => 0))), (q38, .inl (ca 0, 6, .inl (fun _ => 0)))] := hD
  refine W.widen (k := 5) (n := 40) (by decide) (by decide) ?_
  refine va_putF (D := D) (ci := 1) (v := .ref q38) (ty := .array .int) (C := RX1) (T := TX1) (N := 10) hx hb hts (qm_cls_in (a := 1) rfl).1 tyX1 tyX1_ok nmX1 hown hK hP hD hS 0 rfl rfl 4 (by decide) (hts (.fieldLink "ThreadBank$Memory" 24 "ThreadBank$Memory" "seenPairs" "[I") (qm_has_mem (j := 1) (p := 38) (by decide +kernel))) (fun _ h9 => h9) rfl hin rfl (by decide +kernel) rfl rfl (Nat.le_of_ble_eq_true rfl) cd_1_40 (fun H locs hP hD hS => ?_)
  have hP : va_P D vwCl [(h0, .inr (1, [.ref q6, .ref q14, .ref q22, .ref q30, .ref q38, .null, .int 0, .int 0, .int 0, .int 0])), (q6, .inl (ca 0, 4, .inl (fun _ => 0))), (q14, .inl (ca 0, 10, .inl (fun _ => 0))), (q22, .inl (ca 0, 10, .inl (fun _ => 0))), (q30, .inl (ca 0, 10, .inl (fun _ => 0))), (q38, .inl (ca 0, 6, .inl (fun _ => 0)))] H := hP
  have hD : va_D A [(h0, .inr (1, [.ref q6, .ref q14, .ref q22, .ref q30, .ref q38, .null, .int 0, .int 0, .int 0, .int 0])), (q6, .inl (ca 0, 4, .inl (fun _ => 0))), (q14, .inl (ca 0, 10, .inl (fun _ => 0))), (q22, .inl (ca 0, 10, .inl (fun _ => 0))), (q30, .inl (ca 0, 10, .inl (fun _ => 0))), (q38, .inl (ca 0, 6, .inl (fun _ => 0)))] := hD
  refine lv_aload_n hx hb cd_1_43 rfl (lv_at hl 0 rfl) ?_
  refine lv_bipush (v := 6) hx hb cd_1_44 (by decide) ?_
  refine qt_newa (ty := .int) (cA0 := ca 0) (N' := 6) hx hb (hts _ (qm_has_mem (j := 1) (p := 71) (by decide +kernel))) rfl (by decide) hK hP hD hS hA 0 rfl (by decide) (by decide) (by decide) (by decide) (by decide) cd_1_46 (fun q46 H hP hD hS => ?_)
  have hP : va_P D vwCl [(h0, .inr (1, [.ref q6, .ref q14, .ref q22, .ref q30, .ref q38, .null, .int 0, .int 0, .int 0, .int 0])), (q6, .inl (ca 0, 4, .inl (fun _ => 0))), (q14, .inl (ca 0, 10, .inl (fun _ => 0))), (q22, .inl (ca 0, 10, .inl (fun _ => 0))), (q30, .inl (ca 0, 10, .inl (fun _ => 0))), (q38, .inl (ca 0, 6, .inl (fun _ => 0))), (q46, .inl (ca 0, 6, .inl (fun _ => 0)))] H := hP
  have hD : va_D A [(h0, .inr (1, [.ref q6, .ref q14, .ref q22, .ref q30, .ref q38, .null, .int 0, .int 0, .int 0, .int 0])), (q6, .inl (ca 0, 4, .inl (fun _ => 0))), (q14, .inl (ca 0, 10, .inl (fun _ => 0))), (q22, .inl (ca 0, 10, .inl (fun _ => 0))), (q30, .inl (ca 0, 10, .inl (fun _ => 0))), (q38, .inl (ca 0, 6, .inl (fun _ => 0))), (q46, .inl (ca 0, 6, .inl (fun _ => 0)))] := hD
  refine W.widen (k := 6) (n := 46) (by decide) (by decide) ?_
  refine va_putF (D := D) (ci := 1) (v := .ref q46) (ty := .array .int) (C := RX1) (T := TX1) (N := 10) hx hb hts (qm_cls_in (a := 1) rfl).1 tyX1 tyX1_ok nmX1 hown hK hP hD hS 0 rfl rfl 5 (by decide) (hts (.fieldLink "ThreadBank$Memory" 27 "ThreadBank$Memory" "seenSums" "[I") (qm_has_mem (j := 1) (p := 39) (by decide +kernel))) (fun _ h9 => h9) rfl hin rfl (by decide +kernel) rfl rfl (Nat.le_of_ble_eq_true rfl) cd_1_48 (fun H locs hP hD hS => ?_)
  have hP : va_P D vwCl [(h0, .inr (1, [.ref q6, .ref q14, .ref q22, .ref q30, .ref q38, .ref q46, .int 0, .int 0, .int 0, .int 0])), (q6, .inl (ca 0, 4, .inl (fun _ => 0))), (q14, .inl (ca 0, 10, .inl (fun _ => 0))), (q22, .inl (ca 0, 10, .inl (fun _ => 0))), (q30, .inl (ca 0, 10, .inl (fun _ => 0))), (q38, .inl (ca 0, 6, .inl (fun _ => 0))), (q46, .inl (ca 0, 6, .inl (fun _ => 0)))] H := hP
  have hD : va_D A [(h0, .inr (1, [.ref q6, .ref q14, .ref q22, .ref q30, .ref q38, .ref q46, .int 0, .int 0, .int 0, .int 0])), (q6, .inl (ca 0, 4, .inl (fun _ => 0))), (q14, .inl (ca 0, 10, .inl (fun _ => 0))), (q22, .inl (ca 0, 10, .inl (fun _ => 0))), (q30, .inl (ca 0, 10, .inl (fun _ => 0))), (q38, .inl (ca 0, 6, .inl (fun _ => 0))), (q46, .inl (ca 0, 6, .inl (fun _ => 0)))] := hD
  have hP9 : va_P D vwCl (qt_1 ca h0 (fun k => [h0, q6, q14, q22, q30, q38, q46].getD k 0)) H := hP.sub [0, 1, 2, 3, 4, 5, 6] rfl
  have hD9 : va_D A (qt_1 ca h0 (fun k => [h0, q6, q14, q22, q30, q38, q46].getD k 0)) := hD.sub [0, 1, 2, 3, 4, 5, 6] (by decide) rfl
  exact W.vret hx hb hr (fun t ht hW => ⟨⟨(fun k => [h0, q6, q14, q22, q30, q38, q46].getD k 0), rfl, trivial, by rw [ht]; exact hP9, hD9⟩, hS.F ht⟩) hS.2.2 cd_1_51
set_option maxHeartbeats 4000000 in
set_option maxRecDepth 100000 in
theorem ct_0 (l : Launch) (D : va_G) (ca : Nat → ClassId) (h0 sz : Nat) : Met l cy_0 (Cond.code cy_0 cb_0 1 none :: qm_tbl) ({ frames := 1, cells := 1, slots := 16, locals := 12 }) (va_Pc [.ref h0] (fun U => U.heap.size = sz ∧ va_P D vwCl (qn_0 h0) U.heap ∧ va_K D vwCl (qt_tys ca) U ∧ va_D (fun _ => True) (qn_0 h0))) (va_Qv (fun _ : Nat → Nat => True) (fun u t => va_P D vwCl (qt_0 ca h0 u) t.heap ∧ va_D (va_A (qn_0 h0) sz) (qt_0 ca h0 u)) (va_A (qn_0 h0) sz)) 1 16 (va_A (qn_0 h0) sz) := by
  refine Met.ofW (cc := cb_0) (maxL := 1) (ret := none) (by decide) rfl ?_
  intro p e s m args below meth c s₁ B hml hv
  obtain ⟨rfl, hsz, hP, hK, hD0⟩ := hv
  have hx := B.exec
  have hb := B.bytes
  have hr := B.returns
  have hts0 := atoms_spec (ws := Cond.code cy_0 cb_0 1 none :: qm_tbl) B.pre
  have hts : ∀ w ∈ qm_tbl, w.before _ s = true := fun w hw => hts0 w (List.mem_cons_of_mem _ hw)
  have hown : s.vm.findClass RX0 = some m.cls := findClass_of_methodNamed B.named
  have hlocks := B.notSynchronized
  have hin : meth.name = "<init>" := (name_of_methodNamed B.named B.method).1
  subst hsz
  have hD := hD0.self (sz := s.heap.size)
  generalize hAe : va_A (qn_0 h0) s.heap.size = A at hD ⊢
  have hA : ∀ q : Nat, s.heap.size ≤ q → A q := fun q h => by rw [← hAe]; exact Or.inr h
  have hS : va_S A s.heap s.heap [] := va_S.rf
  have hl := lv_entry ([.ref h0]) (n := 1) (Nat.le_of_ble_eq_true rfl)
  rw [lg_entry_eq]
  generalize (lg_sl ([.ref h0]) ++ List.replicate (1 - (lg_sl ([.ref h0])).length) Slot.unset).toArray = ls at hl ⊢
  have hl : lv_has ls 1 [(0, .ref h0)] := hl
  refine lv_aload_n hx hb cd_0_0 rfl (lv_at hl 0 rfl) ?_
  refine W.objInit hx hb hown (hts (.methodLink "ThreadBank$Clearing" 3 objectInit) (qm_has_mem (j := 1) (p := 126) (by decide +kernel))) (hts (.instanceMethod objectInit) (qm_has_mem (j := 1) (p := 20) (by decide +kernel))) (hts (.code objectInit ⟨#[0xb1]⟩ 1 none) (qm_has_mem (j := 1) (p := 21) (by decide +kernel))) rfl (by rw [hml]; exact hl.1) rfl cd_0_1 (Nat.le_of_ble_eq_true rfl) (Nat.le_of_ble_eq_true rfl) ?_
  refine W.eq (g2 := F0 m 4 ls []) rfl ?_
  refine lv_aload_n hx hb cd_0_4 rfl (lv_at hl 0 rfl) ?_
  refine lv_bipush (v := 16) hx hb cd_0_5 (by decide) ?_
  refine qt_newa (ty := .int) (cA0 := ca 0) (N' := 16) hx hb (hts _ (qm_has_mem (j := 1) (p := 71) (by decide +kernel))) rfl (by decide) hK hP hD hS hA 0 rfl (by decide) (by decide) (by decide) (by decide) (by decide) cd_0_7 (fun q7 H hP hD hS => ?_)
  have hP : va_P D vwCl [(h0, .inr (0, [.null, .int 0, .int 0])), (q7, .inl (ca 0, 16, .inl (fun _ => 0)))] H := hP
  have hD : va_D A [(h0, .inr (0, [.null, .int 0, .int 0])), (q7, .inl (ca 0, 16, .inl (fun _ => 0)))] := hD
  refine W.widen (k := 1) (n := 16) (by decide) (by decide) ?_
  refine va_putF (D := D) (ci := 0) (v := .ref q7) (ty := .array .int) (C := RX0) (T := TX0) (N := 3) hx hb hts (qm_cls_in (a := 0) rfl).1 tyX0 tyX0_ok nmX0 hown hK hP hD hS 0 rfl rfl 0 (by decide) (hts (.fieldLink "ThreadBank$Clearing" 9 "ThreadBank$Clearing" "sums" "[I") (qm_has_mem (j := 1) (p := 127) (by decide +kernel))) (fun _ h9 => h9) rfl hin rfl (by decide +kernel) rfl rfl (Nat.le_of_ble_eq_true rfl) cd_0_9 (fun H locs hP hD hS => ?_)
  have hP : va_P D vwCl [(h0, .inr (0, [.ref q7, .int 0, .int 0])), (q7, .inl (ca 0, 16, .inl (fun _ => 0)))] H := hP
  have hD : va_D A [(h0, .inr (0, [.ref q7, .int 0, .int 0])), (q7, .inl (ca 0, 16, .inl (fun _ => 0)))] := hD
  have hP9 : va_P D vwCl (qt_0 ca h0 (fun k => [h0, q7].getD k 0)) H := hP.sub [0, 1] rfl
  have hD9 : va_D A (qt_0 ca h0 (fun k => [h0, q7].getD k 0)) := hD.sub [0, 1] (by decide) rfl
  exact W.vret hx hb hr (fun t ht hW => ⟨⟨(fun k => [h0, q7].getD k 0), rfl, trivial, by rw [ht]; exact hP9, hD9⟩, hS.F ht⟩) hS.2.2 cd_0_12
set_option maxHeartbeats 4000000 in
set_option maxRecDepth 100000 in
theorem ct_2 (l : Launch) (D : va_G) (ca : Nat → ClassId) (h0 sz : Nat) : Met l cy_2 (Cond.code cy_2 cb_2 1 none :: qm_tbl) ({ frames := 1, cells := 3, slots := 168, locals := 12 }) (va_Pc [.ref h0] (fun U => U.heap.size = sz ∧ va_P D vwCl (qn_2 h0) U.heap ∧ va_K D vwCl (qt_tys ca) U ∧ va_D (fun _ => True) (qn_2 h0))) (va_Qv (fun _ : Nat → Nat => True) (fun u t => va_P D vwCl (qt_2 ca h0 u) t.heap ∧ va_D (va_A (qn_2 h0) sz) (qt_2 ca h0 u)) (va_A (qn_2 h0) sz)) 3 168 (va_A (qn_2 h0) sz) := by
  refine Met.ofW (cc := cb_2) (maxL := 1) (ret := none) (by decide) rfl ?_
  intro p e s m args below meth c s₁ B hml hv
  obtain ⟨rfl, hsz, hP, hK, hD0⟩ := hv
  have hx := B.exec
  have hb := B.bytes
  have hr := B.returns
  have hts0 := atoms_spec (ws := Cond.code cy_2 cb_2 1 none :: qm_tbl) B.pre
  have hts : ∀ w ∈ qm_tbl, w.before _ s = true := fun w hw => hts0 w (List.mem_cons_of_mem _ hw)
  have hown : s.vm.findClass RX2 = some m.cls := findClass_of_methodNamed B.named
  have hlocks := B.notSynchronized
  have hin : meth.name = "<init>" := (name_of_methodNamed B.named B.method).1
  subst hsz
  have hD := hD0.self (sz := s.heap.size)
  generalize hAe : va_A (qn_2 h0) s.heap.size = A at hD ⊢
  have hA : ∀ q : Nat, s.heap.size ≤ q → A q := fun q h => by rw [← hAe]; exact Or.inr h
  have hS : va_S A s.heap s.heap [] := va_S.rf
  have hl := lv_entry ([.ref h0]) (n := 1) (Nat.le_of_ble_eq_true rfl)
  rw [lg_entry_eq]
  generalize (lg_sl ([.ref h0]) ++ List.replicate (1 - (lg_sl ([.ref h0])).length) Slot.unset).toArray = ls at hl ⊢
  have hl : lv_has ls 1 [(0, .ref h0)] := hl
  refine lv_aload_n hx hb cd_2_0 rfl (lv_at hl 0 rfl) ?_
  refine W.objInit hx hb hown (hts (.methodLink "ThreadBank$Sheets" 3 objectInit) (qm_has_mem (j := 1) (p := 142) (by decide +kernel))) (hts (.instanceMethod objectInit) (qm_has_mem (j := 1) (p := 20) (by decide +kernel))) (hts (.code objectInit ⟨#[0xb1]⟩ 1 none) (qm_has_mem (j := 1) (p := 21) (by decide +kernel))) rfl (by rw [hml]; exact hl.1) rfl cd_2_1 (Nat.le_of_ble_eq_true rfl) (Nat.le_of_ble_eq_true rfl) ?_
  refine W.eq (g2 := F0 m 4 ls []) rfl ?_
  refine lv_aload_n hx hb cd_2_4 rfl (lv_at hl 0 rfl) ?_
  refine lv_sipush (v := 160) hx hb cd_2_5 (by decide) ?_
  refine qt_newa (ty := .int) (cA0 := ca 0) (N' := 160) hx hb (hts _ (qm_has_mem (j := 1) (p := 71) (by decide +kernel))) rfl (by decide) hK hP hD hS hA 0 rfl (by decide) (by decide) (by decide) (by decide) (by decide) cd_2_8 (fun q8 H hP hD hS => ?_)
  have hP : va_P D vwCl [(h0, .inr (2, [.null, .null, .null])), (q8, .inl (ca 0, 160, .inl (fun _ => 0)))] H := hP
  have hD : va_D A [(h0, .inr (2, [.null, .null, .null])), (q8, .inl (ca 0, 160, .inl (fun _ => 0)))] := hD
  refine W.widen (k := 1) (n := 160) (by decide) (by decide) ?_
  refine va_putF (D := D) (ci := 2) (v := .ref q8) (ty := .array .int) (C := RX2) (T := TX2) (N := 3) hx hb hts (qm_cls_in (a := 2) rfl).1 tyX2 tyX2_ok nmX2 hown hK hP hD hS 0 rfl rfl 0 (by decide) (hts (.fieldLink "ThreadBank$Sheets" 11 "ThreadBank$Sheets" "cells" "[I") (qm_has_mem (j := 1) (p := 143) (by decide +kernel))) (fun _ h9 => h9) rfl hin rfl (by decide +kernel) rfl rfl (Nat.le_of_ble_eq_true rfl) cd_2_10 (fun H locs hP hD hS => ?_)
  have hP : va_P D vwCl [(h0, .inr (2, [.ref q8, .null, .null])), (q8, .inl (ca 0, 160, .inl (fun _ => 0)))] H := hP
  have hD : va_D A [(h0, .inr (2, [.ref q8, .null, .null])), (q8, .inl (ca 0, 160, .inl (fun _ => 0)))] := hD
  refine lv_aload_n hx hb cd_2_13 rfl (lv_at hl 0 rfl) ?_
  refine lv_iconst (v := 4) hx hb cd_2_14 (by decide) ?_
  refine qt_newa (ty := .int) (cA0 := ca 0) (N' := 4) hx hb (hts _ (qm_has_mem (j := 1) (p := 71) (by decide +kernel))) rfl (by decide) hK hP hD hS hA 0 rfl (by decide) (by decide) (by decide) (by decide) (by decide) cd_2_15 (fun q15 H hP hD hS => ?_)
  have hP : va_P D vwCl [(h0, .inr (2, [.ref q8, .null, .null])), (q8, .inl (ca 0, 160, .inl (fun _ => 0))), (q15, .inl (ca 0, 4, .inl (fun _ => 0)))] H := hP
  have hD : va_D A [(h0, .inr (2, [.ref q8, .null, .null])), (q8, .inl (ca 0, 160, .inl (fun _ => 0))), (q15, .inl (ca 0, 4, .inl (fun _ => 0)))] := hD
  refine W.widen (k := 2) (n := 164) (by decide) (by decide) ?_
  refine va_putF (D := D) (ci := 2) (v := .ref q15) (ty := .array .int) (C := RX2) (T := TX2) (N := 3) hx hb hts (qm_cls_in (a := 2) rfl).1 tyX2 tyX2_ok nmX2 hown hK hP hD hS 0 rfl rfl 1 (by decide) (hts (.fieldLink "ThreadBank$Sheets" 15 "ThreadBank$Sheets" "lanes" "[I") (qm_has_mem (j := 1) (p := 144) (by decide +kernel))) (fun _ h9 => h9) rfl hin rfl (by decide +kernel) rfl rfl (Nat.le_of_ble_eq_true rfl) cd_2_17 (fun H locs hP hD hS => ?_)
  have hP : va_P D vwCl [(h0, .inr (2, [.ref q8, .ref q15, .null])), (q8, .inl (ca 0, 160, .inl (fun _ => 0))), (q15, .inl (ca 0, 4, .inl (fun _ => 0)))] H := hP
  have hD : va_D A [(h0, .inr (2, [.ref q8, .ref q15, .null])), (q8, .inl (ca 0, 160, .inl (fun _ => 0))), (q15, .inl (ca 0, 4, .inl (fun _ => 0)))] := hD
  refine lv_aload_n hx hb cd_2_20 rfl (lv_at hl 0 rfl) ?_
  refine lv_iconst (v := 4) hx hb cd_2_21 (by decide) ?_
  refine qt_newa (ty := .int) (cA0 := ca 0) (N' := 4) hx hb (hts _ (qm_has_mem (j := 1) (p := 71) (by decide +kernel))) rfl (by decide) hK hP hD hS hA 0 rfl (by decide) (by decide) (by decide) (by decide) (by decide) cd_2_22 (fun q22 H hP hD hS => ?_)
  have hP : va_P D vwCl [(h0, .inr (2, [.ref q8, .ref q15, .null])), (q8, .inl (ca 0, 160, .inl (fun _ => 0))), (q15, .inl (ca 0, 4, .inl (fun _ => 0))), (q22, .inl (ca 0, 4, .inl (fun _ => 0)))] H := hP
  have hD : va_D A [(h0, .inr (2, [.ref q8, .ref q15, .null])), (q8, .inl (ca 0, 160, .inl (fun _ => 0))), (q15, .inl (ca 0, 4, .inl (fun _ => 0))), (q22, .inl (ca 0, 4, .inl (fun _ => 0)))] := hD
  refine W.widen (k := 3) (n := 168) (by decide) (by decide) ?_
  refine lv_dup hx hb cd_2_24 rfl ?_
  refine lv_iconst (v := 0) hx hb cd_2_25 (by decide) ?_
  refine lv_bipush (v := (-4)) hx hb cd_2_26 (by decide) ?_
  refine va_iast (D := D) (cA := ca 0) hx hb hK hP hD hS 3 0 rfl rfl (qm_in (by decide)) cd_2_28 (fun H locs hP hD hS => ?_)
  have hP : va_P D vwCl [(h0, .inr (2, [.ref q8, .ref q15, .null])), (q8, .inl (ca 0, 160, .inl (fun _ => 0))), (q15, .inl (ca 0, 4, .inl (fun _ => 0))), (q22, .inl (ca 0, 4, .inl (upd (fun _ => 0) 0 (-4))))] H := hP
  have hD : va_D A [(h0, .inr (2, [.ref q8, .ref q15, .null])), (q8, .inl (ca 0, 160, .inl (fun _ => 0))), (q15, .inl (ca 0, 4, .inl (fun _ => 0))), (q22, .inl (ca 0, 4, .inl (upd (fun _ => 0) 0 (-4))))] := hD
  refine lv_dup hx hb cd_2_29 rfl ?_
  refine lv_iconst (v := 1) hx hb cd_2_30 (by decide) ?_
  refine lv_bipush (v := (-4)) hx hb cd_2_31 (by decide) ?_
  refine va_iast (D := D) (cA := ca 0) hx hb hK hP hD hS 3 0 rfl rfl (qm_in (by decide)) cd_2_33 (fun H locs hP hD hS => ?_)
  have hP : va_P D vwCl [(h0, .inr (2, [.ref q8, .ref q15, .null])), (q8, .inl (ca 0, 160, .inl (fun _ => 0))), (q15, .inl (ca 0, 4, .inl (fun _ => 0))), (q22, .inl (ca 0, 4, .inl (upd (upd (fun _ => 0) 0 (-4)) 1 (-4))))] H := hP
  have hD : va_D A [(h0, .inr (2, [.ref q8, .ref q15, .null])), (q8, .inl (ca 0, 160, .inl (fun _ => 0))), (q15, .inl (ca 0, 4, .inl (fun _ => 0))), (q22, .inl (ca 0, 4, .inl (upd (upd (fun _ => 0) 0 (-4)) 1 (-4))))] := hD
  refine lv_dup hx hb cd_2_34 rfl ?_
  refine lv_iconst (v := 2) hx hb cd_2_35 (by decide) ?_
  refine lv_bipush (v := (-4)) hx hb cd_2_36 (by decide) ?_
  refine va_iast (D := D) (cA := ca 0) hx hb hK hP hD hS 3 0 rfl rfl (qm_in (by decide)) cd_2_38 (fun H locs hP hD hS => ?_)
  have hP : va_P D vwCl [(h0, .inr (2, [.ref q8, .ref q15, .null])), (q8, .inl (ca 0, 160, .inl (fun _ => 0))), (q15, .inl (ca 0, 4, .inl (fun _ => 0))), (q22, .inl (ca 0, 4, .inl (upd (upd (upd (fun _ => 0) 0 (-4)) 1 (-4)) 2 (-4))))] H := hP
  have hD : va_D A [(h0, .inr (2, [.ref q8, .ref q15, .null])), (q8, .inl (ca 0, 160, .inl (fun _ => 0))), (q15, .inl (ca 0, 4, .inl (fun _ => 0))), (q22, .inl (ca 0, 4, .inl (upd (upd (upd (fun _ => 0) 0 (-4)) 1 (-4)) 2 (-4))))] := hD
  refine lv_dup hx hb cd_2_39 rfl ?_
  refine lv_iconst (v := 3) hx hb cd_2_40 (by decide) ?_
  refine lv_bipush (v := (-4)) hx hb cd_2_41 (by decide) ?_
  refine va_iast (D := D) (cA := ca 0) hx hb hK hP hD hS 3 0 rfl rfl (qm_in (by decide)) cd_2_43 (fun H locs hP hD hS => ?_)
  have hP : va_P D vwCl [(h0, .inr (2, [.ref q8, .ref q15, .null])), (q8, .inl (ca 0, 160, .inl (fun _ => 0))), (q15, .inl (ca 0, 4, .inl (fun _ => 0))), (q22, .inl (ca 0, 4, .inl (upd (upd (upd (upd (fun _ => 0) 0 (-4)) 1 (-4)) 2 (-4)) 3 (-4))))] H := hP
  have hD : va_D A [(h0, .inr (2, [.ref q8, .ref q15, .null])), (q8, .inl (ca 0, 160, .inl (fun _ => 0))), (q15, .inl (ca 0, 4, .inl (fun _ => 0))), (q22, .inl (ca 0, 4, .inl (upd (upd (upd (upd (fun _ => 0) 0 (-4)) 1 (-4)) 2 (-4)) 3 (-4))))] := hD
  refine va_putF (D := D) (ci := 2) (v := .ref q22) (ty := .array .int) (C := RX2) (T := TX2) (N := 3) hx hb hts (qm_cls_in (a := 2) rfl).1 tyX2 tyX2_ok nmX2 hown hK hP hD hS 0 rfl rfl 2 (by decide) (hts (.fieldLink "ThreadBank$Sheets" 18 "ThreadBank$Sheets" "sizes" "[I") (qm_has_mem (j := 1) (p := 145) (by decide +kernel))) (fun _ h9 => h9) rfl hin rfl (by decide +kernel) rfl rfl (Nat.le_of_ble_eq_true rfl) cd_2_44 (fun H locs hP hD hS => ?_)
  have hP : va_P D vwCl [(h0, .inr (2, [.ref q8, .ref q15, .ref q22])), (q8, .inl (ca 0, 160, .inl (fun _ => 0))), (q15, .inl (ca 0, 4, .inl (fun _ => 0))), (q22, .inl (ca 0, 4, .inl (upd (upd (upd (upd (fun _ => 0) 0 (-4)) 1 (-4)) 2 (-4)) 3 (-4))))] H := hP
  have hD : va_D A [(h0, .inr (2, [.ref q8, .ref q15, .ref q22])), (q8, .inl (ca 0, 160, .inl (fun _ => 0))), (q15, .inl (ca 0, 4, .inl (fun _ => 0))), (q22, .inl (ca 0, 4, .inl (upd (upd (upd (upd (fun _ => 0) 0 (-4)) 1 (-4)) 2 (-4)) 3 (-4))))] := hD
  have hP9 : va_P D vwCl (qt_2 ca h0 (fun k => [h0, q8, q15, q22].getD k 0)) H := hP.sub [0, 1, 2, 3] rfl
  have hD9 : va_D A (qt_2 ca h0 (fun k => [h0, q8, q15, q22].getD k 0)) := hD.sub [0, 1, 2, 3] (by decide) rfl
  exact W.vret hx hb hr (fun t ht hW => ⟨⟨(fun k => [h0, q8, q15, q22].getD k 0), rfl, trivial, by rw [ht]; exact hP9, hD9⟩, hS.F ht⟩) hS.2.2 cd_2_47
