set_option maxHeartbeats 4000000 in
set_option maxRecDepth 100000 in
theorem ct_3 (l : Launch) (D : va_G) (ca : Nat → ClassId) (h0 sz : Nat) : Met l cy_3 (Cond.code cy_3 cb_3 1 none :: qm_tbl) ({ frames := 2, cells := 8, slots := 216, locals := 32 }) (va_Pc [.ref h0] (fun U => U.heap.size = sz ∧ va_P D vwCl (qn_3 h0) U.heap ∧ va_K D vwCl (qt_tys ca) U ∧ va_D (fun _ => True) (qn_3 h0) ∧ va_Nw (.methodLinkNest "ThreadBank$TextReader" 17 cy_1 "ThreadBank") U)) (va_Qv (fun _ : Nat → Nat => True) (fun u t => va_P D vwCl (qt_3 ca h0 u) t.heap ∧ va_D (va_A (qn_3 h0) sz) (qt_3 ca h0 u)) (va_A (qn_3 h0) sz)) 8 216 (va_A (qn_3 h0) sz) := by
  refine Met.ofW (cc := cb_3) (maxL := 1) (ret := none) (by decide) rfl ?_
  intro p e s m args below meth c s₁ B hml hv
  obtain ⟨rfl, hsz, hP, hK, hD0, hN_T_17⟩ := hv
  have hx := B.exec
  have hb := B.bytes
  have hr := B.returns
  have hts0 := atoms_spec (ws := Cond.code cy_3 cb_3 1 none :: qm_tbl) B.pre
  have hts : ∀ w ∈ qm_tbl, w.before _ s = true := fun w hw => hts0 w (List.mem_cons_of_mem _ hw)
  have hown : s.vm.findClass RX3 = some m.cls := findClass_of_methodNamed B.named
  have hlocks := B.notSynchronized
  have hin : meth.name = "<init>" := (name_of_methodNamed B.named B.method).1
  subst hsz
  have hD := hD0.self (sz := s.heap.size)
  generalize hAe : va_A (qn_3 h0) s.heap.size = A at hD ⊢
  have hA : ∀ q : Nat, s.heap.size ≤ q → A q := fun q h => by rw [← hAe]; exact Or.inr h
  have hS : va_S A s.heap s.heap [] := va_S.rf
  have hl := lv_entry ([.ref h0]) (n := 1) (Nat.le_of_ble_eq_true rfl)
  rw [lg_entry_eq]
  generalize (lg_sl ([.ref h0]) ++ List.replicate (1 - (lg_sl ([.ref h0])).length) Slot.unset).toArray = ls at hl ⊢
  have hl : lv_has ls 1 [(0, .ref h0)] := hl
  refine lv_aload_n hx hb cd_3_0 rfl (lv_at hl 0 rfl) ?_
  refine W.objInit hx hb hown (hts (.methodLink "ThreadBank$TextReader" 3 objectInit) (qm_has_mem (j := 1) (p := 77) (by decide +kernel))) (hts (.instanceMethod objectInit) (qm_has_mem (j := 1) (p := 20) (by decide +kernel))) (hts (.code objectInit ⟨#[0xb1]⟩ 1 none) (qm_has_mem (j := 1) (p := 21) (by decide +kernel))) rfl (by rw [hml]; exact hl.1) rfl cd_3_1 (Nat.le_of_ble_eq_true rfl) (Nat.le_of_ble_eq_true rfl) ?_
  refine W.eq (g2 := F0 m 4 ls []) rfl ?_
  refine lv_aload_n hx hb cd_3_4 rfl (lv_at hl 0 rfl) ?_
  refine lv_sipush (v := 160) hx hb cd_3_5 (by decide) ?_
  refine qt_newa (ty := .byte) (cA0 := ca 1) (N' := 160) hx hb (hts _ (qm_has_mem (j := 1) (p := 120) (by decide +kernel))) rfl (by decide) hK hP hD hS hA 1 rfl (by decide) (by decide) (by decide) (by decide) (by decide) cd_3_8 (fun q8 H hP hD hS => ?_)
  have hP : va_P D vwCl [(h0, .inr (3, [.null, .null, .int 0, .int 0, .int 0, .int 0, .int 0, .int 0, .int 0, .int 0, .int 0])), (q8, .inl (ca 1, 160, .inl (fun _ => 0)))] H := hP
  have hD : va_D A [(h0, .inr (3, [.null, .null, .int 0, .int 0, .int 0, .int 0, .int 0, .int 0, .int 0, .int 0, .int 0])), (q8, .inl (ca 1, 160, .inl (fun _ => 0)))] := hD
  refine W.widen (k := 1) (n := 160) (by decide) (by decide) ?_
  refine va_putF (D := D) (ci := 3) (v := .ref q8) (ty := .array .byte) (C := RX3) (T := TX3) (N := 11) hx hb hts (qm_cls_in (a := 3) rfl).1 tyX3 tyX3_ok nmX3 hown hK hP hD hS 0 rfl rfl 0 (by decide) (hts (.fieldLink "ThreadBank$TextReader" 9 "ThreadBank$TextReader" "tape" "[B") (qm_has_mem (j := 1) (p := 80) (by decide +kernel))) (fun _ h9 => h9) rfl hin rfl (by decide +kernel) rfl rfl (Nat.le_of_ble_eq_true rfl) cd_3_10 (fun H locs hP hD hS => ?_)
  have hP : va_P D vwCl [(h0, .inr (3, [.ref q8, .null, .int 0, .int 0, .int 0, .int 0, .int 0, .int 0, .int 0, .int 0, .int 0])), (q8, .inl (ca 1, 160, .inl (fun _ => 0)))] H := hP
  have hD : va_D A [(h0, .inr (3, [.ref q8, .null, .int 0, .int 0, .int 0, .int 0, .int 0, .int 0, .int 0, .int 0, .int 0])), (q8, .inl (ca 1, 160, .inl (fun _ => 0)))] := hD
  refine lv_aload_n hx hb cd_3_13 rfl (lv_at hl 0 rfl) ?_
  refine va_new (ci := 1) (fs := [.null, .null, .null, .null, .null, .null, .int 0, .int 0, .int 0, .int 0]) (C := RX1) (T := TX1) (N := 10) hx hb hts (qm_cls_in (a := 1) rfl).1 tyX1 tyX1_ok hown (hts (.classLink "ThreadBank$TextReader" 15 "ThreadBank$Memory") (qm_has_mem (j := 1) (p := 78) (by decide +kernel))) (hts (.instantiable RX1 10) (qm_has_mem (j := 1) (p := 23) (by decide +kernel))) (hts (.initialized RX1) (qm_has_mem (j := 1) (p := 2) (by decide +kernel))) hK hP hD hS hA rfl (fun j hj => by rcases (show j = 0 ∨ j = 1 ∨ j = 2 ∨ j = 3 ∨ j = 4 ∨ j = 5 ∨ j = 6 ∨ j = 7 ∨ j = 8 ∨ j = 9 by omega) with rfl | rfl | rfl | rfl | rfl | rfl | rfl | rfl | rfl | rfl <;> rfl) (by decide) (by decide) cd_3_14 (fun q14 H hP hD hS => ?_)
  have hP : va_P D vwCl [(h0, .inr (3, [.ref q8, .null, .int 0, .int 0, .int 0, .int 0, .int 0, .int 0, .int 0, .int 0, .int 0])), (q8, .inl (ca 1, 160, .inl (fun _ => 0))), (q14, .inr (1, [.null, .null, .null, .null, .null, .null, .int 0, .int 0, .int 0, .int 0]))] H := hP
  have hD : va_D A [(h0, .inr (3, [.ref q8, .null, .int 0, .int 0, .int 0, .int 0, .int 0, .int 0, .int 0, .int 0, .int 0])), (q8, .inl (ca 1, 160, .inl (fun _ => 0))), (q14, .inr (1, [.null, .null, .null, .null, .null, .null, .int 0, .int 0, .int 0, .int 0]))] := hD
  refine W.widen (k := 2) (n := 170) (by decide) (by decide) ?_
  refine lv_dup hx hb cd_3_17 rfl ?_
  have hPc := hP.sub (ws' := qn_1 q14) [2] rfl
  have hDc := hD.sub (ws' := qn_1 q14) [2] (by decide) rfl
  have hFc := va_free (wc := qn_1 q14) hD hS hA [2] rfl
  refine va_callv (va_runIN (As := []) (rest := [.ref q14, .ref h0]) ⟨hx, hb, hml, hown, hts⟩ (ct_1 l D ca q14 H.size) ⟨va_cnB 0 hts (qt_good (qm_has_mem (j := 1) (p := 26) (by decide +kernel))) rfl rfl rfl hN_T_17 (hts (.initialized RX1) (qm_has_mem (j := 1) (p := 2) (by decide +kernel))) ⟨by decide +kernel, by decide +kernel, by decide +kernel⟩ ⟨by decide, by decide⟩, rfl, hts (.instanceMethod cy_1) (qm_has_mem (j := 1) (p := 25) (by decide +kernel))⟩ ⟨fun a U g mk q => by obtain ⟨q0, q1, qP, qK, qD⟩ := q; exact ⟨q0, q1, qP, va_K.moved (u := U) (U := U.calling g mk a) (Vm.Alike.refl U.vm) qK, qD⟩, fun U hU hW => ⟨rfl, by rw [hU], by rw [hU]; exact hPc, va_K.moved hW.alike hK, hDc.weaken (fun _ _ _ _ => trivial)⟩⟩ rfl rfl hl.1 rfl (lv_room (Nat.le_of_ble_eq_true rfl)) cd_3_18 ⟨by decide, by decide⟩) hS (fun q _ h => hFc q h) hFc (fun u18 t H1 locs ht hvm h5 hB hz1 hk1 hS => ?_)
  obtain ⟨hP1, hD1⟩ := hB
  rw [ht] at hP1
  obtain ⟨hP, hD⟩ := va_join (wr := [(h0, .inr (3, [.ref q8, .null, .int 0, .int 0, .int 0, .int 0, .int 0, .int 0, .int 0, .int 0, .int 0])), (q8, .inl (ca 1, 160, .inl (fun _ => 0)))]) (w1 := qt_1 ca q14 u18) hP hD [2] [0, 1] rfl rfl (by decide) (by decide) hk1 hFc hP1 hD1
  generalize H1 = H at hP hS ⊢
  have hP : va_P D vwCl [(h0, .inr (3, [.ref q8, .null, .int 0, .int 0, .int 0, .int 0, .int 0, .int 0, .int 0, .int 0, .int 0])), (q8, .inl (ca 1, 160, .inl (fun _ => 0))), (q14, .inr (1, [.ref (u18 1), .ref (u18 2), .ref (u18 3), .ref (u18 4), .ref (u18 5), .ref (u18 6), .int 0, .int 0, .int 0, .int 0])), ((u18 1), .inl (ca 0, 4, .inl (fun _ => 0))), ((u18 2), .inl (ca 0, 10, .inl (fun _ => 0))), ((u18 3), .inl (ca 0, 10, .inl (fun _ => 0))), ((u18 4), .inl (ca 0, 10, .inl (fun _ => 0))), ((u18 5), .inl (ca 0, 6, .inl (fun _ => 0))), ((u18 6), .inl (ca 0, 6, .inl (fun _ => 0)))] H := hP
  have hD : va_D A [(h0, .inr (3, [.ref q8, .null, .int 0, .int 0, .int 0, .int 0, .int 0, .int 0, .int 0, .int 0, .int 0])), (q8, .inl (ca 1, 160, .inl (fun _ => 0))), (q14, .inr (1, [.ref (u18 1), .ref (u18 2), .ref (u18 3), .ref (u18 4), .ref (u18 5), .ref (u18 6), .int 0, .int 0, .int 0, .int 0])), ((u18 1), .inl (ca 0, 4, .inl (fun _ => 0))), ((u18 2), .inl (ca 0, 10, .inl (fun _ => 0))), ((u18 3), .inl (ca 0, 10, .inl (fun _ => 0))), ((u18 4), .inl (ca 0, 10, .inl (fun _ => 0))), ((u18 5), .inl (ca 0, 6, .inl (fun _ => 0))), ((u18 6), .inl (ca 0, 6, .inl (fun _ => 0)))] := hD
  refine W.widen (k := 8) (n := 216) (by decide) (by decide) ?_
  refine va_putF (D := D) (ci := 3) (v := .ref q14) (ty := .object "ThreadBank$Memory") (C := RX3) (T := TX3) (N := 11) hx hb hts (qm_cls_in (a := 3) rfl).1 tyX3 tyX3_ok nmX3 hown hK hP hD hS 0 rfl rfl 1 (by decide) (hts (.fieldLink "ThreadBank$TextReader" 18 "ThreadBank$TextReader" "told" "LThreadBank$Memory;") (qm_has_mem (j := 1) (p := 81) (by decide +kernel))) (fun _ h9 => h9) rfl hin rfl (by decide +kernel) rfl rfl (Nat.le_of_ble_eq_true rfl) cd_3_21 (fun H locs hP hD hS => ?_)
  have hP : va_P D vwCl [(h0, .inr (3, [.ref q8, .ref q14, .int 0, .int 0, .int 0, .int 0, .int 0, .int 0, .int 0, .int 0, .int 0])), (q8, .inl (ca 1, 160, .inl (fun _ => 0))), (q14, .inr (1, [.ref (u18 1), .ref (u18 2), .ref (u18 3), .ref (u18 4), .ref (u18 5), .ref (u18 6), .int 0, .int 0, .int 0, .int 0])), ((u18 1), .inl (ca 0, 4, .inl (fun _ => 0))), ((u18 2), .inl (ca 0, 10, .inl (fun _ => 0))), ((u18 3), .inl (ca 0, 10, .inl (fun _ => 0))), ((u18 4), .inl (ca 0, 10, .inl (fun _ => 0))), ((u18 5), .inl (ca 0, 6, .inl (fun _ => 0))), ((u18 6), .inl (ca 0, 6, .inl (fun _ => 0)))] H := hP
  have hD : va_D A [(h0, .inr (3, [.ref q8, .ref q14, .int 0, .int 0, .int 0, .int 0, .int 0, .int 0, .int 0, .int 0, .int 0])), (q8, .inl (ca 1, 160, .inl (fun _ => 0))), (q14, .inr (1, [.ref (u18 1), .ref (u18 2), .ref (u18 3), .ref (u18 4), .ref (u18 5), .ref (u18 6), .int 0, .int 0, .int 0, .int 0])), ((u18 1), .inl (ca 0, 4, .inl (fun _ => 0))), ((u18 2), .inl (ca 0, 10, .inl (fun _ => 0))), ((u18 3), .inl (ca 0, 10, .inl (fun _ => 0))), ((u18 4), .inl (ca 0, 10, .inl (fun _ => 0))), ((u18 5), .inl (ca 0, 6, .inl (fun _ => 0))), ((u18 6), .inl (ca 0, 6, .inl (fun _ => 0)))] := hD
  have hP9 : va_P D vwCl (qt_3 ca h0 (fun k => [h0, q8, q14, (u18 1), (u18 2), (u18 3), (u18 4), (u18 5), (u18 6)].getD k 0)) H := hP.sub [0, 1, 2, 3, 4, 5, 6, 7, 8] rfl
  have hD9 : va_D A (qt_3 ca h0 (fun k => [h0, q8, q14, (u18 1), (u18 2), (u18 3), (u18 4), (u18 5), (u18 6)].getD k 0)) := hD.sub [0, 1, 2, 3, 4, 5, 6, 7, 8] (by decide) rfl
  exact W.vret hx hb hr (fun t ht hW => ⟨⟨(fun k => [h0, q8, q14, (u18 1), (u18 2), (u18 3), (u18 4), (u18 5), (u18 6)].getD k 0), rfl, trivial, by rw [ht]; exact hP9, hD9⟩, hS.F ht⟩) hS.2.2 cd_3_24
