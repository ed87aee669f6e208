theorem ld_0 : decode code 0 = .ok (.new 7, 3) := by decide +kernel
theorem ld_3 : decode code 3 = .ok (.dup, 1) := by decide +kernel
theorem ld_4 : decode code 4 = .ok (.invokespecial 9, 3) := by decide +kernel
theorem ld_7 : decode code 7 = .ok (.astore_n 1, 1) := by decide +kernel
theorem ld_8 : decode code 8 = .ok (.new 10, 3) := by decide +kernel
theorem ld_11 : decode code 11 = .ok (.dup, 1) := by decide +kernel
theorem ld_12 : decode code 12 = .ok (.invokespecial 12, 3) := by decide +kernel
theorem ld_15 : decode code 15 = .ok (.astore_n 2, 1) := by decide +kernel
theorem qt_start {L : Nat} {xs : Nat → Int32} (hL : L ≤ 320) : mq 1 (S144 (S143 qt_h0)) ∧ mq 8 (S144 (S143 qt_h0)) ∧ mq 15 (S144 (S143 qt_h0)) ∧ sq (S144 (S143 qt_h0)) ∧ mi (S144 (S143 qt_h0)) ∧ sm (S144 (S143 qt_h0)) ∧ zs (S144 (S143 qt_h0)) ∧ rw_ (S144 (S143 qt_h0)) ∧ tp (S144 (S143 qt_h0)) ∧ mm (S144 (S143 qt_h0)) ∧ ((L, xs).1 ≤ 320) := by
  have h40 : ∀ j : Nat, S144 (S143 qt_h0) 40 j = 0 := by
    intro j
    show (if j < 49 then (if j < 49 then (0 : Int32) else qt_h0 43 j) else qt_h0 40 j) = 0
    split
    · rfl
    · rfl
  have hk : ∀ o : Nat, pk (S144 (S143 qt_h0) 40) o := by
    intro o
    refine ⟨by rw [h40]; decide, by rw [h40]; decide, fun t _ => by rw [h40]; decide, fun t _ => by rw [h40]; unfold pr; decide, fun k _ => by rw [h40]; unfold pr; decide, fun t _ => by rw [h40]; decide⟩
  refine ⟨by unfold mq; decide, by unfold mq; decide, by unfold mq; decide, fun j => ?_, by unfold mi; decide, ⟨⟨by rw [h40]; decide, by rw [h40]; decide⟩, hk 0, hk 49, hk 98⟩, fun j => ?_, fun j => ?_, ⟨rfl, rfl, bt_0 rfl⟩, mm_start ⟨rfl, rfl, rfl, rfl⟩ rfl h40 ⟨rfl, rfl⟩ ?_ ?_, hL⟩
  · show ((upd (upd (upd (upd (fun _ => 0) 0 (-4)) 1 (-4)) 2 (-4)) 3 (-4) : Nat → Int32) j).toInt ≤ 40
    unfold upd
    split
    · decide
    · split
      · decide
      · split
        · decide
        · split
          · decide
          · show (0 : Int32).toInt ≤ 40
            decide
  · show 0 ≤ (0 : Int32).toInt ∧ (0 : Int32).toInt ≤ 40
    decide
  · show 0 ≤ (0 : Int32).toInt ∧ (0 : Int32).toInt ≤ 3
    decide
  · show (S144 (S143 qt_h0)) 22 = (S144 (S143 qt_h0)) 42
    funext j
    show (0 : Int32) = (if j = 1 then 0 else if j = 0 then 0 else 0)
    split
    · rfl
    · split
      · rfl
      · rfl
  · intro k hk
    have : k = 0 ∨ k = 1 ∨ k = 2 ∨ k = 3 := by omega
    rcases this with rfl | rfl | rfl | rfl <;> exact ⟨by decide, by decide⟩
set_option maxHeartbeats 8000000 in
set_option maxRecDepth 100000 in
theorem whole_start {p : Program} {e : Env} {s : State} {m : MethodId} {below : List Frame} {meth : Method} {c : Code} (l : Launch) {b L : Nat} {xs : Nat → Int32} (hL : L ≤ 320) (C0 : lw_At p s m meth c b L xs) : W p l e room_1 s m #[Value.ref b] below meth c s.heap [] 0 0 (lw_Z below #[Value.ref b] s) (entryFrame m ([Value.ref b] : List Value).toArray 4) := by
  obtain ⟨hx, hb, hr, hml, hown, hts, hX, hbl, hlocks, hgv⟩ := id C0
  obtain ⟨D, ca, ad0, hb0, hE0⟩ := qt_env C0
  have hq : ∀ w ∈ qm_tbl, w.before #[Value.ref b] s = true := fun w hw => hts w (List.mem_filter.mp hw).1
  have hK := hE0.1.1
  generalize hAe : (fun q : Nat => s.heap.size ≤ q) = A at hE0
  have hA : ∀ q : Nat, s.heap.size ≤ q → A q := fun q h => by rw [← hAe]; exact h
  have hS : va_S A s.heap s.heap [] := va_S.rf
  have hP : va_P D vwCl [] s.heap := fun k q h => by simp at h
  have hD : va_D A [] := ⟨fun i j p q h => by simp at h, fun k q h => by simp at h⟩
  have hl := lv_entry ([.ref b]) (n := 4) (Nat.le_of_ble_eq_true rfl)
  rw [lg_entry_eq]
  generalize (lg_sl ([.ref b]) ++ List.replicate (4 - (lg_sl ([.ref b])).length) Slot.unset).toArray = ls at hl ⊢
  have hl : lv_has ls 4 [(0, .ref b)] := hl
  refine va_new (ci := 4) (fs := [.null, .null, .null, .null, .null, .null, .null, .null, .int 0]) (C := RX4) (T := TX4) (N := 9) hx hb hq (qm_cls_in (a := 4) rfl).1 tyX4 tyX4_ok hown (hq (.classLink "ThreadBankLaw" 7 "ThreadBank") (qm_has_mem (j := 1) (p := 14) (by decide +kernel))) (hq (.instantiable RX4 9) (qm_has_mem (j := 1) (p := 15) (by decide +kernel))) (hq (.initialized RX4) (qm_has_mem (j := 1) (p := 1) (by decide +kernel))) hK hP hD hS hA rfl (fun j hj => by rcases (show j = 0 ∨ j = 1 ∨ j = 2 ∨ j = 3 ∨ j = 4 ∨ j = 5 ∨ j = 6 ∨ j = 7 ∨ j = 8 by omega) with rfl | rfl | rfl | rfl | rfl | rfl | rfl | rfl | rfl <;> rfl) (by decide) (by decide) ld_0 (fun q4 H hP hD hS => ?_)
  have hP : va_P D vwCl (qn_4 q4) H := hP
  have hD : va_D A (qn_4 q4) := hD
  refine W.widen (k := 1) (n := 9) (by decide) (by decide) ?_
  refine lv_dup hx hb ld_3 rfl ?_
  have hFc := va_free (wc := qn_4 q4) hD hS hA [0] rfl
  refine va_callv (va_runI (As := []) (rest := [.ref q4]) ⟨hx, hb, hml, hown, hq⟩ (ct_4 l D ca q4 H.size) (cwI 0 hq (qt_good (qm_has_mem (j := 1) (p := 18) (by decide +kernel))) rfl rfl rfl (hq (.initialized RX4) (qm_has_mem (j := 1) (p := 1) (by decide +kernel))) (hq (.methodLink "ThreadBankLaw" 9 cy_4) (qm_has_mem (j := 1) (p := 16) (by decide +kernel))) (hq (.instanceMethod cy_4) (qm_has_mem (j := 1) (p := 17) (by decide +kernel))) rfl (by decide +kernel) ⟨by decide, by decide⟩) ⟨fun a U g mk q => by obtain ⟨q0, q1, qP, qK, qD, qN0, qN1, qN2, qN3, qN4⟩ := q; exact ⟨q0, q1, qP, va_K.moved (u := U) (U := U.calling g mk a) (Vm.Alike.refl U.vm) qK, qD, va_Nw.same rfl rfl qN0, va_Nw.same rfl rfl qN1, va_Nw.same rfl rfl qN2, va_Nw.same rfl rfl qN3, va_Nw.same rfl rfl qN4⟩, fun U hU hW => ⟨rfl, by rw [hU], by rw [hU]; exact hP, va_K.moved hW.alike hK, hD.weaken (fun _ _ _ _ => trivial), va_Nw.warmM hW (va_Nw.of rfl (hts _ (qt_w (j := 1) (p := 24) (by decide +kernel)))), va_Nw.warmM hW (va_Nw.of rfl (hts _ (qt_w (j := 1) (p := 74) (by decide +kernel)))), va_Nw.warmM hW (va_Nw.of rfl (hts _ (qt_w (j := 1) (p := 123) (by decide +kernel)))), va_Nw.warmM hW (va_Nw.of rfl (hts _ (qt_w (j := 1) (p := 139) (by decide +kernel)))), va_Nw.warmM hW (va_Nw.of rfl (hts _ (qt_w (j := 1) (p := 79) (by decide +kernel))))⟩⟩ rfl rfl hl.1 rfl (lv_room (Nat.le_of_ble_eq_true rfl)) ld_4 ⟨by decide, by decide⟩) hS (fun q _ h => hFc q h) hFc (fun u t H1 locs ht hvm h5 hB hz1 hk1 hS => ?_)
  obtain ⟨hP1, hD1⟩ := hB
  rw [ht] at hP1
  obtain ⟨hP, hD⟩ := va_join (wr := []) (w1 := qt_4 ca q4 u) hP hD [0] [] rfl rfl (by decide) (by decide) hk1 hFc hP1 hD1
  generalize H1 = H at hP hS ⊢
  have hP : va_P D vwCl (qt_4 ca q4 u) H := hP
  have hD : va_D A (qt_4 ca q4 u) := hD
  refine W.widen (k := 39) (n := 606) (by decide) (by decide) ?_
  refine lv_astore_n (nL := 4) (lv' := [(1, .ref q4), (0, .ref b)]) hx hb ld_7 rfl hl (by decide) rfl (fun ls hl => ?_)
  refine va_new (ci := 5) (fs := [.null, .null, .null, .int 0, .null, .int 0, .int 0, .int 0, .null, .int 0, .int 0, .int 0, .int 0, .int 0, .int 0, .int 0, .null, .null, .int 0, .int 0, .int 0, .null, .null, .null, .null, .int 0]) (C := RX5) (T := TX5) (N := 26) hx hb hq (qm_cls_in (a := 5) rfl).1 tyX5 tyX5_ok hown (hq (.classLink "ThreadBankLaw" 10 "ThreadBankModel") (qm_has_mem (j := 4) (p := 78) (by decide +kernel))) (hq (.instantiable RX5 26) (qm_has_mem (j := 4) (p := 79) (by decide +kernel))) (hq (.initialized RX5) (qm_has_mem (j := 1) (p := 6) (by decide +kernel))) hK hP hD hS hA rfl (fun j hj => by rcases (show j = 0 ∨ j = 1 ∨ j = 2 ∨ j = 3 ∨ j = 4 ∨ j = 5 ∨ j = 6 ∨ j = 7 ∨ j = 8 ∨ j = 9 ∨ j = 10 ∨ j = 11 ∨ j = 12 ∨ j = 13 ∨ j = 14 ∨ j = 15 ∨ j = 16 ∨ j = 17 ∨ j = 18 ∨ j = 19 ∨ j = 20 ∨ j = 21 ∨ j = 22 ∨ j = 23 ∨ j = 24 ∨ j = 25 by omega) with rfl | rfl | rfl | rfl | rfl | rfl | rfl | rfl | rfl | rfl | rfl | rfl | rfl | rfl | rfl | rfl | rfl | rfl | rfl | rfl | rfl | rfl | rfl | rfl | rfl | rfl <;> rfl) (by decide) (by decide) ld_8 (fun q5 H hP hD hS => ?_)
  have hP : va_P D vwCl (qt_4 ca q4 u ++ qn_5 q5) H := hP
  have hD : va_D A (qt_4 ca q4 u ++ qn_5 q5) := hD
  refine W.widen (k := 40) (n := 632) (by decide) (by decide) ?_
  refine lv_dup hx hb ld_11 rfl ?_
  have hFc := va_free (wc := qt_4 ca q4 u ++ qn_5 q5) hD hS hA [0, 1, 2, 3, 4, 5, 6, 7, 8, 9, 10, 11, 12, 13, 14, 15, 16, 17, 18, 19, 20, 21, 22, 23, 24, 25, 26, 27, 28, 29, 30, 31, 32, 33, 34, 35, 36, 37, 38, 39] rfl
  refine va_callv (va_runI (As := []) (rest := [.ref q5]) ⟨hx, hb, hml, hown, hq⟩ (ct_5 l (L, xs) D ca ad0 q4 u q5 H.size) (cwI 0 hq (qt_good (qm_has_mem (j := 4) (p := 82) (by decide +kernel))) rfl rfl rfl (hq (.initialized RX5) (qm_has_mem (j := 1) (p := 6) (by decide +kernel))) (hq (.methodLink "ThreadBankLaw" 12 cy_5) (qm_has_mem (j := 4) (p := 80) (by decide +kernel))) (hq (.instanceMethod cy_5) (qm_has_mem (j := 4) (p := 81) (by decide +kernel))) rfl (by decide +kernel) ⟨by decide, by decide⟩) ⟨fun a U g mk q => by obtain ⟨q0, q1, qP, qD, qE⟩ := q; exact ⟨q0, q1, qP, qD, qE.blind rfl rfl⟩, fun U hU hW => ⟨rfl, by rw [hU], by rw [hU]; exact hP, hD.weaken (fun _ _ _ _ => trivial), hE0.go hW (fun a h1 h2 => by rw [hU]; exact hS.2.1 a h1 h2) hFc⟩⟩ rfl rfl hl.1 rfl (lv_room (Nat.le_of_ble_eq_true rfl)) ld_12 ⟨by decide, by decide⟩) hS (fun q _ h => hFc q h) hFc (fun v t H1 locs ht hvm h5 hB hz1 hk1 hS => ?_)
  obtain ⟨ad, hh⟩ := v
  obtain ⟨g1, g2, g3, g4, g5⟩ := h5
  obtain ⟨hP1, hD1⟩ := hB
  rw [ht] at hP1
  dsimp only at g1 g2 g3 g4 g5 hP1 hD1
  subst g5
  have hD2 : va_D A (qm_w ad ca (S144 (S143 qt_h0))) := ⟨hD1.1, fun k q hk => hFc _ (hD1.2 k q hk)⟩
  have hE := qm_Env_ad g3 g4 hE0
  refine lv_astore_n (nL := 4) (lv' := [(2, .ref q5), (1, .ref q4), (0, .ref b)]) hx hb ld_15 rfl hl (by decide) rfl (fun ls hl => ?_)
  have hl2 : lv_has ls 4 ([(0, Value.ref 130), (1, .ref 0), (2, .ref 39)].map (qm_lc ad)) := ⟨hl.1, hl.2.1, fun q hq => hl.2.2 q (by
    have e0 : qm_lc ad (0, .ref 130) = (0, .ref b) := by show (0, Value.ref (ad.1 130)) = _; rw [g3 130 (by decide), hb0]
    have e1 : qm_lc ad (1, .ref 0) = (1, .ref q4) := by show (1, Value.ref (ad.1 0)) = _; rw [g1]
    have e2 : qm_lc ad (2, .ref 39) = (2, .ref q5) := by show (2, Value.ref (ad.1 39)) = _; rw [g2]
    simp only [List.map_cons, List.map_nil, e0, e1, e2] at hq
    simp only [List.mem_cons, List.not_mem_nil, or_false] at hq ⊢
    rcases hq with h | h | h <;> simp [h])⟩
  refine law_ok (L, xs) (S144 (S143 qt_h0)) (qt_start hL) (fun r _ => r = some (.int 1)) (fun _ => rfl) p l e room_1 s m #[Value.ref b] below meth c H1 locs 51 1243 _ ls D ca ad A ⟨⟨hx, hb, hml, hown⟩, hq, hE, hA, ⟨by decide +kernel, by decide +kernel, by decide, by decide⟩, by decide⟩ hP1 hD2 hS hl2 ?_
  intro pc' ls' H' locs' h' r hrt hr1 hP' hS'
  subst hr1
  refine va_forget (fun q hq => by have := hS'.2.2 q hq; rw [← hAe] at this; exact this) ?_
  exact lw_ret hx hb hr hlocks hrt.1
