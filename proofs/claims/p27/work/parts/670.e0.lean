/-! THE CLAIM OUT OF ONE WALK OF THE LAW'S BODY. Your part is whole_start (and what it stands on); all else here is the same for every law, but numbers. -/
noncomputable def R_law : String := "ThreadBankLaw"
noncomputable def lw_P (b : Addr) (xs : List Int32) (args : Array Value) (s : State) : Prop := args = #[.ref b] ∧ s.IntsAt b xs ∧ xs.length ≤ 320 ∧ (Jvm.Cond.and given_1 narrow_1).before args s = true
noncomputable def lw_Q (_ : Array Value) (s : State) (o : Outcome) (t : State) : Prop := o = .returned (some (.int 1)) ∧ Framed s o t [] 51 1243
noncomputable def lw_Z (below : List Frame) (a : Array Value) (s : State) : State → Prop := fun t => ∃ o, t.status = .running ∧ Ended t below o ∧ lw_Q a s o t
/-- the law's own end, with 1 on the stack, nothing written that was there before, its room as the claim has it -/
theorem lw_ret {p : Program} {l : Launch} {e : Env} {s : State} {m : MethodId} {below : List Frame} {meth : Method} {c : Code} {b : Nat} (hx : p.tables.exec = Jvm.exec) (hb : c.code = code) (hr : meth.sig.returnType = ret) (hlocks : meth.locks = false) {pc : Nat} {H : Heap} {ls : Array Slot} (hdg : decode code pc = .ok (.ireturn, 1)) : W p l e room_1 s m #[Value.ref b] below meth c H [] 51 1243 (lw_Z below #[Value.ref b] s) (F0 m pc ls [.int 1]) := by
  intro T hT X
  obtain ⟨fs, hret, hrun, hended, hW, hframe⟩ := X.leave (v := some (.int 1)) (hlocks := hlocks) (fun h => by rw [hr] at h; cases h)
  have hmeth' : T.vm.method? m = some meth := X.method'
  refine ⟨T.setFrames fs, ?_, .returned (some (.int 1)), hrun, hended, rfl, ⟨_, rfl⟩, hW, hframe⟩
  jvm_step X.here [X.here.top, hx, hb, hdg, hmeth', hr, ret, narrow_b1]
  (try refine ⟨rfl, ?_⟩); (try refine ⟨rfl, ?_⟩)
  first | (intro acts; rw [hret _ acts rfl rfl rfl]) | rw [hret _ _ rfl rfl rfl]
  exact Steps.refl _
/-- what holds at the law's entry: the machine, the code, the tables' words (any of lw_tbl by 'hts w (by decide +kernel)'), the script of L ints xs at the cell b, what the Statement gives of the start (any of its parts by flat_of_before) -/
noncomputable def lw_At (p : Program) (s : State) (m : MethodId) (meth : Method) (c : Code) (b L : Nat) (xs : Nat → Int32) : Prop :=
  p.tables.exec = Jvm.exec ∧ c.code = code ∧ meth.sig.returnType = ret ∧ c.maxLocals = 4 ∧ s.vm.findClass R_law = some m.cls ∧ (∀ w ∈ lw_tbl, w.before #[Value.ref b] s = true) ∧ va_X b L xs s s.heap ∧ b < s.heap.size ∧ meth.locks = false ∧ (Jvm.Cond.and given_1 narrow_1).before #[Value.ref b] s = true
theorem qt_w {j p : Nat} {w : Cond} (h : (match qm_tb[j]? with
  | some l => l[p]?
  | none => none) = some w) : w ∈ lw_tbl := by
  split at h
  · rename_i l e
    exact qm_tb_sub l (List.mem_of_getElem? e) w (List.mem_of_getElem? h)
  · cases h
noncomputable abbrev qt_F : List Cond := flatC (Jvm.Cond.and given_1 narrow_1)
noncomputable def qt_p1 : List Nat := [7, 8, 9, 10, 11, 12, 13, 14, 15, 16, 17, 18, 19, 20, 21, 22, 23, 24, 25, 26]
noncomputable def qt_p2 : List Nat := [35, 36, 37, 38, 39, 40, 41, 42, 43, 44, 45, 46, 47, 48, 49, 50, 51, 52, 53, 54, 55, 56, 57, 58, 59, 60, 61, 62, 63, 64, 65, 66, 67, 68, 69, 70, 71, 72, 73, 74, 75, 76, 77, 78, 79, 80, 81, 82, 83, 84, 85, 86, 87, 88, 89, 90, 91, 92, 93, 94, 95, 96, 97, 98, 99, 100, 101, 102, 103, 104, 105, 106, 107, 108, 109, 110, 111, 112, 113, 114, 115, 116, 117, 118, 119, 120, 121, 122, 123, 124, 125, 126, 127, 128, 129, 130, 131, 132, 133, 134]
noncomputable def qt_p4 : List (List Nat) := [[139, 140, 141, 142, 143], [148, 149, 150, 151], [157, 158, 159], [166, 167, 168, 169, 170, 171, 172], [180, 181, 182], [191, 192, 193]]
theorem qt_in1p : ∀ j : Nat, j < 20 → qt_F[qt_p1.getD j 0]? = some (Cond.eq (.elem (.static "ThreadBank" "ROOMS" "[I") (.int (Int32.ofNat j))) (.int (qm_rooms.getD j 0))) := by decide +kernel
theorem qt_in1 : ∀ j : Nat, j < 20 → Cond.eq (.elem (.static "ThreadBank" "ROOMS" "[I") (.int (Int32.ofNat j))) (.int (qm_rooms.getD j 0)) ∈ qt_F := fun j hj => List.mem_of_getElem? (qt_in1p j hj)
theorem qt_in2p : ∀ j : Nat, j < 100 → qt_F[qt_p2.getD j 0]? = some (Cond.eq (.elem (.static "ThreadBank$Clearing" "RINGS" "[I") (.int (Int32.ofNat j))) (.int (qm_rings.getD j 0))) := by decide +kernel
theorem qt_in2 : ∀ j : Nat, j < 100 → Cond.eq (.elem (.static "ThreadBank$Clearing" "RINGS" "[I") (.int (Int32.ofNat j))) (.int (qm_rings.getD j 0)) ∈ qt_F := fun j hj => List.mem_of_getElem? (qt_in2p j hj)
noncomputable def qt_tm (i : Nat) : Term := .string "ThreadBank$TextReader" (qm_six.getD i 0)
theorem qt_in3 : ∀ i : Nat, i < 6 → Cond.exactly (qt_tm i) "java/lang/String" ∈ qt_F ∧ Cond.eq (.field (qt_tm i) "java/lang/String" "coder" "B") (.int 0) ∈ qt_F ∧ Cond.arrayOf (.field (qt_tm i) "java/lang/String" "value" "[B") .byte ∈ qt_F ∧ Cond.eq (.length (.field (qt_tm i) "java/lang/String" "value" "[B")) (.int (Int32.ofNat (qm_slen.getD i 0))) ∈ qt_F := by decide +kernel
theorem qt_in4p : ∀ i : Nat, i < 6 → ∀ j : Nat, j < qm_slen.getD i 0 → qt_F[(qt_p4.getD i []).getD j 0]? = some (Cond.eq (.elem (.field (qt_tm i) "java/lang/String" "value" "[B") (.int (Int32.ofNat j))) (.int ((qm_sbyt.getD i []).getD j 0))) := by decide +kernel
theorem qt_in4 : ∀ i : Nat, i < 6 → ∀ j : Nat, j < qm_slen.getD i 0 → Cond.eq (.elem (.field (qt_tm i) "java/lang/String" "value" "[B") (.int (Int32.ofNat j))) (.int ((qm_sbyt.getD i []).getD j 0)) ∈ qt_F := fun i hi j hj => List.mem_of_getElem? (qt_in4p i hi j hj)
theorem qt_in5 : ∀ i : Nat, i < 6 → ∀ j : Nat, j < 6 → i ≠ j → Cond.not (Cond.eq (qt_tm i) (qt_tm j)) ∈ qt_F ∨ Cond.not (Cond.eq (qt_tm j) (qt_tm i)) ∈ qt_F := by decide +kernel
theorem qt_in6 : ∀ i : Nat, i < 6 → Cond.stringRef "ThreadBank$TextReader" (qm_six.getD i 0) (qm_stx.getD i "") ∈ lw_tbl := by
  intro i hi
  match i, hi with
  | 0, _ => exact (qt_w (j := 2) (p := 41) (by decide +kernel))
  | 1, _ => exact (qt_w (j := 2) (p := 94) (by decide +kernel))
  | 2, _ => exact (qt_w (j := 2) (p := 95) (by decide +kernel))
  | 3, _ => exact (qt_w (j := 2) (p := 96) (by decide +kernel))
  | 4, _ => exact (qt_w (j := 2) (p := 97) (by decide +kernel))
  | 5, _ => exact (qt_w (j := 2) (p := 98) (by decide +kernel))
set_option maxHeartbeats 4000000 in
theorem qt_env {p : Program} {s : State} {m : MethodId} {meth : Method} {c : Code} {b L : Nat} {xs : Nat → Int32} (C0 : lw_At p s m meth c b L xs) : ∃ (D : va_G) (ca : Nat → ClassId) (ad0 : qm_AD), ad0.1 130 = b ∧ qm_Env (L, xs) D ca ad0 (fun q => s.heap.size ≤ q) s := by
  obtain ⟨hx, hb, hr, hml, hown, hts, hX, hbl, hlocks, hgv⟩ := id C0
  have hs := flat_of_before _ hgv
  have hq : ∀ w ∈ qm_tbl, w.before #[Value.ref b] s = true := fun w hw => hts w (List.mem_filter.mp hw).1
  have hA : ∀ a : Nat, a < s.heap.size → ¬ (fun q : Nat => s.heap.size ≤ q) a := fun a h => Nat.not_le.mpr h
  obtain ⟨cc0, ic0, kn0⟩ := u_known (C := RX0) (T := TX0) (N := 3) (n := 3) hq (qm_cls_in (a := 0) rfl).1 (hq (.instantiable RX0 3) (qm_has_mem (j := 1) (p := 122) (by decide +kernel)))
  obtain ⟨cc1, ic1, kn1⟩ := u_known (C := RX1) (T := TX1) (N := 10) (n := 10) hq (qm_cls_in (a := 1) rfl).1 (hq (.instantiable RX1 10) (qm_has_mem (j := 1) (p := 23) (by decide +kernel)))
  obtain ⟨cc2, ic2, kn2⟩ := u_known (C := RX2) (T := TX2) (N := 3) (n := 3) hq (qm_cls_in (a := 2) rfl).1 (hq (.instantiable RX2 3) (qm_has_mem (j := 1) (p := 138) (by decide +kernel)))
  obtain ⟨cc3, ic3, kn3⟩ := u_known (C := RX3) (T := TX3) (N := 11) (n := 11) hq (qm_cls_in (a := 3) rfl).1 (hq (.instantiable RX3 11) (qm_has_mem (j := 1) (p := 73) (by decide +kernel)))
  obtain ⟨cc4, ic4, kn4⟩ := u_known (C := RX4) (T := TX4) (N := 9) (n := 9) hq (qm_cls_in (a := 4) rfl).1 (hq (.instantiable RX4 9) (qm_has_mem (j := 1) (p := 15) (by decide +kernel)))
  obtain ⟨cc5, ic5, kn5⟩ := u_known (C := RX5) (T := TX5) (N := 26) (n := 26) hq (qm_cls_in (a := 5) rfl).1 (hq (.instantiable RX5 26) (qm_has_mem (j := 4) (p := 79) (by decide +kernel)))
  obtain ⟨ac0, ak0, ap0, af0, ag0, ah0⟩ := Cond.arrayClass_spec (hq (.arrayClass .int) (qm_has_mem (j := 1) (p := 71) (by decide +kernel)))
  obtain ⟨ac1, ak1, ap1, af1, ag1, ah1⟩ := Cond.arrayClass_spec (hq (.arrayClass .byte) (qm_has_mem (j := 1) (p := 120) (by decide +kernel)))
  obtain ⟨ac2, ak2, ap2, af2, ag2, ah2⟩ := Cond.arrayClass_spec (hq (.arrayClass .boolean) (qm_has_mem (j := 1) (p := 119) (by decide +kernel)))
  obtain ⟨tR, vR, hR⟩ := va_Tof (tm := .static "ThreadBank" "ROOMS" "[I") (ty := .int) (N := 20) (f := fun j => .int (qm_rooms.getD j 0)) (A := fun q => s.heap.size ≤ q) (by decide) (hs _ (by decide +kernel)) (va_eqt (hs (.eq (.length (.static "ThreadBank" "ROOMS" "[I")) (.int (20 : Int32))) (by decide +kernel))) (fun j hj => va_eqt (hs _ (qt_in1 j hj))) hA
  obtain ⟨tG, vG, hG⟩ := va_Tof (tm := .static "ThreadBank$Clearing" "RINGS" "[I") (ty := .int) (N := 100) (f := fun j => .int (qm_rings.getD j 0)) (A := fun q => s.heap.size ≤ q) (by decide) (hs _ (by decide +kernel)) (va_eqt (hs (.eq (.length (.static "ThreadBank$Clearing" "RINGS" "[I")) (.int (100 : Int32))) (by decide +kernel))) (fun j hj => va_eqt (hs _ (qt_in2 j hj))) hA
  have zR : va_Z "ThreadBank" "ROOMS" "[I" (.ref tR) (fun q => s.heap.size ≤ q) s s.heap := va_Zof (hts _ (qt_w (j := 2) (p := 28) (by decide +kernel))) (hq (.initialized "ThreadBank") (qm_has_mem (j := 1) (p := 1) (by decide +kernel))) vR hA
  have zG : va_Z "ThreadBank$Clearing" "RINGS" "[I" (.ref tG) (fun q => s.heap.size ≤ q) s s.heap := va_Zof (hts _ (qt_w (j := 3) (p := 39) (by decide +kernel))) (hq (.initialized "ThreadBank$Clearing") (qm_has_mem (j := 1) (p := 4) (by decide +kernel))) vG hA
  have zC : va_Z "java/lang/String" "COMPACT_STRINGS" "Z" (.int 1) (fun q => s.heap.size ≤ q) s s.heap := va_Zof (hts _ (qt_w (j := 2) (p := 55) (by decide +kernel))) (hq (.initialized "java/lang/String") (qm_has_mem (j := 1) (p := 8) (by decide +kernel))) (va_eqt (hs (.eq (.static "java/lang/String" "COMPACT_STRINGS" "Z") (.int (1 : Int32))) (by decide +kernel))) hA
  have zS : ∃ v : Value, v.category = 1 ∧ va_Z "jdk/internal/util/Preconditions" "SIOOBE_FORMATTER" "Ljava/util/function/BiFunction;" v (fun q => s.heap.size ≤ q) s s.heap := by
    rcases va_Zqof (A := fun q => s.heap.size ≤ q) (hts (.laysStatic "jdk/internal/util/Preconditions" "SIOOBE_FORMATTER" "Ljava/util/function/BiFunction;") (qt_w (j := 2) (p := 71) (by decide +kernel))) (hq (.initialized "jdk/internal/util/Preconditions") (qm_has_mem (j := 1) (p := 10) (by decide +kernel))) (hs (.isRef (.static "jdk/internal/util/Preconditions" "SIOOBE_FORMATTER" "Ljava/util/function/BiFunction;")) (by decide +kernel)) hA with h | ⟨t, h⟩
    · exact ⟨.null, rfl, h⟩
    · exact ⟨.ref t, rfl, h⟩
  obtain ⟨vS, cS, zS⟩ := zS
  obtain ⟨adK, adV, hK1, hK2⟩ := vk_Sof (args := #[Value.ref b]) (s := s) (N := 6) (tm := qt_tm) (len := qm_slen) (byt := qm_sbyt) (A := fun q => s.heap.size ≤ q) (by decide) (fun i hi => hs _ (qt_in3 i hi).1) (fun i hi => hs _ (qt_in3 i hi).2.1) (fun i hi => hs _ (qt_in3 i hi).2.2.1) (fun i hi => hs _ (qt_in3 i hi).2.2.2) (fun i hi j hj => hs _ (qt_in4 i hi j hj)) (fun i j hi hj hij => (qt_in5 i hi j hj hij).imp (fun h => hs _ h) (fun h => hs _ h)) hA
  obtain ⟨ad0, e100, e101, e130, e11, e12, e2⟩ : ∃ ad0 : qm_AD, ad0.1 100 = tR ∧ ad0.1 101 = tG ∧ ad0.1 130 = b ∧ (∀ i, i < 6 → ad0.1 (110 + i) = adK i) ∧ (∀ i, i < 6 → ad0.1 (120 + i) = adV i) ∧ ad0.2 = vS := by
    refine ⟨(fun r => if r = 100 then tR else if r = 101 then tG else if r = 130 then b else if r < 120 then adK (r - 110) else adV (r - 120), vS), rfl, rfl, rfl, fun i hi => ?_, fun i hi => ?_, rfl⟩
    · show (if 110 + i = 100 then tR else if 110 + i = 101 then tG else if 110 + i = 130 then b else if 110 + i < 120 then adK (110 + i - 110) else adV (110 + i - 120)) = adK i
      rw [if_neg (by omega), if_neg (by omega), if_neg (by omega), if_pos (by omega), Nat.add_sub_cancel_left]
    · show (if 120 + i = 100 then tR else if 120 + i = 101 then tG else if 120 + i = 130 then b else if 120 + i < 120 then adK (120 + i - 110) else adV (120 + i - 120)) = adV i
      rw [if_neg (by omega), if_neg (by omega), if_neg (by omega), if_neg (by omega), Nat.add_sub_cancel_left]
  obtain ⟨dC, dI, hKc⟩ : ∃ (dC : Nat → ClassId) (dI : Nat → Nat → Nat), ∀ (k : Nat) (q : vw_C), vwCl[k]? = some q → u_Kn s q.1 q.2.1 q.2.2 (dC k) (dI k) := by
    refine ⟨fun k => if k = 0 then cc0 else if k = 1 then cc1 else if k = 2 then cc2 else if k = 3 then cc3 else if k = 4 then cc4 else cc5, fun k => if k = 0 then ic0 else if k = 1 then ic1 else if k = 2 then ic2 else if k = 3 then ic3 else if k = 4 then ic4 else ic5, ?_⟩
    intro k q hq
    match k, hq with
    | 0, hq => cases hq; exact kn0
    | 1, hq => cases hq; exact kn1
    | 2, hq => cases hq; exact kn2
    | 3, hq => cases hq; exact kn3
    | 4, hq => cases hq; exact kn4
    | 5, hq => cases hq; exact kn5
    | k + 6, hq => simp [vwCl] at hq
  refine ⟨(dC, dI), fun t => if t = 0 then ac0 else if t = 1 then ac1 else ac2, ad0, e130, ⟨⟨hKc, fun k q hq => ?_⟩, by rw [e2]; exact cS⟩, ⟨by rw [e100]; exact zR, by rw [e101]; exact zG, zC, by rw [e2]; exact zS⟩, ⟨by rw [e100]; exact hR, by rw [e101]; exact hG, ?_⟩, ⟨⟨fun i hi => ?_, fun i j hi hj => ?_⟩, fun i hi => ?_⟩, va_Nw.of rfl (hts _ (qt_w (j := 3) (p := 136) (by decide +kernel))), va_Nw.of rfl (hts _ (qt_w (j := 2) (p := 27) (by decide +kernel)))⟩
  · match k, hq with
    | 0, hq => cases hq; exact ⟨fun n z => ⟨fun k h => (by cases h), ak0, ag0, ap0, ah0⟩, af0⟩
    | 1, hq => cases hq; exact ⟨fun n z => ⟨fun k h => (by cases h), ak1, ag1, ap1, ah1⟩, af1⟩
    | 2, hq => cases hq; exact ⟨fun n z => ⟨fun k h => (by cases h), ak2, ag2, ap2, ah2⟩, af2⟩
    | k + 3, hq => simp at hq
  · obtain ⟨scr, h1, h2, h3, h4, h5⟩ := hX
    rw [e130]
    exact ⟨scr, h1, h2, h3, Nat.le_of_eq h4.symm, congrArg Nat.toInt32 h4, h5, hA b hbl⟩
  · show va_O "java/lang/String" (ad0.1 (110 + i)) _ s s.heap ∧ va_OF "java/lang/String" "coder" "B" (.int 0) (ad0.1 (110 + i)) _ s s.heap ∧ va_OF "java/lang/String" "value" "[B" (.ref (ad0.1 (120 + i))) (ad0.1 (110 + i)) _ s s.heap ∧ va_T .byte (ad0.1 (120 + i)) (qm_slen.getD i 0) (fun j => .int ((qm_sbyt.getD i []).getD j 0)) _ s s.heap
    rw [e11 i hi, e12 i hi]
    exact hK1.1 i hi
  · show ad0.1 (110 + i) = ad0.1 (110 + j) → i = j
    rw [e11 i hi, e11 j hj]
    exact hK1.2 i j hi hj
  · rw [e11 i hi]
    exact vk_R.of (hts _ (qt_in6 i hi)) (hK2 i hi)
theorem tp_text {h g : qm_H} (t : tp h) (e2 : (g 23 2).toInt = 0) (e9 : (g 39 9).toInt = 0) (r24 : g 24 = h 24) (r44 : g 44 = h 44) : tp g := by
  refine ⟨by omega, ?_, bt_0 e9⟩
  rw [r24, r44]; exact t.2.1
/-- the faults of the latest texts are one -/
noncomputable def ff (h : qm_H) : Prop := (h 23 4).toInt = (h 39 14).toInt
