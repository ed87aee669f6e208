/-! THE CLAIM OUT OF ONE WALK OF THE LAW'S BODY. Your part is whole_start (and what it stands on); all else here is the same for every law, but numbers. -/
noncomputable def R_law : String := "ThreadBankLaw"
noncomputable def lw_P (b : Addr) (xs : List Int32) (args : Array Value) (s : State) : Prop := args = #[.ref b] ∧ s.IntsAt b xs ∧ xs.length ≤ 320 ∧ (Jvm.Cond.and given_1 narrow_1).before args s = true
noncomputable def lw_Q (_ : Array Value) (s : State) (o : Outcome) (t : State) : Prop := o = .returned (some (.int 1)) ∧ Framed s o t [] 51 1243
noncomputable def lw_Z (below : List Frame) (a : Array Value) (s : State) : State → Prop := fun t => ∃ o, t.status = .running ∧ Ended t below o ∧ lw_Q a s o t
/-- the law's own end, with 1 on the stack, nothing written that was there before, its room as the claim has it -/
theorem lw_ret {p : Program} {l : Launch} {e : Env} {s : State} {m : MethodId} {below : List Frame} {meth : Method} {c : Code} {b : Nat} (hx : p.tables.exec = Jvm.exec) (hb : c.code = code) (hr : meth.sig.returnType = ret) (hlocks : meth.locks = false) {pc : Nat} {H : Heap} {ls : Array Slot} (hdg : decode code pc = .ok (.ireturn, 1)) : W p l e room_1 s m #[Value.ref b] below meth c H [] 51 1243 (lw_Z below #[Value.ref b] s) (F0 m pc ls [.int 1]) := by
  intro T hT X
  obtain ⟨fs, hret, hrun, hended, hW, hframe⟩ := X.leave (v := some (.int 1)) (hlocks := hlocks) (fun h => by rw [hr] at h; cases h)
  have hmeth' : T.vm.method? m = some meth := X.method'
  refine ⟨T.setFrames fs, ?_, .returned (some (.int 1)), hrun, hended, rfl, ⟨_, rfl⟩, hW, hframe⟩
  jvm_step X.here [X.here.top, hx, hb, hdg, hmeth', hr, ret, narrow_b1]
  (try refine ⟨rfl, ?_⟩); (try refine ⟨rfl, ?_⟩)
  first | (intro acts; rw [hret _ acts rfl rfl rfl]) | rw [hret _ _ rfl rfl rfl]
  exact Steps.refl _
/-- what holds at the law's entry: the machine, the code, the tables' words (any of lw_tbl by 'hts w (by decide +kernel)'), the script of L ints xs at the cell b, what the Statement gives of the start (any of its parts by flat_of_before) -/
noncomputable def lw_At (p : Program) (s : State) (m : MethodId) (meth : Method) (c : Code) (b L : Nat) (xs : Nat → Int32) : Prop :=
  p.tables.exec = Jvm.exec ∧ c.code = code ∧ meth.sig.returnType = ret ∧ c.maxLocals = 4 ∧ s.vm.findClass R_law = some m.cls ∧ (∀ w ∈ lw_tbl, w.before #[Value.ref b] s = true) ∧ va_X b L xs s s.heap ∧ b < s.heap.size ∧ meth.locks = false ∧ (Jvm.Cond.and given_1 narrow_1).before #[Value.ref b] s = true
theorem qt_w {j p : Nat} {w : Cond} (h : (match qm_tb[j]? with
  | some l => l[p]?
  | none => none) = some w) : w ∈ lw_tbl := by
  split at h
  · rename_i l e
    exact qm_tb_sub l (List.mem_of_getElem? e) w (List.mem_of_getElem? h)
  · cases h
noncomputable abbrev qt_F : List Cond := flatC (Jvm.Cond.and given_1 narrow_1)
theorem qt_in1 : ∀ j : Nat, j < 20 → Cond.eq (.elem (.static "ThreadBank" "ROOMS" "[I") (.int (Int32.ofNat j))) (.int (qm_rooms.getD j 0)) ∈ qt_F := by decide +kernel
theorem qt_in2 : ∀ j : Nat, j < 100 → Cond.eq (.elem (.static "ThreadBank$Clearing" "RINGS" "[I") (.int (Int32.ofNat j))) (.int (qm_rings.getD j 0)) ∈ qt_F := by decide +kernel
noncomputable def qt_tm (i : Nat) : Term := .string "ThreadBank$TextReader" (qm_six.getD i 0)
theorem qt_in3 : ∀ i : Nat, i < 6 → Cond.exactly (qt_tm i) "java/lang/String" ∈ qt_F ∧ Cond.eq (.field (qt_tm i) "java/lang/String" "coder" "B") (.int 0) ∈ qt_F ∧ Cond.arrayOf (.field (qt_tm i) "java/lang/String" "value" "[B") .byte ∈ qt_F ∧ Cond.eq (.length (.field (qt_tm i) "java/lang/String" "value" "[B")) (.int (Int32.ofNat (qm_slen.getD i 0))) ∈ qt_F := by decide +kernel
theorem qt_in4 : ∀ i : Nat, i < 6 → ∀ j : Nat, j < qm_slen.getD i 0 → Cond.eq (.elem (.field (qt_tm i) "java/lang/String" "value" "[B") (.int (Int32.ofNat j))) (.int ((qm_sbyt.getD i []).getD j 0)) ∈ qt_F := by decide +kernel
theorem qt_in5 : ∀ i : Nat, i < 6 → ∀ j : Nat, j < 6 → i ≠ j → Cond.not (Cond.eq (qt_tm i) (qt_tm j)) ∈ qt_F ∨ Cond.not (Cond.eq (qt_tm j) (qt_tm i)) ∈ qt_F := by decide +kernel
theorem qt_in6 : ∀ i : Nat, i < 6 → Cond.stringRef "ThreadBank$TextReader" (qm_six.getD i 0) (qm_stx.getD i "") ∈ lw_tbl := by
  intro i hi
  match i, hi with
  | 0, _ => exact (qt_w (j := 2) (p := 41) (by decide +kernel))
  | 1, _ => exact (qt_w (j := 2) (p := 94) (by decide +kernel))
  | 2, _ => exact (qt_w (j := 2) (p := 95) (by decide +kernel))
  | 3, _ => exact (qt_w (j := 2) (p := 96) (by decide +kernel))
  | 4, _ => exact (qt_w (j := 2) (p := 97) (by decide +kernel))
  | 5, _ => exact (qt_w (j := 2) (p := 98) (by decide +kernel))
