/-! ===== the tables' words by their places; that the data is what the class files say ===== -/
noncomputable def qm_tb : List (List Cond) := [k2_sels lw_privs, tables_1_1, tables_1_2, tables_1_3, tables_1_4, tables_1_5, tables_1_6]
noncomputable def qm_tbl : List Cond := lw_tbl.filter goodWord
theorem qm_tb_sub (l : List Cond) (hl : l ∈ qm_tb) (w : Cond) (hw : w ∈ l) : w ∈ lw_tbl := by
  have e : lw_tbl = k2_sels lw_privs ++ (tables_1_1 ++ (tables_1_2 ++ (tables_1_3 ++ (tables_1_4 ++ (tables_1_5 ++ tables_1_6))))) := rfl
  rw [e]
  simp only [qm_tb, List.mem_cons, List.not_mem_nil, or_false] at hl
  simp only [List.mem_append]
  rcases hl with rfl | rfl | rfl | rfl | rfl | rfl | rfl
  · exact Or.inl hw
  · exact Or.inr (Or.inl hw)
  · exact Or.inr (Or.inr (Or.inl hw))
  · exact Or.inr (Or.inr (Or.inr (Or.inl hw)))
  · exact Or.inr (Or.inr (Or.inr (Or.inr (Or.inl hw))))
  · exact Or.inr (Or.inr (Or.inr (Or.inr (Or.inr (Or.inl hw)))))
  · exact Or.inr (Or.inr (Or.inr (Or.inr (Or.inr (Or.inr hw)))))
noncomputable def qm_has (j p : Nat) (w : Cond) : Bool := match qm_tb[j]? with
  | some l => decide (l[p]? = some w) && goodWord w
  | none => false
theorem qm_has_mem {j p : Nat} {w : Cond} (h : qm_has j p w = true) : w ∈ qm_tbl := by
  unfold qm_has at h
  split at h
  · rename_i l e
    rw [Bool.and_eq_true, decide_eq_true_eq] at h
    exact List.mem_filter.mpr ⟨qm_tb_sub l (List.mem_of_getElem? e) w (List.mem_of_getElem? h.1), h.2⟩
  · cases h
theorem qm_tbl_good : ∀ w ∈ qm_tbl, (w.onTables && w.keeps) = true ∨ ∃ ty, w = .arrayClass ty := fun w h => good_of_word (List.mem_filter.mp h).2
theorem qm_tbl_in : GoodIn qm_tbl qm_tbl := fun w h => ⟨h, qm_tbl_good w h⟩
noncomputable def qm_own (m : Nat) : String := qm_owns.getD m ""
noncomputable def qm_y (m : Nat) : MethodName := qm_ys.getD m ⟨"", "", ""⟩
noncomputable def qm_b (m : Nat) : ByteArray := qm_bs.getD m code
noncomputable def qm_ml (m : Nat) : Nat := qm_mls.getD m 0
noncomputable def qm_ret (m : Nat) : Option FieldType := qm_rets.getD m none
noncomputable def qm_fr (m : Nat) : Nat := qm_frs.getD m 0
noncomputable def qm_lo (m : Nat) : Nat := qm_los.getD m 0
noncomputable def qm_cls (m : Nat) : Nat := qm_clss.getD m 9
noncomputable def qm_np (m : Nat) : Nat := qm_nps.getD m 0
noncomputable def qm_code (m : Nat) : List qm_E := qm_codes.getD m []
noncomputable def qm_find (l : List qm_E) (pc : Nat) : Option qm_I := match l with
  | [] => none
  | (k, I, _) :: t => if k = pc then some I else qm_find t pc
noncomputable def qm_at (m pc : Nat) : Option qm_I := qm_find (qm_code m) pc
/-- an instruction's length -/
noncomputable def qm_ln (i : Instr) : Nat := match i with
  | .bipush _ | .iload _ | .lload _ | .istore _ | .lstore _ | .ldc _ => 2
  | .sipush _ | .ldc_w _ | .ldc2_w _ | .getstatic _ | .getfield _ | .putfield _ | .invokevirtual _ | .invokestatic _ | .iinc _ _ | .ifCond _ _ | .if_icmp _ _ | .goto _ => 3
  | _ => 1
noncomputable def qm_nl (i : Instr) (pc nx : Nat) : Bool := match i with
  | .tableswitch _ _ _ _ | .lookupswitch _ _ => true
  | i => nx == pc + qm_ln i
noncomputable def qm_dl (i : Instr) (pc nx : Nat) : Nat := match i with
  | .tableswitch _ _ _ _ | .lookupswitch _ _ => nx - pc
  | i => qm_ln i
/-- a table's targets: from lo on, one by one -/
noncomputable def qm_tgs (pc : Nat) (lo : Int) (offs : List Int) (ts : List (Int32 × Nat)) : Bool := match offs, ts with
  | [], [] => true
  | o :: offs, (v, t) :: ts => decide (v.toInt = lo) && decide ((pc : Int) + o = (t : Int)) && qm_tgs pc (lo + 1) offs ts
  | _, _ => false
noncomputable def qm_lks (pc : Nat) (ps : List (Int × Int)) (ts : List (Int32 × Nat)) : Bool := match ps, ts with
  | [], [] => true
  | (x, o) :: ps, (v, t) :: ts => decide (v.toInt = x) && decide ((pc : Int) + o = (t : Int)) && qm_lks pc ps ts
  | _, _ => false
noncomputable def qm_fl (own : String) (a b idx j p : Nat) : Bool := match vwCl[a]? with
  | some (_, T, N) => decide (b < N) && qm_has j p (.fieldLink own idx (T b).1 (T b).2.1 (T b).2.2.1)
  | none => false
noncomputable def qm_fp (a b : Nat) : Bool := match vwCl[a]? with
  | some (_, T, _) => !(T b).2.2.2 && decide ((T b).2.2.1 = if qm_isz a b then "Z" else "I")
  | none => false
noncomputable def qm_cl (m a b : Nat) : Bool := decide (a < qm_n) && (b == qm_np a) && decide (qm_fr a + 1 ≤ qm_fr m) && decide (8 + (qm_ml a + 11) + qm_lo a ≤ qm_lo m)
noncomputable def qm_ck (m pc : Nat) (i : Instr) (nx a b : Nat) (v : Value) (ts : List (Int32 × Nat)) (j p : Nat) : Bool := match i with
  | .iconst n => decide (v = .int (Int32.ofInt n))
  | .bipush n => decide (v = .int (Int8.ofInt n).toInt32)
  | .sipush n => decide (v = .int (Int16.ofInt n).toInt32)
  | .lconst n => decide (v = .long (Int64.ofNat (n : Nat)))
  | .ldc idx => (match v with
    | .int x => qm_has j p (.constant (qm_own m) idx x)
    | .ref r => decide (qm_own m = "ThreadBank$TextReader") && decide (110 ≤ r ∧ r < 116) && decide (qm_six.getD (r - 110) 0 = idx)
    | _ => false)
  | .ldc_w idx => (match v with
    | .int x => qm_has j p (.constant (qm_own m) idx x)
    | _ => false)
  | .ldc2_w idx => (match v with
    | .long x => qm_has j p (.constantLong (qm_own m) idx x)
    | _ => false)
  | .getstatic idx => (match v with
    | .ref r => (decide (r = 100) && decide (qm_own m = "ThreadBank$Memory") && decide (idx = qm_nestF)) || (decide (r = 101) && qm_has j p (.fieldLink (qm_own m) idx "ThreadBank$Clearing" "RINGS" "[I")) || (decide (r = 140) && qm_has j p (.fieldLink (qm_own m) idx "jdk/internal/util/Preconditions" "SIOOBE_FORMATTER" "Ljava/util/function/BiFunction;"))
    | .int x => decide (x = 1) && qm_has j p (.fieldLink (qm_own m) idx "java/lang/String" "COMPACT_STRINGS" "Z")
    | _ => false)
  | .iload_n k => decide ((k : Nat) = a)
  | .lload_n k => decide ((k : Nat) = a)
  | .aload_n k => decide ((k : Nat) = a)
  | .iload k => decide (k = a)
  | .lload k => decide (k = a)
  | .istore_n k => decide ((k : Nat) = a) && decide (a < qm_ml m)
  | .istore k => decide (k = a) && decide (a < qm_ml m)
  | .lstore_n k => decide ((k : Nat) = a) && decide (a + 1 < qm_ml m)
  | .lstore k => decide (k = a) && decide (a + 1 < qm_ml m)
  | .iinc k n => decide (k = a) && decide (v = .int (Int32.ofInt n)) && decide (a < qm_ml m)
  | .ifCond _ off => decide ((pc : Int) + off = (a : Int))
  | .if_icmp _ off => decide ((pc : Int) + off = (a : Int))
  | .goto off => decide ((pc : Int) + off = (a : Int))
  | .tableswitch d lo hi offs => decide ((pc : Int) + d = (a : Int)) && decide (hi = lo + (offs.size : Int) - 1) && qm_tgs pc lo offs.toList ts
  | .lookupswitch d ps => decide ((pc : Int) + d = (a : Int)) && (ps.toList.zip (ps.toList.drop 1)).all (fun (x, next) => x.1 < next.1) && qm_lks pc ps.toList ts
  | .getfield idx => if a = 7 then (decide (b = 0) && qm_has j p (.fieldLink (qm_own m) idx "java/lang/String" "value" "[B")) || (decide (b = 1) && qm_has j p (.fieldLink (qm_own m) idx "java/lang/String" "coder" "B")) else qm_fl (qm_own m) a b idx j p
  | .putfield idx => qm_fl (qm_own m) a b idx j p && qm_fp a b
  | .invokevirtual idx => qm_cl m a b && decide (qm_cls a ≠ 9) && qm_has j p (.methodLink (qm_own m) idx (qm_y a))
  | .invokestatic idx => if a = 999 then qm_has j p (.methodLink (qm_own m) idx arraycopyName) && decide (1 ≤ qm_fr m) && decide (40 ≤ qm_lo m)
    else qm_cl m a b && decide (qm_cls a = 9) && (if j = 99 then decide (qm_own m = "ThreadBank$Memory") && decide (idx = qm_nestM) && decide (a = qm_hasBit) else qm_has j p (.methodLink (qm_own m) idx (qm_y a)))
  | .lreturn => decide (qm_ret m = some .long)
  | .areturn => (match qm_ret m with
    | some (.object _) => true
    | _ => false)
  | .return_ => decide (qm_ret m = none)
  | .ireturn => true
  | .iadd => true
  | .isub => true
  | .imul => true
  | .iand => true
  | .ior => true
  | .ixor => true
  | .idiv => true
  | .irem => true
  | .ishl => true
  | .ishr => true
  | .iushr => true
  | .ladd => true
  | .lsub => true
  | .lmul => true
  | .ldiv => true
  | .lrem => true
  | .lcmp => true
  | .i2l => true
  | .i2b => true
  | .i2s => true
  | .i2c => true
  | .dup => true
  | .dup2 => true
  | .pop => true
  | .pop2 => true
  | .iaload => true
  | .baload => true
  | .iastore => true
  | .bastore => true
  | .arraylength => true
  | _ => false
noncomputable def qm_ok (m : Nat) (e : qm_E) : Bool := match e with
  | (pc, (i, nx, a, b, v, ts), j, p) => decide (decode (qm_b m) pc = .ok (i, qm_dl i pc nx)) && qm_nl i pc nx && qm_ck m pc i nx a b v ts j p
/-- what is asked of a method's own words -/
noncomputable def qm_mk (m : Nat) : Bool := match qm_hins.getD m [] with
  | [x, y] => decide (qm_cls m = 9) && qm_has x.1 x.2 (.static (qm_y m)) && qm_has y.1 y.2 (.initialized (qm_y m).cls)
  | [x, y, z] => decide (qm_cls m ≠ 9) && qm_has x.1 x.2 (.instanceMethod (qm_y m)) && qm_has y.1 y.2 (.selects (qm_y m).cls (qm_y m) (qm_y m)) && qm_has z.1 z.2 (.initialized (qm_y m).cls) && (if qm_cls m = 7 then decide ((qm_y m).cls = "java/lang/String") else decide ((vwCl[qm_cls m]?).map (fun q => q.1) = some (qm_y m).cls))
  | _ => false
noncomputable def qm_mk2 (m : Nat) : Bool := decide ((qm_y m).cls ≠ "java/lang/invoke/MethodHandle") && decide ((qm_y m).cls ≠ "java/lang/invoke/VarHandle") && decide ((parseMethodDescriptor (qm_y m).desc).map (fun d => d.parameters.length) = some (qm_np m)) && plainFor (qm_y m) && decide (qm_own m = (qm_y m).cls)
