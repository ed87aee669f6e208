/-! ===== constructors: what is made ===== -/
noncomputable abbrev qt_tys (ca : Nat → ClassId) : List (ClassId × FieldType) := [(ca 0, .int), (ca 1, .byte), (ca 2, .boolean)]
theorem qt_good {w : Cond} (hw : w ∈ qm_tbl) : GoodIn qm_tbl (w :: qm_tbl) := by
  intro v hv
  rcases List.mem_cons.mp hv with rfl | hv
  · exact qm_tbl_in _ hw
  · exact qm_tbl_in _ hv
theorem qt_RA {s : State} {c1 c2 : ClassId} {ty : FieldType} (hty : ty = .int ∨ ty = .byte ∨ ty = .boolean) (h1 : va_RA s c1 ty) (h2 : va_RA s c2 ty) : c1 = c2 := by
  rcases hty with rfl | rfl | rfl
  · exact Option.some.inj ((va_nm_int h1).symm.trans (va_nm_int h2))
  · exact Option.some.inj ((va_nm_byte h1).symm.trans (va_nm_byte h2))
  · exact Option.some.inj ((va_nm_boolean h1).symm.trans (va_nm_boolean h2))
/-- a new array of ints, bytes or booleans, its class the one that is known -/
theorem qt_newa {p : Program} {l : Launch} {e : Env} {R : Room} {s : State} {m : MethodId} {args : Array Value} {below : List Frame} {meth : Method} {c : Code} {H : Heap} {locs : List Loc} {cells slots : Nat} {Q : State → Prop} {cc : ByteArray} {pc : Nat} {ls : Array Slot} {rest : List Value} {D : va_G} {cl : List vw_C} {A : Nat → Prop} {tys : List (ClassId × FieldType)} {ws : va_W} {H0 : Heap}
    (hexec : p.tables.exec = Jvm.exec) (hb : c.code = cc) {atype : ArrayType} (harr : (Cond.arrayClass (newarray.typeOf atype)).before args s = true) {ty : FieldType} (hty : newarray.typeOf atype = ty) (hprim : ty = .int ∨ ty = .byte ∨ ty = .boolean) (hK : va_K D cl tys s) (hP : va_P D cl ws H) (hD : va_D A ws) (hS : va_S A H0 H locs) (hA : ∀ q, H0.size ≤ q → A q)
    (t0 : Nat) {cA0 : ClassId} (ht : tys[t0]? = some (cA0, ty)) {n : Int32} {N' : Nat} (hn : ¬ n < 0) (hN : n.toNatClampNeg = N') (hbytes : N' * componentBytes ty ≤ 536870912) (hcells : cells + 1 ≤ R.cells) (hslots : slots + N' ≤ R.slots) (hdg : decode cc pc = .ok (.newarray atype, 2))
    (kk : ∀ (q : Nat) (H1 : Heap), va_P D cl (ws ++ [(q, .inl (cA0, N', .inl (fun _ => 0)))]) H1 → va_D A (ws ++ [(q, .inl (cA0, N', .inl (fun _ => 0)))]) → va_S A H0 H1 locs →
      W p l e R s m args below meth c H1 locs (cells + 1) (slots + N') Q (F0 m (pc + 2) ls (.ref q :: rest))) : W p l e R s m args below meth c H locs cells slots Q (F0 m pc ls (.int n :: rest)) := by
  have hz : ∀ cA : ClassId, vp_cell cA (N', .inl (fun _ => 0)) = arrV cA N' (fun _ => defaultValue ty) := by
    intro cA
    rcases hprim with rfl | rfl | rfl <;> rfl
  refine va_newa hexec hb harr hty hK hP hD hS hA hz hn hN hbytes hcells hslots hdg (fun q cA H1 hK1 hP1 hD1 hS1 => ?_)
  have e1 := (hK1.2 tys.length (cA, ty) (by simp)).2
  have e2 := (hK.2 t0 _ ht).2
  have e3 := qt_RA hprim e1 e2
  subst e3
  exact kk q H1 hP1 hD1 hS1
