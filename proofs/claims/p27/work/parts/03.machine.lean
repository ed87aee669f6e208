/-! ===== the pure machine: the bytecode of the class, the reference and the law over a store of ints; what a method needs, as a formula ===== -/
noncomputable abbrev qm_H : Type := Nat → Nat → Int32
noncomputable abbrev qm_L : Type := List (Nat × Value)
noncomputable abbrev qm_Q : Type := Option Value → qm_H → Prop
noncomputable abbrev qm_X : Type := Nat × (Nat → Int32)
/-- an instruction: itself, the pc behind it, two numbers, a value, the targets of a switch -/
noncomputable abbrev qm_I : Type := Instr × Nat × Nat × Nat × Value × List (Int32 × Nat)
/-- a cell's shape: an array (0 int, 1 byte, 2 boolean; its length) or an object (its number in vwCl; for each field the cell that it names, none: an int) -/
noncomputable abbrev qm_T : Type := (Nat × Nat) ⊕ (Nat × List (Option Nat))
noncomputable def qm_row (h : qm_H) (r : Nat) (f : Nat → Int32) : qm_H := fun r' => if r' = r then f else h r'
noncomputable def qm_put (a : Nat) (v : Value) (l : qm_L) : qm_L := match l with
  | [] => [(a, v)]
  | (k, w) :: t => if k < a then (k, w) :: qm_put a v t else (a, v) :: (k, w) :: t
noncomputable def qm_set (a : Nat) (v : Value) (l : qm_L) : qm_L := qm_put a v (l.filter (fun q => !(q.1 == a) && !(q.1 + 1 == a && q.2.category == 2) && !(v.category == 2 && q.1 == a + 1)))
/-- the same, written so that what goes on has the new list in full -/
noncomputable def qm_tlK (p : Nat × Value → Bool) (l : qm_L) (k : qm_L → Prop) : Prop := match l with
  | [] => k []
  | (x, w) :: t => if p (x, w) = true then qm_tlK p t (fun t' => k ((x, w) :: t')) else qm_tlK p t k
noncomputable def qm_ptK (a : Nat) (v : Value) (p : Nat × Value → Bool) (l : qm_L) (k : qm_L → Prop) : Prop := match l with
  | [] => k [(a, v)]
  | (x, w) :: t => if p (x, w) = true then (if x < a then qm_ptK a v p t (fun t' => k ((x, w) :: t')) else qm_tlK p t (fun t' => k ((a, v) :: (x, w) :: t'))) else qm_ptK a v p t k
noncomputable def qm_stK (a : Nat) (v : Value) (l : qm_L) (k : qm_L → Prop) : Prop := qm_ptK a v (fun q => !(q.1 == a) && !(q.1 + 1 == a && q.2.category == 2) && !(v.category == 2 && q.1 == a + 1)) l k
theorem qm_tlK_eq (p : Nat × Value → Bool) : ∀ (l : qm_L) (k : qm_L → Prop), qm_tlK p l k = k (l.filter p)
  | [], k => rfl
  | (x, w) :: t, k => by
    unfold qm_tlK
    by_cases h : p (x, w) = true
    · rw [if_pos h, qm_tlK_eq p t, List.filter_cons, if_pos h]
    · rw [if_neg h, qm_tlK_eq p t, List.filter_cons, if_neg h]
theorem qm_ptK_eq (a : Nat) (v : Value) (p : Nat × Value → Bool) : ∀ (l : qm_L) (k : qm_L → Prop), qm_ptK a v p l k = k (qm_put a v (l.filter p))
  | [], k => rfl
  | (x, w) :: t, k => by
    unfold qm_ptK
    by_cases h : p (x, w) = true
    · rw [if_pos h, List.filter_cons, if_pos h]
      unfold qm_put
      by_cases h2 : x < a
      · rw [if_pos h2, if_pos h2, qm_ptK_eq a v p t]
      · rw [if_neg h2, if_neg h2, qm_tlK_eq]
    · rw [if_neg h, List.filter_cons, if_neg h, qm_ptK_eq a v p t]
theorem qm_stK_eq {a : Nat} {v : Value} {l : qm_L} {k : qm_L → Prop} : qm_stK a v l k = k (qm_set a v l) := qm_ptK_eq a v _ l k
noncomputable def qm_ldi (lv : qm_L) (a : Nat) (k : Int32 → Prop) : Prop := match lv.lookup a with
  | some (.int x) => k x
  | _ => False
noncomputable def qm_ldl (lv : qm_L) (a : Nat) (k : Int64 → Prop) : Prop := match lv.lookup a with
  | some (.long x) => k x
  | _ => False
noncomputable def qm_lda (lv : qm_L) (a : Nat) (k : Nat → Prop) : Prop := match lv.lookup a with
  | some (.ref x) => k x
  | _ => False
noncomputable def qm_bin (st : List Value) (k : Int32 → Int32 → List Value → Prop) : Prop := match st with
  | .int y :: .int x :: r => k x y r
  | _ => False
noncomputable def qm_bil (st : List Value) (k : Int64 → Int64 → List Value → Prop) : Prop := match st with
  | .long y :: .long x :: r => k x y r
  | _ => False
noncomputable def qm_one (st : List Value) (k : Int32 → List Value → Prop) : Prop := match st with
  | .int x :: r => k x r
  | _ => False
noncomputable def qm_onl (st : List Value) (k : Int64 → List Value → Prop) : Prop := match st with
  | .long x :: r => k x r
  | _ => False
noncomputable def qm_onr (st : List Value) (k : Nat → List Value → Prop) : Prop := match st with
  | .ref x :: r => k x r
  | _ => False
noncomputable def qm_sw (x : Int32) (ts : List (Int32 × Nat)) (d : Nat) (k : Nat → Prop) : Prop := match ts with
  | [] => k d
  | (v, t) :: ts => (x = v → k t) ∧ (¬ x = v → qm_sw x ts d k)
noncomputable def qm_mem (b : Nat) : qm_T := .inr (1, [some (b + 1), some (b + 2), some (b + 3), some (b + 4), some (b + 5), some (b + 6), none, none, none, none])
/-- the cells: 0 ThreadBank; 1, 8, 15, 25 Memory with its six arrays behind it; 22 imageThere; 23 TextReader, 24 its tape; 32 Clearing, 33; 34 Sheets, 35 36 37; 38 originals; 39 ThreadBankModel, 40 to 50 its arrays -/
noncomputable def qm_sh : List qm_T := [
  .inr (4, [some 1, some 8, some 15, some 22, some 23, some 32, some 34, some 38, none]),
  .inr (1, [some 2, some 3, some 4, some 5, some 6, some 7, none, none, none, none]), .inl (0, 4), .inl (0, 10), .inl (0, 10), .inl (0, 10), .inl (0, 6), .inl (0, 6),
  .inr (1, [some 9, some 10, some 11, some 12, some 13, some 14, none, none, none, none]), .inl (0, 4), .inl (0, 10), .inl (0, 10), .inl (0, 10), .inl (0, 6), .inl (0, 6),
  .inr (1, [some 16, some 17, some 18, some 19, some 20, some 21, none, none, none, none]), .inl (0, 4), .inl (0, 10), .inl (0, 10), .inl (0, 10), .inl (0, 6), .inl (0, 6),
  .inl (2, 2),
  .inr (3, [some 24, some 25, none, none, none, none, none, none, none, none, none]), .inl (1, 160),
  .inr (1, [some 26, some 27, some 28, some 29, some 30, some 31, none, none, none, none]), .inl (0, 4), .inl (0, 10), .inl (0, 10), .inl (0, 10), .inl (0, 6), .inl (0, 6),
  .inr (0, [some 33, none, none]), .inl (0, 16),
  .inr (2, [some 35, some 36, some 37]), .inl (0, 160), .inl (0, 4), .inl (0, 4),
  .inl (0, 10),
  .inr (5, [some 40, some 41, some 42, none, some 43, none, none, none, some 44, none, none, none, none, none, none, none, some 45, some 46, none, none, none, some 47, some 48, some 49, some 50, none]),
  .inl (0, 147), .inl (0, 49), .inl (2, 2), .inl (0, 49), .inl (0, 160), .inl (0, 16), .inl (0, 4), .inl (0, 16), .inl (0, 4), .inl (0, 4), .inl (0, 160)]
noncomputable def qm_rooms : List Int32 := [2, 2, 2, 2, 2, 2, 2, 2, 0, 2, 3, 3, 3, 0, 3, 1, 1, 1, 1, 1]
noncomputable def qm_rings : List Int32 := [2, 0, 1, 0, 0, 2, 0, 2, 0, 0, 2, 0, 3, 0, 0, 2, 1, 2, 0, 0, 2, 1, 3, 0, 0, 2, 2, 3, 0, 0, 3, 0, 1, 2, 0, 3, 0, 1, 3, 0, 3, 0, 2, 1, 0, 3, 0, 2, 3, 0, 3, 0, 3, 1, 0, 3, 0, 3, 2, 0, 3, 1, 2, 3, 0, 3, 1, 3, 2, 0, 4, 0, 1, 2, 3, 4, 0, 1, 3, 2, 4, 0, 2, 1, 3, 4, 0, 2, 3, 1, 4, 0, 3, 1, 2, 4, 0, 3, 2, 1]
noncomputable def qm_slen : List Nat := [5, 4, 3, 7, 3, 3]
noncomputable def qm_sbyt : List (List Int32) := [[112, 108, 97, 105, 110], [108, 101, 102, 116], [111, 108, 100], [102, 111, 117, 110, 100, 101, 114], [100, 97, 121], [116, 105, 101]]
noncomputable def qm_stx : List String := ["plain", "left", "old", "founder", "day", "tie"]
/-- arrays outside the cells that nobody writes: 100 ROOMS, 101 RINGS, 120 to 125 the words' bytes, 130 the script -/
noncomputable def qm_ca (X : qm_X) (r : Nat) : Option (Nat × Nat × (Nat → Int32)) :=
  if r = 100 then some (0, 20, fun j => qm_rooms.getD j 0)
  else if r = 101 then some (0, 100, fun j => qm_rings.getD j 0)
  else if r = 130 then some (0, X.1, X.2)
  else if 120 ≤ r ∧ r < 126 then some (1, qm_slen.getD (r - 120) 0, fun j => (qm_sbyt.getD (r - 120) []).getD j 0)
  else none
noncomputable def qm_fld (h : qm_H) (r k ci : Nat) (kk : Value → Prop) : Prop := match qm_sh[r]? with
  | some (.inr (c', rs)) => if c' = ci then (match rs[k]? with
    | some (some t) => kk (.ref t)
    | some none => kk (.int (h r k))
    | none => False) else False
  | _ => False
/-- a word's own fields: 0 value, 1 coder -/
noncomputable def qm_sfl (r k : Nat) (kk : Value → Prop) : Prop := if 110 ≤ r ∧ r < 116 then (if k = 0 then kk (.ref (r + 10)) else if k = 1 then kk (.int 0) else False) else False
noncomputable def qm_isz (ci k : Nat) : Bool := (ci == 3 && k == 10) || (ci == 5 && k == 6)
noncomputable def qm_pfl (h : qm_H) (r k ci : Nat) (x : Int32) (kk : qm_H → Prop) : Prop := match qm_sh[r]? with
  | some (.inr (c', rs)) => if c' = ci then (match rs[k]? with
    | some none => if qm_isz ci k = true then (x = 0 ∨ x = 1) ∧ kk (qm_row h r (upd (h r) k x)) else kk (qm_row h r (upd (h r) k x))
    | _ => False) else False
  | _ => False
/-- a read of an array: t = 0 ints, t = 1 bytes or booleans -/
noncomputable def qm_ald (X : qm_X) (t : Nat) (r : Nat) (i : Int32) (h : qm_H) (kk : Int32 → Prop) : Prop := match qm_sh[r]? with
  | some (.inl (t', n)) => if (t = 0 ∧ t' = 0) ∨ (t = 1 ∧ (t' = 1 ∨ t' = 2)) then (0 ≤ i.toInt ∧ i.toInt < n) ∧ kk (h r i.toInt.toNat) else False
  | some (.inr _) => False
  | none => match qm_ca X r with
    | some (t', n, f) => if t = t' then (0 ≤ i.toInt ∧ i.toInt < n) ∧ kk (f i.toInt.toNat) else False
    | none => False
noncomputable def qm_ast (t : Nat) (r : Nat) (i : Int32) (h : qm_H) (x : Int32) (kk : qm_H → Prop) : Prop := match qm_sh[r]? with
  | some (.inl (t', n)) => if t = 0 ∧ t' = 0 then (0 ≤ i.toInt ∧ i.toInt < n) ∧ kk (qm_row h r (upd (h r) i.toInt.toNat x))
    else if t = 1 ∧ t' = 1 then (0 ≤ i.toInt ∧ i.toInt < n) ∧ kk (qm_row h r (upd (h r) i.toInt.toNat x.toInt8.toInt32))
    else if t = 1 ∧ t' = 2 then (0 ≤ i.toInt ∧ i.toInt < n) ∧ kk (qm_row h r (upd (h r) i.toInt.toNat (vp_nar .boolean x)))
    else False
  | _ => False
noncomputable def qm_len (X : qm_X) (r : Nat) (kk : Int32 → Prop) : Prop := match qm_sh[r]? with
  | some (.inl (_, n)) => kk (nI n)
  | some (.inr _) => False
  | none => match qm_ca X r with
    | some (_, n, _) => kk (nI n)
    | none => False
noncomputable def qm_cpy (h : qm_H) (st : List Value) (kk : qm_H → List Value → Prop) : Prop := match st with
  | .int n :: .int dp :: .ref d :: .int sp :: .ref s0 :: rest => (match qm_sh[s0]?, qm_sh[d]? with
    | some (.inl (t0, n0)), some (.inl (t1, n1)) => if t0 = 0 ∧ t1 = 0 ∧ (rest.map fun v => v.category).sum = 0 then (0 ≤ sp.toInt ∧ 0 ≤ dp.toInt ∧ 0 ≤ n.toInt ∧ sp.toInt + n.toInt ≤ n0 ∧ dp.toInt + n.toInt ≤ n1) ∧ kk (qm_row h d (va_cpy (h s0) (h d) sp.toInt.toNat dp.toInt.toNat n.toInt.toNat)) rest else False
    | _, _ => False)
  | _ => False
/-- the receiver of a call is of the class with that number (7: a word) -/
noncomputable def qm_rcv (ci : Nat) (v : Option Value) : Bool := match v with
  | some (.ref r) => (match qm_sh[r]? with
    | some (.inr (c', _)) => c' == ci
    | some (.inl _) => false
    | none => ci == 7 && decide (110 ≤ r ∧ r < 116))
  | _ => false
noncomputable def qm_retI (rt : Option FieldType) (v : Int32) (k : Prop) : Prop := match rt with
  | some .int => k
  | some .boolean => (v = 0 ∨ v = 1) ∧ k
  | some .byte => v = 0 ∧ k
  | some .char => (0 ≤ v.toInt ∧ v.toInt < 65536) ∧ k
  | _ => False
/-- what one instruction needs: 'K pc locals stack store' behind it, 'CALL method args post' of a call, Q of the method's end; cls: the class number of a method (9: static); mls: its locals -/
noncomputable def qm_ins (X : qm_X) (rt : Option FieldType) (cls mls : Nat → Nat) (I : qm_I) (lv : qm_L) (st : List Value) (h : qm_H) (K : Nat → qm_L → List Value → qm_H → Prop) (CALL : Nat → List Value → qm_Q → Prop) (Q : qm_Q) : Prop :=
  match I with
  | (i, nx, a, b, v, ts) => match i with
    | .iconst _ => K nx lv (v :: st) h
    | .bipush _ => K nx lv (v :: st) h
    | .sipush _ => K nx lv (v :: st) h
    | .lconst _ => K nx lv (v :: st) h
    | .ldc _ => K nx lv (v :: st) h
    | .ldc_w _ => K nx lv (v :: st) h
    | .ldc2_w _ => K nx lv (v :: st) h
    | .getstatic _ => K nx lv (v :: st) h
    | .iload_n _ => qm_ldi lv a (fun x => K nx lv (.int x :: st) h)
    | .iload _ => qm_ldi lv a (fun x => K nx lv (.int x :: st) h)
    | .lload_n _ => qm_ldl lv a (fun x => K nx lv (.long x :: st) h)
    | .lload _ => qm_ldl lv a (fun x => K nx lv (.long x :: st) h)
    | .aload_n _ => qm_lda lv a (fun x => if x = 140 then False else K nx lv (.ref x :: st) h)
    | .istore_n _ => qm_one st (fun x r => qm_stK a (.int x) lv (fun lv' => K nx lv' r h))
    | .istore _ => qm_one st (fun x r => qm_stK a (.int x) lv (fun lv' => K nx lv' r h))
    | .lstore_n _ => qm_onl st (fun x r => qm_stK a (.long x) lv (fun lv' => K nx lv' r h))
    | .lstore _ => qm_onl st (fun x r => qm_stK a (.long x) lv (fun lv' => K nx lv' r h))
    | .iinc _ _ => qm_ldi lv a (fun x => match v with
      | .int c => qm_stK a (.int (x + c)) lv (fun lv' => K nx lv' st h)
      | _ => False)
    | .iadd => qm_bin st (fun x y r => K nx lv (.int (x + y) :: r) h)
    | .isub => qm_bin st (fun x y r => K nx lv (.int (x - y) :: r) h)
    | .imul => qm_bin st (fun x y r => K nx lv (.int (x * y) :: r) h)
    | .iand => qm_bin st (fun x y r => K nx lv (.int (x &&& y) :: r) h)
    | .ior => qm_bin st (fun x y r => K nx lv (.int (x ||| y) :: r) h)
    | .ixor => qm_bin st (fun x y r => K nx lv (.int (x ^^^ y) :: r) h)
    | .idiv => qm_bin st (fun x y r => ¬ y = 0 ∧ K nx lv (.int (x / y) :: r) h)
    | .irem => qm_bin st (fun x y r => ¬ y = 0 ∧ K nx lv (.int (x - x / y * y) :: r) h)
    | .ishl => qm_bin st (fun x y r => K nx lv (.int (x <<< (y &&& 31)) :: r) h)
    | .ishr => qm_bin st (fun x y r => K nx lv (.int (x >>> (y &&& 31)) :: r) h)
    | .iushr => qm_bin st (fun x y r => K nx lv (.int (x.toUInt32 >>> (y.toUInt32 &&& Int32.toUInt32 31)).toInt32 :: r) h)
    | .ladd => qm_bil st (fun x y r => K nx lv (.long (x + y) :: r) h)
    | .lsub => qm_bil st (fun x y r => K nx lv (.long (x - y) :: r) h)
    | .lmul => qm_bil st (fun x y r => K nx lv (.long (x * y) :: r) h)
    | .ldiv => qm_bil st (fun x y r => ¬ y = 0 ∧ K nx lv (.long (x / y) :: r) h)
    | .lrem => qm_bil st (fun x y r => ¬ y = 0 ∧ K nx lv (.long (x - x / y * y) :: r) h)
    | .lcmp => qm_bil st (fun x y r => K nx lv (.int (lg_cmp x y) :: r) h)
    | .i2l => qm_one st (fun x r => K nx lv (.long x.toInt64 :: r) h)
    | .i2b => qm_one st (fun x r => K nx lv (.int x.toInt8.toInt32 :: r) h)
    | .i2s => qm_one st (fun x r => K nx lv (.int x.toInt16.toInt32 :: r) h)
    | .i2c => qm_one st (fun x r => K nx lv (.int (x.toUInt32 % 65536).toInt32 :: r) h)
    | .dup => (match st with
      | .int x :: r => K nx lv (.int x :: .int x :: r) h
      | .ref x :: r => K nx lv (.ref x :: .ref x :: r) h
      | _ => False)
    | .dup2 => (match st with
      | .int x :: .ref y :: r => K nx lv (.int x :: .ref y :: .int x :: .ref y :: r) h
      | _ => False)
    | .pop => qm_one st (fun _ r => K nx lv r h)
    | .pop2 => qm_onl st (fun _ r => K nx lv r h)
    | .ifCond c _ => qm_one st (fun x r => match c with
      | .eq => (x = 0 → K a lv r h) ∧ (¬ x = 0 → K nx lv r h)
      | .ne => (¬ x = 0 → K a lv r h) ∧ (x = 0 → K nx lv r h)
      | .lt => (x.toInt < 0 → K a lv r h) ∧ (0 ≤ x.toInt → K nx lv r h)
      | .ge => (0 ≤ x.toInt → K a lv r h) ∧ (x.toInt < 0 → K nx lv r h)
      | .gt => (0 < x.toInt → K a lv r h) ∧ (x.toInt ≤ 0 → K nx lv r h)
      | .le => (x.toInt ≤ 0 → K a lv r h) ∧ (0 < x.toInt → K nx lv r h))
    | .if_icmp c _ => qm_bin st (fun x y r => match c with
      | .eq => (x = y → K a lv r h) ∧ (¬ x = y → K nx lv r h)
      | .ne => (¬ x = y → K a lv r h) ∧ (x = y → K nx lv r h)
      | .lt => (x.toInt < y.toInt → K a lv r h) ∧ (y.toInt ≤ x.toInt → K nx lv r h)
      | .ge => (y.toInt ≤ x.toInt → K a lv r h) ∧ (x.toInt < y.toInt → K nx lv r h)
      | .gt => (y.toInt < x.toInt → K a lv r h) ∧ (x.toInt ≤ y.toInt → K nx lv r h)
      | .le => (x.toInt ≤ y.toInt → K a lv r h) ∧ (y.toInt < x.toInt → K nx lv r h))
    | .goto _ => K a lv st h
    | .tableswitch _ _ _ _ => qm_one st (fun x r => qm_sw x ts a (fun t => K t lv r h))
    | .lookupswitch _ _ => qm_one st (fun x r => qm_sw x ts a (fun t => K t lv r h))
    | .getfield _ => qm_onr st (fun x r => if a = 7 then qm_sfl x b (fun w => K nx lv (w :: r) h) else qm_fld h x b a (fun w => K nx lv (w :: r) h))
    | .putfield _ => qm_one st (fun x r => qm_onr r (fun y r => qm_pfl h y b a x (fun h' => K nx lv r h')))
    | .iaload => qm_one st (fun i r => qm_onr r (fun y r => qm_ald X 0 y i h (fun x => K nx lv (.int x :: r) h)))
    | .baload => qm_one st (fun i r => qm_onr r (fun y r => qm_ald X 1 y i h (fun x => K nx lv (.int x :: r) h)))
    | .iastore => qm_one st (fun x r => qm_one r (fun i r => qm_onr r (fun y r => qm_ast 0 y i h x (fun h' => K nx lv r h'))))
    | .bastore => qm_one st (fun x r => qm_one r (fun i r => qm_onr r (fun y r => qm_ast 1 y i h x (fun h' => K nx lv r h'))))
    | .arraylength => qm_onr st (fun y r => qm_len X y (fun n => K nx lv (.int n :: r) h))
    | .invokevirtual _ => if b < st.length ∧ ((st.drop (b + 1)).map fun v => v.category).sum ≤ 8 ∧ ((st.take (b + 1)).map fun v => v.category).sum ≤ mls a ∧ qm_rcv (cls a) st[b]? = true then CALL a (st.take (b + 1)).reverse (fun r h' => K nx lv (r.toList ++ st.drop (b + 1)) h') else False
    | .invokestatic _ => if a = 999 then qm_cpy h st (fun h' r => K nx lv r h') else if b ≤ st.length ∧ ((st.drop b).map fun v => v.category).sum ≤ 8 ∧ ((st.take b).map fun v => v.category).sum ≤ mls a then CALL a (st.take b).reverse (fun r h' => K nx lv (r.toList ++ st.drop b) h') else False
    | .ireturn => (match st with
      | [.int x] => qm_retI rt x (Q (some (.int x)) h)
      | _ => False)
    | .lreturn => (match st with
      | [.long x] => Q (some (.long x)) h
      | _ => False)
    | .areturn => (match st with
      | [.ref x] => if x = 140 then False else Q (some (.ref x)) h
      | _ => False)
    | .return_ => (match st with
      | [] => Q none h
      | _ => False)
    | _ => False
/-! what is asked may be asked more weakly -/
theorem qm_ldi_mono {lv : qm_L} {a : Nat} {k k' : Int32 → Prop} (hk : ∀ x, k x → k' x) (h : qm_ldi lv a k) : qm_ldi lv a k' := by
  unfold qm_ldi at h ⊢
  split
  · rename_i x e; rw [e] at h; exact hk x h
  · rename_i e; split at h
    · rename_i x e2; exact absurd e2 (e x)
    · exact h
theorem qm_ldl_mono {lv : qm_L} {a : Nat} {k k' : Int64 → Prop} (hk : ∀ x, k x → k' x) (h : qm_ldl lv a k) : qm_ldl lv a k' := by
  unfold qm_ldl at h ⊢
  split
  · rename_i x e; rw [e] at h; exact hk x h
  · rename_i e; split at h
    · rename_i x e2; exact absurd e2 (e x)
    · exact h
theorem qm_lda_mono {lv : qm_L} {a : Nat} {k k' : Nat → Prop} (hk : ∀ x, k x → k' x) (h : qm_lda lv a k) : qm_lda lv a k' := by
  unfold qm_lda at h ⊢
  split
  · rename_i x e; rw [e] at h; exact hk x h
  · rename_i e; split at h
    · rename_i x e2; exact absurd e2 (e x)
    · exact h
theorem qm_bin_mono {st : List Value} {k k' : Int32 → Int32 → List Value → Prop} (hk : ∀ x y r, k x y r → k' x y r) (h : qm_bin st k) : qm_bin st k' := by
  match st, h with
  | .int y :: .int x :: r, h => exact hk x y r h
theorem qm_bil_mono {st : List Value} {k k' : Int64 → Int64 → List Value → Prop} (hk : ∀ x y r, k x y r → k' x y r) (h : qm_bil st k) : qm_bil st k' := by
  match st, h with
  | .long y :: .long x :: r, h => exact hk x y r h
theorem qm_one_mono {st : List Value} {k k' : Int32 → List Value → Prop} (hk : ∀ x r, k x r → k' x r) (h : qm_one st k) : qm_one st k' := by
  match st, h with
  | .int x :: r, h => exact hk x r h
theorem qm_onl_mono {st : List Value} {k k' : Int64 → List Value → Prop} (hk : ∀ x r, k x r → k' x r) (h : qm_onl st k) : qm_onl st k' := by
  match st, h with
  | .long x :: r, h => exact hk x r h
theorem qm_onr_mono {st : List Value} {k k' : Nat → List Value → Prop} (hk : ∀ x r, k x r → k' x r) (h : qm_onr st k) : qm_onr st k' := by
  match st, h with
  | .ref x :: r, h => exact hk x r h
theorem qm_sw_mono {x : Int32} {ts : List (Int32 × Nat)} {d : Nat} {k k' : Nat → Prop} (hk : ∀ t, k t → k' t) (h : qm_sw x ts d k) : qm_sw x ts d k' := by
  induction ts with
  | nil => exact hk d h
  | cons q ts ih => obtain ⟨v, t⟩ := q; exact ⟨fun e => hk t (h.1 e), fun e => ih (h.2 e)⟩
theorem qm_fld_mono {h0 : qm_H} {r k ci : Nat} {kk kk' : Value → Prop} (hk : ∀ w, kk w → kk' w) (h : qm_fld h0 r k ci kk) : qm_fld h0 r k ci kk' := by
  unfold qm_fld at h ⊢
  split at h
  · split at h
    · rw [if_pos ‹_›]
      split at h
      · exact hk _ h
      · exact hk _ h
      · exact h
    · exact h.elim
  · exact h.elim
theorem qm_sfl_mono {r k : Nat} {kk kk' : Value → Prop} (hk : ∀ w, kk w → kk' w) (h : qm_sfl r k kk) : qm_sfl r k kk' := by
  unfold qm_sfl at h ⊢
  split at h
  · rw [if_pos ‹_›]
    split at h
    · rw [if_pos ‹_›]; exact hk _ h
    · rw [if_neg ‹_›]
      split at h
      · rw [if_pos ‹_›]; exact hk _ h
      · exact h.elim
  · exact h.elim
theorem qm_pfl_mono {h0 : qm_H} {r k ci : Nat} {x : Int32} {kk kk' : qm_H → Prop} (hk : ∀ w, kk w → kk' w) (h : qm_pfl h0 r k ci x kk) : qm_pfl h0 r k ci x kk' := by
  unfold qm_pfl at h ⊢
  split at h
  · split at h
    · rw [if_pos ‹_›]
      split at h
      · split at h
        · rw [if_pos ‹_›]; exact ⟨h.1, hk _ h.2⟩
        · rw [if_neg ‹_›]; exact hk _ h
      · exact h.elim
    · exact h.elim
  · exact h.elim
theorem qm_ald_mono {X : qm_X} {t r : Nat} {i : Int32} {h0 : qm_H} {kk kk' : Int32 → Prop} (hk : ∀ w, kk w → kk' w) (h : qm_ald X t r i h0 kk) : qm_ald X t r i h0 kk' := by
  unfold qm_ald at h ⊢
  split at h
  · split at h
    · rw [if_pos ‹_›]; exact ⟨h.1, hk _ h.2⟩
    · exact h.elim
  · exact h.elim
  · split at h
    · split at h
      · rw [if_pos ‹_›]; exact ⟨h.1, hk _ h.2⟩
      · exact h.elim
    · exact h.elim
theorem qm_ast_mono {t r : Nat} {i : Int32} {h0 : qm_H} {x : Int32} {kk kk' : qm_H → Prop} (hk : ∀ w, kk w → kk' w) (h : qm_ast t r i h0 x kk) : qm_ast t r i h0 x kk' := by
  unfold qm_ast at h ⊢
  split at h
  · split at h
    · rw [if_pos ‹_›]; exact ⟨h.1, hk _ h.2⟩
    · rw [if_neg ‹_›]
      split at h
      · rw [if_pos ‹_›]; exact ⟨h.1, hk _ h.2⟩
      · rw [if_neg ‹_›]
        split at h
        · rw [if_pos ‹_›]; exact ⟨h.1, hk _ h.2⟩
        · exact h.elim
  · exact h.elim
theorem qm_len_mono {X : qm_X} {r : Nat} {kk kk' : Int32 → Prop} (hk : ∀ w, kk w → kk' w) (h : qm_len X r kk) : qm_len X r kk' := by
  unfold qm_len at h ⊢
  split at h
  · exact hk _ h
  · exact h.elim
  · split at h
    · exact hk _ h
    · exact h.elim
theorem qm_cpy_mono {h0 : qm_H} {st : List Value} {kk kk' : qm_H → List Value → Prop} (hk : ∀ w r, kk w r → kk' w r) (h : qm_cpy h0 st kk) : qm_cpy h0 st kk' := by
  unfold qm_cpy at h ⊢
  split at h
  · split at h
    · split at h
      · rw [if_pos ‹_›]; exact ⟨h.1, hk _ _ h.2⟩
      · exact h.elim
    · exact h.elim
  · exact h.elim
theorem qm_ins_mono {X : qm_X} {rt : Option FieldType} {cls mls : Nat → Nat} {I : qm_I} {lv : qm_L} {st : List Value} {h0 : qm_H} {K K' : Nat → qm_L → List Value → qm_H → Prop} {CALL CALL' : Nat → List Value → qm_Q → Prop} {Q : qm_Q}
    (hK : ∀ pc lv st h, K pc lv st h → K' pc lv st h) (hC : ∀ m as (P P' : qm_Q), (∀ r h, P r h → P' r h) → CALL m as P → CALL' m as P') (h : qm_ins X rt cls mls I lv st h0 K CALL Q) : qm_ins X rt cls mls I lv st h0 K' CALL' Q := by
  obtain ⟨i, nx, a, b, v, ts⟩ := I
  cases i <;> first
    | exact hK _ _ _ _ h
    | exact h.elim
    | exact qm_ldi_mono (fun x hx => hK _ _ _ _ hx) h
    | exact qm_ldl_mono (fun x hx => hK _ _ _ _ hx) h
    | exact qm_one_mono (fun x r hx => hK _ _ _ _ hx) h
    | exact qm_onl_mono (fun x r hx => hK _ _ _ _ hx) h
    | exact qm_bin_mono (fun x y r hx => hK _ _ _ _ hx) h
    | exact qm_one_mono (fun x r hx => qm_stK_eq.mpr (hK _ _ _ _ (qm_stK_eq.mp hx))) h
    | exact qm_onl_mono (fun x r hx => qm_stK_eq.mpr (hK _ _ _ _ (qm_stK_eq.mp hx))) h
    | exact qm_bil_mono (fun x y r hx => hK _ _ _ _ hx) h
    | exact qm_bin_mono (fun x y r hx => ⟨hx.1, hK _ _ _ _ hx.2⟩) h
    | exact qm_bil_mono (fun x y r hx => ⟨hx.1, hK _ _ _ _ hx.2⟩) h
    | exact qm_one_mono (fun x r hx => qm_sw_mono (fun t ht => hK _ _ _ _ ht) hx) h
    | exact qm_one_mono (fun x r hx => qm_onr_mono (fun y r hx => qm_pfl_mono (fun _ hx => hK _ _ _ _ hx) hx) hx) h
    | exact qm_one_mono (fun x r hx => qm_onr_mono (fun y r hx => qm_ald_mono (fun _ hx => hK _ _ _ _ hx) hx) hx) h
    | exact qm_one_mono (fun x r hx => qm_one_mono (fun x r hx => qm_onr_mono (fun y r hx => qm_ast_mono (fun _ hx => hK _ _ _ _ hx) hx) hx) hx) h
    | exact qm_onr_mono (fun x r hx => qm_len_mono (fun _ hx => hK _ _ _ _ hx) hx) h
    | skip
  case aload_n n =>
    refine qm_lda_mono (fun x hx => ?_) h
    split at hx
    · exact hx.elim
    · rw [if_neg ‹_›]; exact hK _ _ _ _ hx
  case areturn => exact h
  case dup =>
    unfold qm_ins at h ⊢
    dsimp only at h ⊢
    split at h
    · exact hK _ _ _ _ h
    · exact hK _ _ _ _ h
    · exact h.elim
  case dup2 =>
    unfold qm_ins at h ⊢
    dsimp only at h ⊢
    split at h
    · exact hK _ _ _ _ h
    · exact h.elim
  case getfield n =>
    refine qm_onr_mono (fun x r hx => ?_) h
    split at hx
    · rw [if_pos ‹_›]; exact qm_sfl_mono (fun _ hx => hK _ _ _ _ hx) hx
    · rw [if_neg ‹_›]; exact qm_fld_mono (fun _ hx => hK _ _ _ _ hx) hx
  case if_icmp c o => exact qm_bin_mono (fun x y r hx => by cases c <;> exact ⟨fun e => hK _ _ _ _ (hx.1 e), fun e => hK _ _ _ _ (hx.2 e)⟩) h
  case ifCond c o => exact qm_one_mono (fun x r hx => by cases c <;> exact ⟨fun e => hK _ _ _ _ (hx.1 e), fun e => hK _ _ _ _ (hx.2 e)⟩) h
  case iinc n m =>
    refine qm_ldi_mono (fun x hx => ?_) h
    split at hx
    · exact qm_stK_eq.mpr (hK _ _ _ _ (qm_stK_eq.mp hx))
    · exact hx.elim
  case invokestatic n =>
    unfold qm_ins at h ⊢
    dsimp only at h ⊢
    split at h
    · rw [if_pos ‹_›]; exact qm_cpy_mono (fun _ _ hx => hK _ _ _ _ hx) h
    · rw [if_neg ‹_›]
      split at h
      · rw [if_pos ‹_›]; exact hC _ _ _ _ (fun r h' hx => hK _ _ _ _ hx) h
      · exact h.elim
  case invokevirtual n =>
    unfold qm_ins at h ⊢
    dsimp only at h ⊢
    split at h
    · rw [if_pos ‹_›]; exact hC _ _ _ _ (fun r h' hx => hK _ _ _ _ hx) h
    · exact h.elim
  case ireturn => exact h
  case lreturn => exact h
  case return_ => exact h
