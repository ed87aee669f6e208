/-! ===== instructions read off a list of bytes: the same as decode, without its two hundred arms ===== -/
theorem qf_bind {α β : Type} {r : Decoder α} {f : α → Decoder β} {c : ByteArray} {p p' : Nat} {a : α} (h : r c p = .ok (a, p')) : (r >>= f) c p = f a c p' := by
  have e : (r >>= f) c p = (r c p >>= fun q => f q.1 c q.2) := rfl
  rw [e, h]
  rfl
theorem qf_map {α β : Type} {r : Decoder α} {f : α → β} {c : ByteArray} {p p' : Nat} {a : α} (h : r c p = .ok (a, p')) : (f <$> r) c p = .ok (f a, p') := by
  have e : (f <$> r) c p = (r c p >>= fun q => Except.ok (f q.1, q.2)) := rfl
  rw [e, h]
  rfl
theorem qf_u1 {c : ByteArray} {p : Nat} {b : UInt8} {t : List UInt8} (h : c.data.toList.drop p = b :: t) : (Jvm.ClassFile.Reader.u1 : Decoder Nat) c p = .ok (b.toNat, p + 1) ∧ c.data.toList.drop (p + 1) = t := by
  have h1 : c.data.toList[p]? = some b := by
    have e := congrArg (fun l => l[0]?) h
    simpa [List.getElem?_drop] using e
  obtain ⟨hl, e⟩ := List.getElem?_eq_some_iff.mp h1
  have hs : p < c.size := by
    rw [Array.length_toList] at hl
    exact hl
  have hc : c[p]'hs = b := by
    have e2 := e
    rw [Array.getElem_toList] at e2
    exact e2
  refine ⟨?_, ?_⟩
  · have e0 : (Jvm.ClassFile.Reader.u1 : Decoder Nat) c p = (dite (p < c.size) (fun h => (do set (p + 1); Pure.pure (c[p]'h).toNat : Decoder Nat)) (fun _ => throw (Jvm.ClassFile.HasTruncated.truncated p))) c p := rfl
    rw [e0, dif_pos hs]
    show Except.ok ((c[p]'hs).toNat, p + 1) = _
    rw [hc]
  · rw [← List.drop_drop, h]
    rfl
theorem qf_u2 {c : ByteArray} {p : Nat} {a b : UInt8} {t : List UInt8} (h : c.data.toList.drop p = a :: b :: t) : (Jvm.ClassFile.Reader.u2 : Decoder Nat) c p = .ok (a.toNat * 256 + b.toNat, p + 2) := by
  obtain ⟨h1, h2⟩ := qf_u1 h
  obtain ⟨h3, _⟩ := qf_u1 h2
  have e : (Jvm.ClassFile.Reader.u2 : Decoder Nat) = (Jvm.ClassFile.Reader.u1 >>= fun hi => Jvm.ClassFile.Reader.u1 >>= fun lo => (Pure.pure (hi * 256 + lo) : Decoder Nat)) := rfl
  rw [e, qf_bind h1, qf_bind h3]
  rfl
theorem qf_dec {c : ByteArray} {pc nx : Nat} {i : Instr} (h : Jvm.ClassFile.Decoder.instr pc c pc = .ok (i, nx)) : decode c pc = .ok (i, nx - pc) := by
  have e : decode c pc = (Jvm.ClassFile.Decoder.instr pc c pc >>= fun q => Except.ok (q.1, q.2 - pc)) := rfl
  rw [e, h]
  rfl
theorem qf_K (pc : Nat) : ∃ K : Nat → Decoder Instr, Jvm.ClassFile.Decoder.instr pc = (Jvm.ClassFile.Reader.u1 >>= K) ∧ K 2 = (Pure.pure (.iconst (-1)) : Decoder Instr) ∧ K 3 = (Pure.pure (.iconst 0) : Decoder Instr) ∧ K 4 = (Pure.pure (.iconst 1) : Decoder Instr) ∧ K 5 = (Pure.pure (.iconst 2) : Decoder Instr) ∧ K 6 = (Pure.pure (.iconst 3) : Decoder Instr) ∧ K 7 = (Pure.pure (.iconst 4) : Decoder Instr) ∧ K 8 = (Pure.pure (.iconst 5) : Decoder Instr) ∧ K 26 = (Pure.pure (.iload_n 0) : Decoder Instr) ∧ K 27 = (Pure.pure (.iload_n 1) : Decoder Instr) ∧ K 28 = (Pure.pure (.iload_n 2) : Decoder Instr) ∧ K 29 = (Pure.pure (.iload_n 3) : Decoder Instr) ∧ K 30 = (Pure.pure (.lload_n 0) : Decoder Instr) ∧ K 31 = (Pure.pure (.lload_n 1) : Decoder Instr) ∧ K 32 = (Pure.pure (.lload_n 2) : Decoder Instr) ∧ K 33 = (Pure.pure (.lload_n 3) : Decoder Instr) ∧ K 42 = (Pure.pure (.aload_n 0) : Decoder Instr) ∧ K 43 = (Pure.pure (.aload_n 1) : Decoder Instr) ∧ K 44 = (Pure.pure (.aload_n 2) : Decoder Instr) ∧ K 45 = (Pure.pure (.aload_n 3) : Decoder Instr) ∧ K 59 = (Pure.pure (.istore_n 0) : Decoder Instr) ∧ K 60 = (Pure.pure (.istore_n 1) : Decoder Instr) ∧ K 61 = (Pure.pure (.istore_n 2) : Decoder Instr) ∧ K 62 = (Pure.pure (.istore_n 3) : Decoder Instr) ∧ K 63 = (Pure.pure (.lstore_n 0) : Decoder Instr) ∧ K 64 = (Pure.pure (.lstore_n 1) : Decoder Instr) ∧ K 65 = (Pure.pure (.lstore_n 2) : Decoder Instr) ∧ K 66 = (Pure.pure (.lstore_n 3) : Decoder Instr) ∧ K 9 = (Pure.pure (.lconst 0) : Decoder Instr) ∧ K 10 = (Pure.pure (.lconst 1) : Decoder Instr) ∧ K 172 = (Pure.pure .ireturn : Decoder Instr) ∧ K 173 = (Pure.pure .lreturn : Decoder Instr) ∧ K 176 = (Pure.pure .areturn : Decoder Instr) ∧ K 177 = (Pure.pure .return_ : Decoder Instr) ∧ K 96 = (Pure.pure .iadd : Decoder Instr) ∧ K 100 = (Pure.pure .isub : Decoder Instr) ∧ K 104 = (Pure.pure .imul : Decoder Instr) ∧ K 126 = (Pure.pure .iand : Decoder Instr) ∧ K 128 = (Pure.pure .ior : Decoder Instr) ∧ K 130 = (Pure.pure .ixor : Decoder Instr) ∧ K 108 = (Pure.pure .idiv : Decoder Instr) ∧ K 112 = (Pure.pure .irem : Decoder Instr) ∧ K 120 = (Pure.pure .ishl : Decoder Instr) ∧ K 122 = (Pure.pure .ishr : Decoder Instr) ∧ K 124 = (Pure.pure .iushr : Decoder Instr) ∧ K 97 = (Pure.pure .ladd : Decoder Instr) ∧ K 101 = (Pure.pure .lsub : Decoder Instr) ∧ K 105 = (Pure.pure .lmul : Decoder Instr) ∧ K 109 = (Pure.pure .ldiv : Decoder Instr) ∧ K 113 = (Pure.pure .lrem : Decoder Instr) ∧ K 148 = (Pure.pure .lcmp : Decoder Instr) ∧ K 133 = (Pure.pure .i2l : Decoder Instr) ∧ K 145 = (Pure.pure .i2b : Decoder Instr) ∧ K 147 = (Pure.pure .i2s : Decoder Instr) ∧ K 146 = (Pure.pure .i2c : Decoder Instr) ∧ K 89 = (Pure.pure .dup : Decoder Instr) ∧ K 92 = (Pure.pure .dup2 : Decoder Instr) ∧ K 87 = (Pure.pure .pop : Decoder Instr) ∧ K 88 = (Pure.pure .pop2 : Decoder Instr) ∧ K 46 = (Pure.pure .iaload : Decoder Instr) ∧ K 51 = (Pure.pure .baload : Decoder Instr) ∧ K 79 = (Pure.pure .iastore : Decoder Instr) ∧ K 84 = (Pure.pure .bastore : Decoder Instr) ∧ K 190 = (Pure.pure .arraylength : Decoder Instr) ∧ K 18 = (Jvm.ClassFile.Reader.u1 >>= fun n => (Pure.pure (.ldc n) : Decoder Instr)) ∧ K 21 = (Jvm.ClassFile.Reader.u1 >>= fun n => (Pure.pure (.iload n) : Decoder Instr)) ∧ K 22 = (Jvm.ClassFile.Reader.u1 >>= fun n => (Pure.pure (.lload n) : Decoder Instr)) ∧ K 54 = (Jvm.ClassFile.Reader.u1 >>= fun n => (Pure.pure (.istore n) : Decoder Instr)) ∧ K 55 = (Jvm.ClassFile.Reader.u1 >>= fun n => (Pure.pure (.lstore n) : Decoder Instr)) ∧ K 19 = (Jvm.ClassFile.Reader.u2 >>= fun n => (Pure.pure (.ldc_w n) : Decoder Instr)) ∧ K 20 = (Jvm.ClassFile.Reader.u2 >>= fun n => (Pure.pure (.ldc2_w n) : Decoder Instr)) ∧ K 178 = (Jvm.ClassFile.Reader.u2 >>= fun n => (Pure.pure (.getstatic n) : Decoder Instr)) ∧ K 180 = (Jvm.ClassFile.Reader.u2 >>= fun n => (Pure.pure (.getfield n) : Decoder Instr)) ∧ K 181 = (Jvm.ClassFile.Reader.u2 >>= fun n => (Pure.pure (.putfield n) : Decoder Instr)) ∧ K 182 = (Jvm.ClassFile.Reader.u2 >>= fun n => (Pure.pure (.invokevirtual n) : Decoder Instr)) ∧ K 184 = (Jvm.ClassFile.Reader.u2 >>= fun n => (Pure.pure (.invokestatic n) : Decoder Instr)) ∧ K 16 = (Jvm.ClassFile.Reader.s1 >>= fun n => (Pure.pure (.bipush n) : Decoder Instr)) ∧ K 17 = (Jvm.ClassFile.Reader.s2 >>= fun n => (Pure.pure (.sipush n) : Decoder Instr)) ∧ K 167 = (Jvm.ClassFile.Reader.s2 >>= fun n => (Pure.pure (.goto n) : Decoder Instr)) ∧ K 153 = (Jvm.ClassFile.Reader.s2 >>= fun n => (Pure.pure (.ifCond .eq n) : Decoder Instr)) ∧ K 154 = (Jvm.ClassFile.Reader.s2 >>= fun n => (Pure.pure (.ifCond .ne n) : Decoder Instr)) ∧ K 155 = (Jvm.ClassFile.Reader.s2 >>= fun n => (Pure.pure (.ifCond .lt n) : Decoder Instr)) ∧ K 156 = (Jvm.ClassFile.Reader.s2 >>= fun n => (Pure.pure (.ifCond .ge n) : Decoder Instr)) ∧ K 157 = (Jvm.ClassFile.Reader.s2 >>= fun n => (Pure.pure (.ifCond .gt n) : Decoder Instr)) ∧ K 158 = (Jvm.ClassFile.Reader.s2 >>= fun n => (Pure.pure (.ifCond .le n) : Decoder Instr)) ∧ K 159 = (Jvm.ClassFile.Reader.s2 >>= fun n => (Pure.pure (.if_icmp .eq n) : Decoder Instr)) ∧ K 160 = (Jvm.ClassFile.Reader.s2 >>= fun n => (Pure.pure (.if_icmp .ne n) : Decoder Instr)) ∧ K 161 = (Jvm.ClassFile.Reader.s2 >>= fun n => (Pure.pure (.if_icmp .lt n) : Decoder Instr)) ∧ K 162 = (Jvm.ClassFile.Reader.s2 >>= fun n => (Pure.pure (.if_icmp .ge n) : Decoder Instr)) ∧ K 163 = (Jvm.ClassFile.Reader.s2 >>= fun n => (Pure.pure (.if_icmp .gt n) : Decoder Instr)) ∧ K 164 = (Jvm.ClassFile.Reader.s2 >>= fun n => (Pure.pure (.if_icmp .le n) : Decoder Instr)) ∧ K 132 = (Jvm.ClassFile.Reader.u1 >>= fun n => Jvm.ClassFile.Reader.s1 >>= fun k => (Pure.pure (.iinc n k) : Decoder Instr)) := ⟨_, rfl, rfl, rfl, rfl, rfl, rfl, rfl, rfl, rfl, rfl, rfl, rfl, rfl, rfl, rfl, rfl, rfl, rfl, rfl, rfl, rfl, rfl, rfl, rfl, rfl, rfl, rfl, rfl, rfl, rfl, rfl, rfl, rfl, rfl, rfl, rfl, rfl, rfl, rfl, rfl, rfl, rfl, rfl, rfl, rfl, rfl, rfl, rfl, rfl, rfl, rfl, rfl, rfl, rfl, rfl, rfl, rfl, rfl, rfl, rfl, rfl, rfl, rfl, rfl, rfl, rfl, rfl, rfl, rfl, rfl, rfl, rfl, rfl, rfl, rfl, rfl, rfl, rfl, rfl, rfl, rfl, rfl, rfl, rfl, rfl, rfl, rfl, rfl, rfl, rfl, rfl, rfl⟩
noncomputable def qf_b (l : List UInt8) (o : Nat) : Bool := match l with
  | b :: _ => Nat.beq b.toNat o
  | [] => false
noncomputable def qf_1 (l : List UInt8) (o n : Nat) : Bool := match l with
  | b :: x :: _ => Nat.beq b.toNat o && Nat.beq x.toNat n
  | _ => false
noncomputable def qf_2 (l : List UInt8) (o n : Nat) : Bool := match l with
  | b :: x :: y :: _ => Nat.beq b.toNat o && Nat.beq (x.toNat * 256 + y.toNat) n
  | _ => false
noncomputable def qf_s (l : List UInt8) (o : Nat) (n : Int) : Bool := match l with
  | b :: x :: _ => Nat.beq b.toNat o && decide (Jvm.ClassFile.Reader.signed 8 x.toNat = n)
  | _ => false
noncomputable def qf_t (l : List UInt8) (o : Nat) (n : Int) : Bool := match l with
  | b :: x :: y :: _ => Nat.beq b.toNat o && decide (Jvm.ClassFile.Reader.signed 16 (x.toNat * 256 + y.toNat) = n)
  | _ => false
noncomputable def qf_v (l : List UInt8) (o n : Nat) (k : Int) : Bool := match l with
  | b :: x :: y :: _ => Nat.beq b.toNat o && Nat.beq x.toNat n && decide (Jvm.ClassFile.Reader.signed 8 y.toNat = k)
  | _ => false
noncomputable def qf_cd (c : Jvm.ClassFile.Cond) : Nat := match c with
  | .eq => 0 | .ne => 1 | .lt => 2 | .ge => 3 | .gt => 4 | .le => 5
theorem qf_op0 {K : Nat → Decoder Instr} {pc o : Nat} {i : Instr} {c : ByteArray} {l : List UInt8} (hK : Jvm.ClassFile.Decoder.instr pc = (Jvm.ClassFile.Reader.u1 >>= K)) (hk : K o = (Pure.pure i : Decoder Instr)) (hd : c.data.toList.drop pc = l) (hq : qf_b l o = true) : decode c pc = .ok (i, 1) := by
  match l, hd, hq with
  | [], _, hq => exact absurd (show false = true from hq) (by decide)
  | b :: t, hd, hq =>
    have e : b.toNat = o := Nat.eq_of_beq_eq_true hq
    have h : Jvm.ClassFile.Decoder.instr pc c pc = .ok (i, pc + 1) := by
      rw [hK, qf_bind (qf_u1 hd).1, e, hk]
      rfl
    have h3 := qf_dec h
    rwa [Nat.add_sub_cancel_left] at h3
theorem qf_op1 {K : Nat → Decoder Instr} {C : Nat → Instr} {pc o n : Nat} {c : ByteArray} {l : List UInt8} (hK : Jvm.ClassFile.Decoder.instr pc = (Jvm.ClassFile.Reader.u1 >>= K)) (hk : K o = (Jvm.ClassFile.Reader.u1 >>= fun n => (Pure.pure (C n) : Decoder Instr))) (hd : c.data.toList.drop pc = l) (hq : qf_1 l o n = true) : decode c pc = .ok (C n, 2) := by
  match l, hd, hq with
  | [], _, hq => exact absurd (show false = true from hq) (by decide)
  | [_], _, hq => exact absurd (show false = true from hq) (by decide)
  | b :: x :: t, hd, hq =>
    have hq := (Bool.and_eq_true _ _).mp hq
    have e : b.toNat = o := Nat.eq_of_beq_eq_true hq.1
    have e2 : x.toNat = n := Nat.eq_of_beq_eq_true hq.2
    have h : Jvm.ClassFile.Decoder.instr pc c pc = .ok (C n, pc + 2) := by
      rw [hK, qf_bind (qf_u1 hd).1, e, hk, qf_bind (qf_u1 (qf_u1 hd).2).1, e2]
      rfl
    have h3 := qf_dec h
    rwa [Nat.add_sub_cancel_left] at h3
theorem qf_op2 {K : Nat → Decoder Instr} {C : Nat → Instr} {pc o n : Nat} {c : ByteArray} {l : List UInt8} (hK : Jvm.ClassFile.Decoder.instr pc = (Jvm.ClassFile.Reader.u1 >>= K)) (hk : K o = (Jvm.ClassFile.Reader.u2 >>= fun n => (Pure.pure (C n) : Decoder Instr))) (hd : c.data.toList.drop pc = l) (hq : qf_2 l o n = true) : decode c pc = .ok (C n, 3) := by
  match l, hd, hq with
  | [], _, hq => exact absurd (show false = true from hq) (by decide)
  | [_], _, hq => exact absurd (show false = true from hq) (by decide)
  | [_, _], _, hq => exact absurd (show false = true from hq) (by decide)
  | b :: x :: y :: t, hd, hq =>
    have hq := (Bool.and_eq_true _ _).mp hq
    have e : b.toNat = o := Nat.eq_of_beq_eq_true hq.1
    have e2 : x.toNat * 256 + y.toNat = n := Nat.eq_of_beq_eq_true hq.2
    have h : Jvm.ClassFile.Decoder.instr pc c pc = .ok (C n, pc + 3) := by
      rw [hK, qf_bind (qf_u1 hd).1, e, hk, qf_bind (qf_u2 (qf_u1 hd).2), e2]
      rfl
    have h3 := qf_dec h
    rwa [Nat.add_sub_cancel_left] at h3
theorem qf_ops {K : Nat → Decoder Instr} {C : Int → Instr} {pc o : Nat} {n : Int} {c : ByteArray} {l : List UInt8} (hK : Jvm.ClassFile.Decoder.instr pc = (Jvm.ClassFile.Reader.u1 >>= K)) (hk : K o = (Jvm.ClassFile.Reader.s1 >>= fun n => (Pure.pure (C n) : Decoder Instr))) (hd : c.data.toList.drop pc = l) (hq : qf_s l o n = true) : decode c pc = .ok (C n, 2) := by
  match l, hd, hq with
  | [], _, hq => exact absurd (show false = true from hq) (by decide)
  | [_], _, hq => exact absurd (show false = true from hq) (by decide)
  | b :: x :: t, hd, hq =>
    have hq := (Bool.and_eq_true _ _).mp hq
    have e : b.toNat = o := Nat.eq_of_beq_eq_true hq.1
    have e2 : Jvm.ClassFile.Reader.signed 8 x.toNat = n := of_decide_eq_true hq.2
    have hs : (Jvm.ClassFile.Reader.s1 : Decoder Int) c (pc + 1) = .ok (Jvm.ClassFile.Reader.signed 8 x.toNat, pc + 2) := by
      show (Jvm.ClassFile.Reader.signed 8 <$> Jvm.ClassFile.Reader.u1 : Decoder Int) c (pc + 1) = _
      exact qf_map (qf_u1 (qf_u1 hd).2).1
    have h : Jvm.ClassFile.Decoder.instr pc c pc = .ok (C n, pc + 2) := by
      rw [hK, qf_bind (qf_u1 hd).1, e, hk, qf_bind hs, e2]
      rfl
    have h3 := qf_dec h
    rwa [Nat.add_sub_cancel_left] at h3
theorem qf_opt {K : Nat → Decoder Instr} {C : Int → Instr} {pc o : Nat} {n : Int} {c : ByteArray} {l : List UInt8} (hK : Jvm.ClassFile.Decoder.instr pc = (Jvm.ClassFile.Reader.u1 >>= K)) (hk : K o = (Jvm.ClassFile.Reader.s2 >>= fun n => (Pure.pure (C n) : Decoder Instr))) (hd : c.data.toList.drop pc = l) (hq : qf_t l o n = true) : decode c pc = .ok (C n, 3) := by
  match l, hd, hq with
  | [], _, hq => exact absurd (show false = true from hq) (by decide)
  | [_], _, hq => exact absurd (show false = true from hq) (by decide)
  | [_, _], _, hq => exact absurd (show false = true from hq) (by decide)
  | b :: x :: y :: t, hd, hq =>
    have hq := (Bool.and_eq_true _ _).mp hq
    have e : b.toNat = o := Nat.eq_of_beq_eq_true hq.1
    have e2 : Jvm.ClassFile.Reader.signed 16 (x.toNat * 256 + y.toNat) = n := of_decide_eq_true hq.2
    have hs : (Jvm.ClassFile.Reader.s2 : Decoder Int) c (pc + 1) = .ok (Jvm.ClassFile.Reader.signed 16 (x.toNat * 256 + y.toNat), pc + 3) := by
      show (Jvm.ClassFile.Reader.signed 16 <$> Jvm.ClassFile.Reader.u2 : Decoder Int) c (pc + 1) = _
      exact qf_map (qf_u2 (qf_u1 hd).2)
    have h : Jvm.ClassFile.Decoder.instr pc c pc = .ok (C n, pc + 3) := by
      rw [hK, qf_bind (qf_u1 hd).1, e, hk, qf_bind hs, e2]
      rfl
    have h3 := qf_dec h
    rwa [Nat.add_sub_cancel_left] at h3
theorem qf_opv {K : Nat → Decoder Instr} {C : Nat → Int → Instr} {pc o n : Nat} {k : Int} {c : ByteArray} {l : List UInt8} (hK : Jvm.ClassFile.Decoder.instr pc = (Jvm.ClassFile.Reader.u1 >>= K)) (hk : K o = (Jvm.ClassFile.Reader.u1 >>= fun n => Jvm.ClassFile.Reader.s1 >>= fun k => (Pure.pure (C n k) : Decoder Instr))) (hd : c.data.toList.drop pc = l) (hq : qf_v l o n k = true) : decode c pc = .ok (C n k, 3) := by
  match l, hd, hq with
  | [], _, hq => exact absurd (show false = true from hq) (by decide)
  | [_], _, hq => exact absurd (show false = true from hq) (by decide)
  | [_, _], _, hq => exact absurd (show false = true from hq) (by decide)
  | b :: x :: y :: t, hd, hq =>
    have hq := (Bool.and_eq_true _ _).mp hq
    have hq1 := (Bool.and_eq_true _ _).mp hq.1
    have e : b.toNat = o := Nat.eq_of_beq_eq_true hq1.1
    have e2 : x.toNat = n := Nat.eq_of_beq_eq_true hq1.2
    have e3 : Jvm.ClassFile.Reader.signed 8 y.toNat = k := of_decide_eq_true hq.2
    have h2 := (qf_u1 hd).2
    have hs : (Jvm.ClassFile.Reader.s1 : Decoder Int) c (pc + 1 + 1) = .ok (Jvm.ClassFile.Reader.signed 8 y.toNat, pc + 3) := by
      show (Jvm.ClassFile.Reader.signed 8 <$> Jvm.ClassFile.Reader.u1 : Decoder Int) c (pc + 1 + 1) = _
      exact qf_map (qf_u1 (qf_u1 h2).2).1
    have h : Jvm.ClassFile.Decoder.instr pc c pc = .ok (C n k, pc + 3) := by
      rw [hK, qf_bind (qf_u1 hd).1, e, hk, qf_bind (qf_u1 h2).1, e2, qf_bind hs, e3]
      rfl
    have h3 := qf_dec h
    rwa [Nat.add_sub_cancel_left] at h3
noncomputable def qzf (i : Instr) (l : List UInt8) : Bool := match i with
  | .iconst n => (match n with
    | .ofNat k => Nat.ble k 5 && qf_b l (3 + k)
    | .negSucc k => Nat.beq k 0 && qf_b l 2)
  | .iload_n k => qf_b l (26 + k.val)
  | .lload_n k => qf_b l (30 + k.val)
  | .aload_n k => qf_b l (42 + k.val)
  | .istore_n k => qf_b l (59 + k.val)
  | .lstore_n k => qf_b l (63 + k.val)
  | .lconst k => qf_b l (9 + k.val)
  | .ireturn => qf_b l 172
  | .lreturn => qf_b l 173
  | .areturn => qf_b l 176
  | .return_ => qf_b l 177
  | .iadd => qf_b l 96
  | .isub => qf_b l 100
  | .imul => qf_b l 104
  | .iand => qf_b l 126
  | .ior => qf_b l 128
  | .ixor => qf_b l 130
  | .idiv => qf_b l 108
  | .irem => qf_b l 112
  | .ishl => qf_b l 120
  | .ishr => qf_b l 122
  | .iushr => qf_b l 124
  | .ladd => qf_b l 97
  | .lsub => qf_b l 101
  | .lmul => qf_b l 105
  | .ldiv => qf_b l 109
  | .lrem => qf_b l 113
  | .lcmp => qf_b l 148
  | .i2l => qf_b l 133
  | .i2b => qf_b l 145
  | .i2s => qf_b l 147
  | .i2c => qf_b l 146
  | .dup => qf_b l 89
  | .dup2 => qf_b l 92
  | .pop => qf_b l 87
  | .pop2 => qf_b l 88
  | .iaload => qf_b l 46
  | .baload => qf_b l 51
  | .iastore => qf_b l 79
  | .bastore => qf_b l 84
  | .arraylength => qf_b l 190
  | .ldc n => qf_1 l 18 n
  | .iload n => qf_1 l 21 n
  | .lload n => qf_1 l 22 n
  | .istore n => qf_1 l 54 n
  | .lstore n => qf_1 l 55 n
  | .ldc_w n => qf_2 l 19 n
  | .ldc2_w n => qf_2 l 20 n
  | .getstatic n => qf_2 l 178 n
  | .getfield n => qf_2 l 180 n
  | .putfield n => qf_2 l 181 n
  | .invokevirtual n => qf_2 l 182 n
  | .invokestatic n => qf_2 l 184 n
  | .bipush n => qf_s l 16 n
  | .sipush n => qf_t l 17 n
  | .goto n => qf_t l 167 n
  | .ifCond c n => qf_t l (153 + qf_cd c) n
  | .if_icmp c n => qf_t l (159 + qf_cd c) n
  | .iinc n k => qf_v l 132 n k
  | _ => false
theorem qf_ok {c : ByteArray} {pc nx : Nat} {l : List UInt8} (hd : c.data.toList.drop pc = l) {i : Instr} (hq : qzf i l = true) : decode c pc = .ok (i, qm_dl i pc nx) := by
  obtain ⟨K, hK, kc0, kc1, kc2, kc3, kc4, kc5, kc6, kiload_n0, kiload_n1, kiload_n2, kiload_n3, klload_n0, klload_n1, klload_n2, klload_n3, kaload_n0, kaload_n1, kaload_n2, kaload_n3, kistore_n0, kistore_n1, kistore_n2, kistore_n3, klstore_n0, klstore_n1, klstore_n2, klstore_n3, klconst0, klconst1, kireturn, klreturn, kareturn, kreturn_, kiadd, kisub, kimul, kiand, kior, kixor, kidiv, kirem, kishl, kishr, kiushr, kladd, klsub, klmul, kldiv, klrem, klcmp, ki2l, ki2b, ki2s, ki2c, kdup, kdup2, kpop, kpop2, kiaload, kbaload, kiastore, kbastore, karraylength, kldc, kiload, klload, kistore, klstore, kldc_w, kldc2_w, kgetstatic, kgetfield, kputfield, kinvokevirtual, kinvokestatic, kbipush, ksipush, kgoto, kifeq, kifne, kiflt, kifge, kifgt, kifle, kicmpeq, kicmpne, kicmplt, kicmpge, kicmpgt, kicmple, kiinc⟩ := qf_K pc
  cases i with
  | iconst n =>
    cases n with
    | ofNat k =>
      have hq := (Bool.and_eq_true _ _).mp hq
      have h5 : k ≤ 5 := Nat.le_of_ble_eq_true hq.1
      have h6 : k = 0 ∨ k = 1 ∨ k = 2 ∨ k = 3 ∨ k = 4 ∨ k = 5 := by omega
      rcases h6 with rfl | rfl | rfl | rfl | rfl | rfl
      · exact qf_op0 hK kc1 hd hq.2
      · exact qf_op0 hK kc2 hd hq.2
      · exact qf_op0 hK kc3 hd hq.2
      · exact qf_op0 hK kc4 hd hq.2
      · exact qf_op0 hK kc5 hd hq.2
      · exact qf_op0 hK kc6 hd hq.2
    | negSucc k =>
      have hq := (Bool.and_eq_true _ _).mp hq
      have h5 : k = 0 := Nat.eq_of_beq_eq_true hq.1
      subst h5
      exact qf_op0 hK kc0 hd hq.2
  | iload_n k =>
    obtain ⟨k, hk⟩ := k
    have h4 : k = 0 ∨ k = 1 ∨ k = 2 ∨ k = 3 := by omega
    rcases h4 with rfl | rfl | rfl | rfl
    · exact qf_op0 hK kiload_n0 hd hq
    · exact qf_op0 hK kiload_n1 hd hq
    · exact qf_op0 hK kiload_n2 hd hq
    · exact qf_op0 hK kiload_n3 hd hq
  | lload_n k =>
    obtain ⟨k, hk⟩ := k
    have h4 : k = 0 ∨ k = 1 ∨ k = 2 ∨ k = 3 := by omega
    rcases h4 with rfl | rfl | rfl | rfl
    · exact qf_op0 hK klload_n0 hd hq
    · exact qf_op0 hK klload_n1 hd hq
    · exact qf_op0 hK klload_n2 hd hq
    · exact qf_op0 hK klload_n3 hd hq
  | aload_n k =>
    obtain ⟨k, hk⟩ := k
    have h4 : k = 0 ∨ k = 1 ∨ k = 2 ∨ k = 3 := by omega
    rcases h4 with rfl | rfl | rfl | rfl
    · exact qf_op0 hK kaload_n0 hd hq
    · exact qf_op0 hK kaload_n1 hd hq
    · exact qf_op0 hK kaload_n2 hd hq
    · exact qf_op0 hK kaload_n3 hd hq
  | istore_n k =>
    obtain ⟨k, hk⟩ := k
    have h4 : k = 0 ∨ k = 1 ∨ k = 2 ∨ k = 3 := by omega
    rcases h4 with rfl | rfl | rfl | rfl
    · exact qf_op0 hK kistore_n0 hd hq
    · exact qf_op0 hK kistore_n1 hd hq
    · exact qf_op0 hK kistore_n2 hd hq
    · exact qf_op0 hK kistore_n3 hd hq
  | lstore_n k =>
    obtain ⟨k, hk⟩ := k
    have h4 : k = 0 ∨ k = 1 ∨ k = 2 ∨ k = 3 := by omega
    rcases h4 with rfl | rfl | rfl | rfl
    · exact qf_op0 hK klstore_n0 hd hq
    · exact qf_op0 hK klstore_n1 hd hq
    · exact qf_op0 hK klstore_n2 hd hq
    · exact qf_op0 hK klstore_n3 hd hq
  | lconst k =>
    obtain ⟨k, hk⟩ := k
    have h4 : k = 0 ∨ k = 1 := by omega
    rcases h4 with rfl | rfl
    · exact qf_op0 hK klconst0 hd hq
    · exact qf_op0 hK klconst1 hd hq
  | ireturn => exact qf_op0 hK kireturn hd hq
  | lreturn => exact qf_op0 hK klreturn hd hq
  | areturn => exact qf_op0 hK kareturn hd hq
  | return_ => exact qf_op0 hK kreturn_ hd hq
  | iadd => exact qf_op0 hK kiadd hd hq
  | isub => exact qf_op0 hK kisub hd hq
  | imul => exact qf_op0 hK kimul hd hq
  | iand => exact qf_op0 hK kiand hd hq
  | ior => exact qf_op0 hK kior hd hq
  | ixor => exact qf_op0 hK kixor hd hq
  | idiv => exact qf_op0 hK kidiv hd hq
  | irem => exact qf_op0 hK kirem hd hq
  | ishl => exact qf_op0 hK kishl hd hq
  | ishr => exact qf_op0 hK kishr hd hq
  | iushr => exact qf_op0 hK kiushr hd hq
  | ladd => exact qf_op0 hK kladd hd hq
  | lsub => exact qf_op0 hK klsub hd hq
  | lmul => exact qf_op0 hK klmul hd hq
  | ldiv => exact qf_op0 hK kldiv hd hq
  | lrem => exact qf_op0 hK klrem hd hq
  | lcmp => exact qf_op0 hK klcmp hd hq
  | i2l => exact qf_op0 hK ki2l hd hq
  | i2b => exact qf_op0 hK ki2b hd hq
  | i2s => exact qf_op0 hK ki2s hd hq
  | i2c => exact qf_op0 hK ki2c hd hq
  | dup => exact qf_op0 hK kdup hd hq
  | dup2 => exact qf_op0 hK kdup2 hd hq
  | pop => exact qf_op0 hK kpop hd hq
  | pop2 => exact qf_op0 hK kpop2 hd hq
  | iaload => exact qf_op0 hK kiaload hd hq
  | baload => exact qf_op0 hK kbaload hd hq
  | iastore => exact qf_op0 hK kiastore hd hq
  | bastore => exact qf_op0 hK kbastore hd hq
  | arraylength => exact qf_op0 hK karraylength hd hq
  | ldc n => exact qf_op1 (C := Jvm.ClassFile.Instr.ldc) hK kldc hd hq
  | iload n => exact qf_op1 (C := Jvm.ClassFile.Instr.iload) hK kiload hd hq
  | lload n => exact qf_op1 (C := Jvm.ClassFile.Instr.lload) hK klload hd hq
  | istore n => exact qf_op1 (C := Jvm.ClassFile.Instr.istore) hK kistore hd hq
  | lstore n => exact qf_op1 (C := Jvm.ClassFile.Instr.lstore) hK klstore hd hq
  | ldc_w n => exact qf_op2 (C := Jvm.ClassFile.Instr.ldc_w) hK kldc_w hd hq
  | ldc2_w n => exact qf_op2 (C := Jvm.ClassFile.Instr.ldc2_w) hK kldc2_w hd hq
  | getstatic n => exact qf_op2 (C := Jvm.ClassFile.Instr.getstatic) hK kgetstatic hd hq
  | getfield n => exact qf_op2 (C := Jvm.ClassFile.Instr.getfield) hK kgetfield hd hq
  | putfield n => exact qf_op2 (C := Jvm.ClassFile.Instr.putfield) hK kputfield hd hq
  | invokevirtual n => exact qf_op2 (C := Jvm.ClassFile.Instr.invokevirtual) hK kinvokevirtual hd hq
  | invokestatic n => exact qf_op2 (C := Jvm.ClassFile.Instr.invokestatic) hK kinvokestatic hd hq
  | bipush n => exact qf_ops (C := Jvm.ClassFile.Instr.bipush) hK kbipush hd hq
  | sipush n => exact qf_opt (C := Jvm.ClassFile.Instr.sipush) hK ksipush hd hq
  | goto n => exact qf_opt (C := Jvm.ClassFile.Instr.goto) hK kgoto hd hq
  | ifCond c n =>
    cases c with
    | eq => exact qf_opt (C := Jvm.ClassFile.Instr.ifCond .eq) hK kifeq hd hq
    | ne => exact qf_opt (C := Jvm.ClassFile.Instr.ifCond .ne) hK kifne hd hq
    | lt => exact qf_opt (C := Jvm.ClassFile.Instr.ifCond .lt) hK kiflt hd hq
    | ge => exact qf_opt (C := Jvm.ClassFile.Instr.ifCond .ge) hK kifge hd hq
    | gt => exact qf_opt (C := Jvm.ClassFile.Instr.ifCond .gt) hK kifgt hd hq
    | le => exact qf_opt (C := Jvm.ClassFile.Instr.ifCond .le) hK kifle hd hq
  | if_icmp c n =>
    cases c with
    | eq => exact qf_opt (C := Jvm.ClassFile.Instr.if_icmp .eq) hK kicmpeq hd hq
    | ne => exact qf_opt (C := Jvm.ClassFile.Instr.if_icmp .ne) hK kicmpne hd hq
    | lt => exact qf_opt (C := Jvm.ClassFile.Instr.if_icmp .lt) hK kicmplt hd hq
    | ge => exact qf_opt (C := Jvm.ClassFile.Instr.if_icmp .ge) hK kicmpge hd hq
    | gt => exact qf_opt (C := Jvm.ClassFile.Instr.if_icmp .gt) hK kicmpgt hd hq
    | le => exact qf_opt (C := Jvm.ClassFile.Instr.if_icmp .le) hK kicmple hd hq
  | iinc n k => exact qf_opv (C := Jvm.ClassFile.Instr.iinc) hK kiinc hd hq
  | _ => exact absurd (show false = true from hq) (by decide)
