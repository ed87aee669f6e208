/-! ===== sums of what is owed, nets ===== -/
theorem sumI_rg {f : Nat → Int} {a b : Int} : ∀ {n : Nat}, (∀ j : Nat, j < n → a ≤ f j ∧ f j ≤ b) → a * (n : Int) ≤ sumI f n ∧ sumI f n ≤ b * (n : Int)
  | 0, _ => ⟨by rw [show ((0 : Nat) : Int) = 0 from rfl, Int.mul_zero]; exact Int.le_refl _, by rw [show ((0 : Nat) : Int) = 0 from rfl, Int.mul_zero]; exact Int.le_refl _⟩
  | n + 1, h => by
    have x := sumI_rg (n := n) (fun j q => h j (by omega))
    have y := h n (Nat.lt_succ_self _)
    rw [sumI_s, show ((n + 1 : Nat) : Int) = (n : Int) + 1 from rfl, Int.mul_add, Int.mul_add, Int.mul_one, Int.mul_one]
    omega
theorem sumI_cut {f : Nat → Int} {n : Nat} : ∀ {m : Nat}, n ≤ m → (∀ j : Nat, n ≤ j → j < m → f j = 0) → sumI f m = sumI f n
  | 0, h, _ => by rw [show n = 0 by omega]
  | m + 1, h, z => by
    by_cases q : n = m + 1
    · rw [q]
    · rw [sumI_s, sumI_cut (by omega) (fun j a b => z j a (by omega)), z m (by omega) (Nat.lt_succ_self _), Int.add_zero]
theorem sumI_0 {f : Nat → Int} {n : Nat} (h : ∀ j : Nat, j < n → f j = 0) : sumI f n = 0 := (sumI_cut (n := 0) (Nat.zero_le _) (fun j _ q => h j q)).trans rfl
noncomputable def oaR (pl pa kn : Nat → Int32) (d : Int) (n : Nat) (x : Nat) : Nat → Int := sumI (fun y => owS pl pa kn (10 * (x : Int) + (y : Int)) d n)
noncomputable def oaS (pl pa kn : Nat → Int32) (d : Int) (n c : Nat) : Nat → Int := sumI (fun x => oaR pl pa kn d n x c)
noncomputable def ntS (pl pa kn : Nat → Int32) (n : Nat) (c : Nat) : Nat → Int := sumI (fun k => owS pl pa kn (10 * (k : Int) + (c : Int)) 9 n - owS pl pa kn (10 * (c : Int) + (k : Int)) 9 n)
def mx0 (x : Int) : Int := if 0 < x then x else 0
noncomputable def npS (pl pa kn : Nat → Int32) (n c : Nat) : Nat → Int := sumI (fun k => mx0 (ntS pl pa kn n k c))
theorem ow_90 {pl pa kn : Nat → Int32} {p d : Int} {n : Nat} (hn : n ≤ 10) (h : ∀ j : Nat, j < n → 0 ≤ (kn j).toInt ∧ (kn j).toInt ≤ 99) : 0 ≤ owS pl pa kn p d n ∧ owS pl pa kn p d n ≤ 90 := by
  have := owS_rng (pl := pl) (pa := pa) (kn := kn) (p := p) (d := d) (n := n) h
  omega
theorem oaR_rng {pl pa kn : Nat → Int32} {d : Int} {n x c : Nat} (hn : n ≤ 10) (h : ∀ j : Nat, j < n → 0 ≤ (kn j).toInt ∧ (kn j).toInt ≤ 99) : 0 ≤ oaR pl pa kn d n x c ∧ oaR pl pa kn d n x c ≤ 90 * (c : Int) := by
  have := sumI_rg (f := fun y => owS pl pa kn (10 * (x : Int) + (y : Int)) d n) (a := 0) (b := 90) (n := c) (fun j _ => ow_90 hn h)
  rw [Int.zero_mul] at this
  exact this
theorem oaS_rng {pl pa kn : Nat → Int32} {d : Int} {n c m : Nat} (hn : n ≤ 10) (hc : c ≤ 4) (h : ∀ j : Nat, j < n → 0 ≤ (kn j).toInt ∧ (kn j).toInt ≤ 99) : 0 ≤ oaS pl pa kn d n c m ∧ oaS pl pa kn d n c m ≤ 360 * (m : Int) := by
  have := sumI_rg (f := fun x => oaR pl pa kn d n x c) (a := 0) (b := 360) (n := m) (fun j _ => by have := oaR_rng (pl := pl) (pa := pa) (d := d) (x := j) (c := c) hn h; omega)
  rw [Int.zero_mul] at this
  exact this
theorem ntS_rng {pl pa kn : Nat → Int32} {n c m : Nat} (hn : n ≤ 10) (h : ∀ j : Nat, j < n → 0 ≤ (kn j).toInt ∧ (kn j).toInt ≤ 99) : -90 * (m : Int) ≤ ntS pl pa kn n c m ∧ ntS pl pa kn n c m ≤ 90 * (m : Int) := sumI_rg (fun j _ => by
  have a := ow_90 (pl := pl) (pa := pa) (p := 10 * (j : Int) + (c : Int)) (d := 9) hn h
  have b := ow_90 (pl := pl) (pa := pa) (p := 10 * (c : Int) + (j : Int)) (d := 9) hn h
  omega)
theorem mx0_rng {x m : Int} (h : x ≤ m) (hm : 0 ≤ m) : 0 ≤ mx0 x ∧ mx0 x ≤ m := by
  unfold mx0
  split <;> omega
theorem npS_rng {pl pa kn : Nat → Int32} {n c m : Nat} (hn : n ≤ 10) (hc : c ≤ 4) (h : ∀ j : Nat, j < n → 0 ≤ (kn j).toInt ∧ (kn j).toInt ≤ 99) : 0 ≤ npS pl pa kn n c m ∧ npS pl pa kn n c m ≤ 360 * (m : Int) := by
  have := sumI_rg (f := fun k => mx0 (ntS pl pa kn n k c)) (a := 0) (b := 360) (n := m) (fun j _ => by have := ntS_rng (pl := pl) (pa := pa) (c := j) (m := c) hn h; exact mx0_rng (by omega) (by decide))
  rw [Int.zero_mul] at this
  exact this
noncomputable def qSum (b : Int) (M : Mem) : Int := if b = 0 ∨ b = 1 then oaS (plM M) (paM M) (knM M) (if b = 0 then 9 else (dyM M).toInt) (thM M).toInt.toNat (clM M).toInt.toNat (clM M).toInt.toNat else if b = 2 then npS (plM M) (paM M) (knM M) (thM M).toInt.toNat (clM M).toInt.toNat (clM M).toInt.toNat else -1
theorem rows_in {th : Int32} {pl pa kn : Nat → Int32} : ∀ j : Nat, j < th.toInt.toNat → msk th pl j = pl j ∧ msk th pa j = pa j ∧ msk th kn j = kn j := fun j q => ⟨msk_in (by omega), msk_in (by omega), msk_in (by omega)⟩
theorem oaS_eq {pl pa kn pl2 pa2 kn2 : Nat → Int32} {d : Int} {n c m : Nat} (h : ∀ j : Nat, j < n → pl j = pl2 j ∧ pa j = pa2 j ∧ kn j = kn2 j) : oaS pl pa kn d n c m = oaS pl2 pa2 kn2 d n c m := sumI_eq (fun x _ => sumI_eq (fun y _ => owS_eq h))
theorem ntS_eq {pl pa kn pl2 pa2 kn2 : Nat → Int32} {n c m : Nat} (h : ∀ j : Nat, j < n → pl j = pl2 j ∧ pa j = pa2 j ∧ kn j = kn2 j) : ntS pl pa kn n c m = ntS pl2 pa2 kn2 n c m := sumI_eq (fun k _ => by rw [owS_eq h, owS_eq h])
theorem npS_eq {pl pa kn pl2 pa2 kn2 : Nat → Int32} {n c m : Nat} (h : ∀ j : Nat, j < n → pl j = pl2 j ∧ pa j = pa2 j ∧ kn j = kn2 j) : npS pl pa kn n c m = npS pl2 pa2 kn2 n c m := sumI_eq (fun k _ => by rw [ntS_eq h])
theorem sum_01 {b d : Int} {cl th dy sn : Int32} {kd pl pa kn sp ss : Nat → Int32} (hb : (b = 0 ∧ d = 9) ∨ (b = 1 ∧ d = dy.toInt)) : qSum b (mkM cl th dy sn kd pl pa kn sp ss) = oaS pl pa kn d th.toInt.toNat cl.toInt.toNat cl.toInt.toNat := by
  unfold qSum
  rw [if_pos (by omega)]
  obtain q | q := hb
  · rw [if_pos q.1, q.2]; exact oaS_eq rows_in
  · rw [if_neg (by omega), q.2]; exact oaS_eq rows_in
theorem sum_2 {b : Int} {cl th dy sn : Int32} {kd pl pa kn sp ss : Nat → Int32} (hb : b = 2) : qSum b (mkM cl th dy sn kd pl pa kn sp ss) = npS pl pa kn th.toInt.toNat cl.toInt.toNat cl.toInt.toNat := by
  unfold qSum
  rw [if_neg (by omega), if_pos hb]
  exact npS_eq rows_in
theorem sum_d {b : Int} {M : Mem} (hb : ¬ b = 0 ∧ ¬ b = 1 ∧ ¬ b = 2) : qSum b M = -1 := by
  unfold qSum
  rw [if_neg (fun z => z.elim hb.1 hb.2.1), if_neg hb.2.2]
/-! clerk -/
noncomputable def qClerk (a b : Int) (M : Mem) : Int := if ¬ (0 ≤ a ∧ a < (clM M).toInt) then -1 else if b = 0 then (kdM M a.toNat).toInt else if b = 1 then cntR (fun t => plM M t / 10) (thM M).toInt.toNat a else if b = 2 then rmH (kdM M a.toNat).toInt else if b = 3 then 1000 + ntS (plM M) (paM M) (knM M) (thM M).toInt.toNat a.toNat (clM M).toInt.toNat else -1
theorem clerk_no {a b : Int} {M : Mem} (h : ¬ (0 ≤ a ∧ a < (clM M).toInt) ∨ (¬ b = 0 ∧ ¬ b = 1 ∧ ¬ b = 2 ∧ ¬ b = 3)) : qClerk a b M = -1 := by
  unfold qClerk
  by_cases q : 0 ≤ a ∧ a < (clM M).toInt
  · have w := h.resolve_left (fun z => z q)
    rw [if_neg (fun z => z q), if_neg w.1, if_neg w.2.1, if_neg w.2.2.1, if_neg w.2.2.2]
  · rw [if_pos q]
theorem clerk_0 {a b : Int} {cl th dy sn : Int32} {kd pl pa kn sp ss : Nat → Int32} (h : 0 ≤ a ∧ a < cl.toInt) (hb : b = 0) : qClerk a b (mkM cl th dy sn kd pl pa kn sp ss) = (kd a.toNat).toInt := by
  unfold qClerk
  rw [if_neg (fun z => z h), if_pos hb]
  exact congrArg Int32.toInt (msk_in (by omega))
theorem clerk_1 {a b : Int} {cl th dy sn : Int32} {kd pl pa kn sp ss : Nat → Int32} (h : 0 ≤ a ∧ a < cl.toInt) (hb : b = 1) : qClerk a b (mkM cl th dy sn kd pl pa kn sp ss) = cntR (fun t => pl t / 10) th.toInt.toNat a := by
  unfold qClerk
  rw [if_neg (fun z => z h), if_neg (by omega), if_pos hb]
  exact cntR_eq (fun j q => by show msk th pl j / 10 = _; rw [msk_in (by have q : j < th.toInt.toNat := q; omega)])
theorem clerk_2 {a b : Int} {cl th dy sn : Int32} {kd pl pa kn sp ss : Nat → Int32} (h : 0 ≤ a ∧ a < cl.toInt) (hb : b = 2) : qClerk a b (mkM cl th dy sn kd pl pa kn sp ss) = rmH (kd a.toNat).toInt := by
  unfold qClerk
  rw [if_neg (fun z => z h), if_neg (by omega), if_neg (by omega), if_pos hb]
  exact congrArg (fun x : Int32 => rmH x.toInt) (msk_in (by omega))
theorem clerk_3 {a b : Int} {cl th dy sn : Int32} {kd pl pa kn sp ss : Nat → Int32} (h : 0 ≤ a ∧ a < cl.toInt) (hb : b = 3) : qClerk a b (mkM cl th dy sn kd pl pa kn sp ss) = 1000 + ntS pl pa kn th.toInt.toNat a.toNat cl.toInt.toNat := by
  unfold qClerk
  rw [if_neg (fun z => z h), if_neg (by omega), if_neg (by omega), if_neg (by omega), if_pos hb]
  exact congrArg (fun x => 1000 + x) (ntS_eq rows_in)
