/-! ===== numbers: what an Int32 operation is as an Int ===== -/
theorem ti_rng (a : Int32) : -2147483648 ≤ a.toInt ∧ a.toInt ≤ 2147483647 := by
  have h1 := Int32.le_toInt a
  have h2 := Int32.toInt_lt a
  constructor <;> omega
theorem ti_bm (x : Int) : (x.bmod 4294967296 = x ∧ -2147483648 ≤ x ∧ x ≤ 2147483647) ∨ (¬ (-2147483648 ≤ x ∧ x ≤ 2147483647)) := by
  by_cases h : -2147483648 ≤ x ∧ x ≤ 2147483647
  · left
    refine ⟨?_, h⟩
    unfold Int.bmod
    dsimp only
    split <;> omega
  · exact Or.inr h
theorem ti_add (a b : Int32) : (-2147483648 ≤ a.toInt + b.toInt ∧ a.toInt + b.toInt ≤ 2147483647) → (a + b).toInt = a.toInt + b.toInt := by
  intro h
  rw [Int32.toInt_add]
  rcases ti_bm (a.toInt + b.toInt) with h1 | h1
  · exact h1.1
  · exact absurd h h1
theorem ti_sub (a b : Int32) : (-2147483648 ≤ a.toInt - b.toInt ∧ a.toInt - b.toInt ≤ 2147483647) → (a - b).toInt = a.toInt - b.toInt := by
  intro h
  rw [Int32.toInt_sub]
  rcases ti_bm (a.toInt - b.toInt) with h1 | h1
  · exact h1.1
  · exact absurd h h1
theorem ti_mulL (k : Int32) (kz : Int) (hk : k.toInt = kz) (b : Int32) : (-2147483648 ≤ kz * b.toInt ∧ kz * b.toInt ≤ 2147483647) → (k * b).toInt = kz * b.toInt := by
  intro h
  rw [Int32.toInt_mul, hk]
  rcases ti_bm (kz * b.toInt) with h1 | h1
  · exact h1.1
  · exact absurd h h1
theorem ti_mulR (k : Int32) (kz : Int) (hk : k.toInt = kz) (b : Int32) : (-2147483648 ≤ kz * b.toInt ∧ kz * b.toInt ≤ 2147483647) → (b * k).toInt = kz * b.toInt := by
  intro h
  rw [Int32.toInt_mul, hk, Int.mul_comm b.toInt kz]
  rcases ti_bm (kz * b.toInt) with h1 | h1
  · exact h1.1
  · exact absurd h h1
theorem ti_div (k : Int32) (kz : Int) (hk : k.toInt = kz) (a : Int32) (h0 : 0 < kz) : 0 ≤ a.toInt → (a / k).toInt = a.toInt / kz := by
  intro h
  obtain ⟨n, hn, e⟩ := nI_of (x := a) (by rw [Int32.lt_iff_toInt_lt]; show ¬ a.toInt < 0; omega)
  have hk2 : ¬ k < 0 := by rw [Int32.lt_iff_toInt_lt]; show ¬ k.toInt < 0; omega
  obtain ⟨d, hd, e2⟩ := nI_of (x := k) hk2
  subst e; subst e2
  rw [nI_toInt hd] at hk
  have hd0 : 0 < d := by omega
  rw [pk_div hn hd0 hd, nI_toInt (Nat.lt_of_le_of_lt (Nat.div_le_self n d) hn), nI_toInt hn, ← hk]
  exact Int.natCast_ediv n d
theorem ti_rem (k : Int32) (kz : Int) (hk : k.toInt = kz) (a : Int32) (h0 : 0 < kz) : 0 ≤ a.toInt → (a - a / k * k).toInt = a.toInt % kz := by
  intro h
  obtain ⟨n, hn, e⟩ := nI_of (x := a) (by rw [Int32.lt_iff_toInt_lt]; show ¬ a.toInt < 0; omega)
  have hk2 : ¬ k < 0 := by rw [Int32.lt_iff_toInt_lt]; show ¬ k.toInt < 0; omega
  obtain ⟨d, hd, e2⟩ := nI_of (x := k) hk2
  subst e; subst e2
  rw [nI_toInt hd] at hk
  have hd0 : 0 < d := by omega
  rw [pk_rem hn hd0 hd, nI_toInt (Nat.lt_of_le_of_lt (Nat.mod_le n d) hn), nI_toInt hn, ← hk]
  exact Int.natCast_emod n d
/-- what a Memory's numbers are held to: CLERKS, THREADS, SEEN -/
noncomputable def mq (b : Nat) (h : qm_H) : Prop := (0 ≤ (h b 6).toInt ∧ (h b 6).toInt ≤ 4) ∧ (0 ≤ (h b 7).toInt ∧ (h b 7).toInt ≤ 10) ∧ (0 ≤ (h b 9).toInt ∧ (h b 9).toInt ≤ 6)
/-- no SHEET has more than 40 CELLS -/
noncomputable def sq (h : qm_H) : Prop := ∀ j : Nat, (h 37 j).toInt ≤ 40
theorem i2c_rng (z : Int32) : 0 ≤ (z.toUInt32 % 65536).toInt32.toInt ∧ (z.toUInt32 % 65536).toInt32.toInt < 65536 := by
  rw [pk_char, nI_toInt (by omega)]
  omega
theorem rings_le (j : Nat) : 0 ≤ (qm_rings.getD j 0).toInt ∧ (qm_rings.getD j 0).toInt ≤ 4 := by
  have h1 : qm_rings.all (fun x => decide (0 ≤ x.toInt ∧ x.toInt ≤ 4)) = true := by decide +kernel
  by_cases hj : j < qm_rings.length
  · have h2 := List.all_eq_true.mp h1 (qm_rings.getD j 0) (by rw [List.getD_eq_getElem?_getD, List.getElem?_eq_getElem hj]; exact List.getElem_mem hj)
    exact of_decide_eq_true h2
  · rw [List.getD_eq_getElem?_getD, List.getElem?_eq_none (by omega)]
    decide
theorem bits_le (t : Int32) (h0 : 0 ≤ t.toInt) (h1 : t.toInt ≤ 10) : 0 ≤ ((1 <<< (t &&& 31)) - 1 : Int32).toInt ∧ ((1 <<< (t &&& 31)) - 1 : Int32).toInt ≤ 1023 := by
  obtain ⟨k, hk, e⟩ := nI_of (x := t) (by rw [Int32.lt_iff_toInt_lt]; show ¬ t.toInt < 0; omega)
  subst e
  rw [nI_toInt hk] at h1
  have h2 : k = 0 ∨ k = 1 ∨ k = 2 ∨ k = 3 ∨ k = 4 ∨ k = 5 ∨ k = 6 ∨ k = 7 ∨ k = 8 ∨ k = 9 ∨ k = 10 := by omega
  rcases h2 with rfl | rfl | rfl | rfl | rfl | rfl | rfl | rfl | rfl | rfl | rfl <;> decide
theorem sh_le (t : Int32) (h0 : 0 ≤ t.toInt) (h1 : t.toInt ≤ 4) : 1 ≤ (1 <<< (t &&& 31) : Int32).toInt ∧ (1 <<< (t &&& 31) : Int32).toInt ≤ 16 := by
  obtain ⟨k, hk, e⟩ := nI_of (x := t) (by rw [Int32.lt_iff_toInt_lt]; show ¬ t.toInt < 0; omega)
  subst e
  rw [nI_toInt hk] at h1
  have h2 : k = 0 ∨ k = 1 ∨ k = 2 ∨ k = 3 ∨ k = 4 := by omega
  rcases h2 with rfl | rfl | rfl | rfl | rfl <;> decide
theorem lg_ne {x : Int64} (h : ¬ lg_cmp x 0 = 0) : ¬ x = 0 := by
  intro e
  subst e
  exact h (by simp [lg_cmp])
theorem ti_n1 : (-1 : Int32).toInt = -1 := by decide
theorem ti_n2 : (-2 : Int32).toInt = -2 := by decide
theorem ti_n3 : (-3 : Int32).toInt = -3 := by decide
theorem ti_n4 : (-4 : Int32).toInt = -4 := by decide
theorem ti_n10 : (-10 : Int32).toInt = -10 := by decide
theorem ti_n20 : (-20 : Int32).toInt = -20 := by decide
theorem ti_addK (a k : Int32) (kz : Int) (hk : k.toInt = kz) : (-2147483648 ≤ a.toInt + kz ∧ a.toInt + kz ≤ 2147483647) → (a + k).toInt = a.toInt + kz := by
  subst hk; exact ti_add a k
theorem ti_addL (a k : Int32) (kz : Int) (hk : k.toInt = kz) : (-2147483648 ≤ kz + a.toInt ∧ kz + a.toInt ≤ 2147483647) → (k + a).toInt = kz + a.toInt := by
  subst hk; exact ti_add k a
theorem ti_subK (a k : Int32) (kz : Int) (hk : k.toInt = kz) : (-2147483648 ≤ a.toInt - kz ∧ a.toInt - kz ≤ 2147483647) → (a - k).toInt = a.toInt - kz := by
  subst hk; exact ti_sub a k
theorem ti_subL (a k : Int32) (kz : Int) (hk : k.toInt = kz) : (-2147483648 ≤ kz - a.toInt ∧ kz - a.toInt ≤ 2147483647) → (k - a).toInt = kz - a.toInt := by
  subst hk; exact ti_sub k a
theorem i64 (x : Int32) : x.toInt64.toInt = x.toInt := Int32.toInt_toInt64 x
theorem lg_cmp_i (x y : Int64) : ((lg_cmp x y).toInt < 0 ↔ x.toInt < y.toInt) ∧ (0 < (lg_cmp x y).toInt ↔ y.toInt < x.toInt) := by
  by_cases h1 : y < x
  · have e : lg_cmp x y = 1 := by simp [lg_cmp, h1]
    rw [e]
    rw [Int64.lt_iff_toInt_lt] at h1
    constructor
    · constructor
      · intro h; exact absurd h (by decide)
      · intro h; omega
    · constructor
      · intro _; exact h1
      · intro _; decide
  · by_cases h2 : x = y
    · subst h2
      have e : lg_cmp x x = 0 := by simp [lg_cmp]
      rw [e]
      constructor
      · constructor
        · intro h; exact absurd h (by decide)
        · intro h; omega
      · constructor
        · intro h; exact absurd h (by decide)
        · intro h; omega
    · have e : lg_cmp x y = -1 := by simp [lg_cmp, h1, h2]
      rw [e, ti_n1]
      rw [Int64.lt_iff_toInt_lt] at h1
      have h3 : x.toInt ≠ y.toInt := fun q => h2 (Int64.toInt_inj.mp q)
      constructor <;> omega
