/-! ===== bits and long numbers for pays(), read(), kept(), none() ===== -/
theorem and_le (x y : Int32) : 0 ≤ x.toInt → 0 ≤ (x &&& y).toInt ∧ (x &&& y).toInt ≤ x.toInt := by
  intro h0
  have hx : x.toInt = x.toBitVec.toInt := rfl
  have hz : (x &&& y).toInt = (x.toBitVec &&& y.toBitVec).toInt := rfl
  rw [hz]
  rw [hx] at h0 ⊢
  generalize x.toBitVec = a at h0 ⊢
  generalize y.toBitVec = b
  have h1 : (a &&& b).toNat ≤ a.toNat := by rw [BitVec.toNat_and]; exact Nat.and_le_left
  have h2 := a.isLt
  have h3 := (a &&& b).isLt
  rw [BitVec.toInt_eq_toNat_cond] at h0 ⊢
  rw [BitVec.toInt_eq_toNat_cond]
  split at h0
  · rename_i hc
    have hc2 : 2 * (a &&& b).toNat < 2 ^ 32 := by omega
    rw [if_pos hc2, if_pos hc]
    omega
  · omega
theorem or_tab : ∀ k : Fin 16, ∀ f : Fin 2, ∀ c : Fin 4, 0 ≤ ((nI k) ||| ((nI f) <<< ((nI c) &&& 31))).toInt ∧ ((nI k) ||| ((nI f) <<< ((nI c) &&& 31))).toInt ≤ 15 := by decide +kernel
theorem i32_nI {x : Int32} (h : 0 ≤ x.toInt) : x = nI x.toInt.toNat := by
  obtain ⟨k, hk, e⟩ := nI_of (x := x) (by rw [Int32.lt_iff_toInt_lt]; show ¬ x.toInt < 0; omega)
  subst e
  rw [nI_toInt hk]
  rfl
theorem or_le (x f c : Int32) : (0 ≤ x.toInt ∧ x.toInt ≤ 15) → (0 ≤ f.toInt ∧ f.toInt ≤ 1) → (0 ≤ c.toInt ∧ c.toInt ≤ 3) → 0 ≤ (x ||| (f <<< (c &&& 31))).toInt ∧ (x ||| (f <<< (c &&& 31))).toInt ≤ 15 := by
  intro hx hf hc
  have e1 := i32_nI hx.1
  have e2 := i32_nI hf.1
  have e3 := i32_nI hc.1
  have k1 : x.toInt.toNat < 16 := by omega
  have k2 : f.toInt.toNat < 2 := by omega
  have k3 : c.toInt.toNat < 4 := by omega
  rw [e1, e2, e3]
  exact or_tab ⟨x.toInt.toNat, k1⟩ ⟨f.toInt.toNat, k2⟩ ⟨c.toInt.toNat, k3⟩
theorem l_add (x y : Int64) : (-9223372036854775808 ≤ x.toInt + y.toInt ∧ x.toInt + y.toInt ≤ 9223372036854775807) → (x + y).toInt = x.toInt + y.toInt := by
  intro h
  rw [Int64.toInt_add]
  refine Int.bmod_eq_of_le ?_ ?_ <;> omega
/-- a product of so many twenties -/
noncomputable def k20 (x : Int64) (u : Int32) : Prop := 0 ≤ u.toInt ∧ u.toInt ≤ 10 ∧ 1 ≤ x.toInt ∧ x.toInt ≤ ((20 ^ u.toInt.toNat : Nat) : Int)
theorem k20_0 : k20 1 0 := by unfold k20; decide
theorem k20_ne {x : Int64} {u : Int32} (h : k20 x u) : ¬ x = 0 := lg_pos h.2.2.1
theorem k20_top : ∀ n : Nat, n ≤ 10 → (20 ^ n : Nat) ≤ 10240000000000 := by
  intro n hn
  have : n = 0 ∨ n = 1 ∨ n = 2 ∨ n = 3 ∨ n = 4 ∨ n = 5 ∨ n = 6 ∨ n = 7 ∨ n = 8 ∨ n = 9 ∨ n = 10 := by omega
  rcases this with rfl | rfl | rfl | rfl | rfl | rfl | rfl | rfl | rfl | rfl | rfl <;> decide
theorem k20_mul {x : Int64} {u : Int32} (h : k20 x u) (hu : u.toInt < 10) : k20 (x * 20) (u + 1) := by
  obtain ⟨h1, h2, h3, h4⟩ := h
  have e1 := ti_addK u (1 : Int32) 1 rfl (by omega)
  have ht := k20_top u.toInt.toNat (by omega)
  have e2 := l_mul20 x (by omega) (by omega)
  refine ⟨by omega, by omega, by omega, ?_⟩
  rw [show (u + 1).toInt.toNat = u.toInt.toNat + 1 by omega, Nat.pow_succ]
  generalize (20 ^ u.toInt.toNat : Nat) = p at h4 ht ⊢
  omega
theorem k20_one {x : Int64} {u : Int32} (h : k20 x u) (hu : u.toInt < 10) : k20 (x * 1) (u + 1) := by
  obtain ⟨h1, h2, h3, h4⟩ := h
  have e1 := ti_addK u (1 : Int32) 1 rfl (by omega)
  have e2 := l_mul1 x
  refine ⟨by omega, by omega, by omega, ?_⟩
  rw [show (u + 1).toInt.toNat = u.toInt.toNat + 1 by omega, Nat.pow_succ]
  generalize (20 ^ u.toInt.toNat : Nat) = p at h4 ⊢
  omega
