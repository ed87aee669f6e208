/-! ===== clearing: the rings, what they take ===== -/
/-- a ring's size, its clerks (behind the last comes the first), the places of the debts along it -/
noncomputable def szT (k : Nat) : Nat := (qm_rings.getD (5 * k) 0).toInt.toNat
noncomputable def ckT (k i : Nat) : Nat := (qm_rings.getD (5 * k + 1 + (if i < szT k then i else 0)) 0).toInt.toNat
noncomputable def edT (k i : Nat) : Nat := 4 * ckT k i + ckT k (i + 1)
theorem rg_tab : ∀ k : Fin 20, (2 ≤ szT k.val ∧ szT k.val ≤ 4) ∧ (∀ i : Fin 5, ckT k.val i.val < 4) ∧ (∀ i : Fin 4, ∀ j : Fin 4, i.val < j.val → j.val < szT k.val → ¬ edT k.val i.val = edT k.val j.val) := by decide +kernel
theorem szT_r {k : Nat} (h : k < 20) : 2 ≤ szT k ∧ szT k ≤ 4 := (rg_tab ⟨k, h⟩).1
theorem ckT_lt {k i : Nat} (h : k < 20) (hi : i < 5) : ckT k i < 4 := (rg_tab ⟨k, h⟩).2.1 ⟨i, hi⟩
theorem edT_lt {k i : Nat} (h : k < 20) (hi : i < 4) : edT k i < 16 := by
  have a := ckT_lt (i := i) h (by omega)
  have b := ckT_lt (i := i + 1) h (by omega)
  unfold edT
  omega
theorem edT_ne {k i j : Nat} (h : k < 20) (hi : i < j) (hj : j < szT k) : ¬ edT k i = edT k j := by
  have a := szT_r h
  exact (rg_tab ⟨k, h⟩).2.2 ⟨i, by omega⟩ ⟨j, by omega⟩ hi hj
theorem sz_at {k : Nat} {x : Int} (h : x = 5 * (k : Int)) : (qm_rings.getD x.toNat 0).toInt = ((szT k : Nat) : Int) := by
  have a := rings_le (5 * k)
  rw [show x.toNat = 5 * k by omega]
  unfold szT
  omega
theorem ck_at {k i : Nat} {x : Int} (h : x = 5 * (k : Int) + 1 + (if i < szT k then (i : Int) else 0)) : (qm_rings.getD x.toNat 0).toInt = ((ckT k i : Nat) : Int) := by
  have e : x.toNat = 5 * k + 1 + (if i < szT k then i else 0) := by
    by_cases w : i < szT k
    · rw [if_pos w] at h
      rw [if_pos w]
      omega
    · rw [if_neg w] at h
      rw [if_neg w]
      omega
  have a := rings_le (5 * k + 1 + (if i < szT k then i else 0))
  rw [e]
  unfold ckT
  omega
theorem ck_y {k i : Nat} {x : Int} (hi : i < szT k) (h : x = 5 * (k : Int) + 1 + (i : Int)) : (qm_rings.getD x.toNat 0).toInt = ((ckT k i : Nat) : Int) := ck_at (by rw [if_pos hi]; exact h)
theorem ck_n {k i : Nat} {x : Int} (hi : ¬ i < szT k) (h : x = 5 * (k : Int) + 1) : (qm_rings.getD x.toNat 0).toInt = ((ckT k i : Nat) : Int) := ck_at (by rw [if_neg hi]; omega)
/-! the least debt along a ring, its gain, the best of the first rings -/
noncomputable def lsK (S : Nat → Int) (k : Nat) : Nat → Int
  | 0 => S (edT k 0)
  | n + 1 => if S (edT k (n + 1)) < lsK S k n then S (edT k (n + 1)) else lsK S k n
theorem lsK_y {S : Nat → Int} {k n : Nat} (h : S (edT k (n + 1)) < lsK S k n) : lsK S k (n + 1) = S (edT k (n + 1)) := if_pos h
theorem lsK_n {S : Nat → Int} {k n : Nat} (h : ¬ S (edT k (n + 1)) < lsK S k n) : lsK S k (n + 1) = lsK S k n := if_neg h
theorem lsK_le {S : Nat → Int} {k : Nat} : ∀ n i : Nat, i ≤ n → lsK S k n ≤ S (edT k i)
  | 0, i, h => by
    have e : i = 0 := by omega
    rw [e]
    exact Int.le_refl _
  | n + 1, i, h => by
    by_cases w : S (edT k (n + 1)) < lsK S k n
    · rw [lsK_y w]
      by_cases q : i = n + 1
      · rw [q]; exact Int.le_refl _
      · have := lsK_le (S := S) (k := k) n i (by omega)
        omega
    · rw [lsK_n w]
      by_cases q : i = n + 1
      · rw [q]; omega
      · exact lsK_le n i (by omega)
theorem lsK_ex {S : Nat → Int} {k : Nat} : ∀ n : Nat, ∃ i : Nat, i ≤ n ∧ lsK S k n = S (edT k i)
  | 0 => ⟨0, Nat.le_refl _, rfl⟩
  | n + 1 => by
    by_cases w : S (edT k (n + 1)) < lsK S k n
    · exact ⟨n + 1, Nat.le_refl _, lsK_y w⟩
    · obtain ⟨i, a, b⟩ := lsK_ex (S := S) (k := k) n
      exact ⟨i, by omega, (lsK_n w).trans b⟩
noncomputable def lsT (S : Nat → Int) (k : Nat) : Int := lsK S k (szT k - 1)
noncomputable def gnT (S : Nat → Int) (k : Nat) : Int := lsT S k * ((szT k : Nat) : Int)
theorem lsT_is {S : Nat → Int} {k : Nat} {v : Int} (hk : k < 20) (h1 : ∀ i : Nat, i < szT k → v ≤ S (edT k i)) (h2 : ∃ i : Nat, i < szT k ∧ v = S (edT k i)) : v = lsT S k := by
  have a := szT_r hk
  obtain ⟨i, i1, i2⟩ := h2
  obtain ⟨j, j1, j2⟩ := lsK_ex (S := S) (k := k) (szT k - 1)
  have b := lsK_le (S := S) (k := k) (szT k - 1) i (by omega)
  have c := h1 j (by omega)
  unfold lsT
  omega
theorem lsT_le {S : Nat → Int} {k i : Nat} (hi : i < szT k) : lsT S k ≤ S (edT k i) := lsK_le (szT k - 1) i (by omega)
theorem lsT_ex {S : Nat → Int} {k : Nat} (hk : k < 20) : ∃ i : Nat, i < szT k ∧ lsT S k = S (edT k i) := by
  have a := szT_r hk
  obtain ⟨j, j1, j2⟩ := lsK_ex (S := S) (k := k) (szT k - 1)
  exact ⟨j, by omega, j2⟩
/-- what is owed keeps between 0 and 90 -/
noncomputable def okS (S : Nat → Int) : Prop := ∀ j : Nat, j < 16 → 0 ≤ S j ∧ S j ≤ 90
theorem lsT_rg {S : Nat → Int} {k : Nat} (hk : k < 20) (h : okS S) : 0 ≤ lsT S k ∧ lsT S k ≤ 90 := by
  have a := szT_r hk
  obtain ⟨i, i1, i2⟩ := lsT_ex (S := S) hk
  rw [i2]
  exact h _ (edT_lt hk (by omega))
theorem mul_sz {x : Int} {n : Nat} (hn : 2 ≤ n ∧ n ≤ 4) : (n = 2 ∧ x * ((n : Nat) : Int) = 2 * x) ∨ (n = 3 ∧ x * ((n : Nat) : Int) = 3 * x) ∨ (n = 4 ∧ x * ((n : Nat) : Int) = 4 * x) := by
  have hn2 : n = 2 ∨ n = 3 ∨ n = 4 := by omega
  rcases hn2 with e | e | e
  · subst e; exact Or.inl ⟨rfl, Int.mul_comm _ _⟩
  · subst e; exact Or.inr (Or.inl ⟨rfl, Int.mul_comm _ _⟩)
  · subst e; exact Or.inr (Or.inr ⟨rfl, Int.mul_comm _ _⟩)
theorem gnT_rg {S : Nat → Int} {k : Nat} (hk : k < 20) (h : okS S) : (0 ≤ gnT S k ∧ gnT S k ≤ 360) ∧ (0 < gnT S k → 0 < lsT S k) := by
  have a := lsT_rg hk h
  have b := mul_sz (x := lsT S k) (szT_r hk)
  have e : gnT S k = lsT S k * ((szT k : Nat) : Int) := rfl
  exact ⟨by omega, fun w => by omega⟩
theorem gnT_mul {x y : Int32} {S : Nat → Int} {k : Nat} (hk : k < 20) (h : okS S) (hx : x.toInt = lsT S k) (hy : y.toInt = ((szT k : Nat) : Int)) : (x * y).toInt = gnT S k := by
  have a := lsT_rg hk h
  have c := szT_r hk
  have b := mul_sz (x := lsT S k) c
  unfold gnT
  have hn2 : szT k = 2 ∨ szT k = 3 ∨ szT k = 4 := by omega
  rcases hn2 with e | e | e
  · have := ti_mulR y 2 (by omega) x (by omega); omega
  · have := ti_mulR y 3 (by omega) x (by omega); omega
  · have := ti_mulR y 4 (by omega) x (by omega); omega
noncomputable def bgT (S : Nat → Int) : Nat → Nat × Int
  | 0 => (0, 0)
  | k + 1 => if (bgT S k).2 < gnT S k then (k, gnT S k) else bgT S k
theorem bgT_y {S : Nat → Int} {k : Nat} (h : (bgT S k).2 < gnT S k) : bgT S (k + 1) = (k, gnT S k) := if_pos h
theorem bgT_n {S : Nat → Int} {k : Nat} (h : ¬ (bgT S k).2 < gnT S k) : bgT S (k + 1) = bgT S k := if_neg h
theorem bgT_rg {S : Nat → Int} (h : okS S) : ∀ k : Nat, k ≤ 20 → ((bgT S k).1 < 20 ∧ (0 ≤ (bgT S k).2 ∧ (bgT S k).2 ≤ 360)) ∧ (0 < (bgT S k).2 → (bgT S k).2 = gnT S (bgT S k).1)
  | 0, _ => by
    refine ⟨⟨?_, ?_, ?_⟩, fun w => absurd w ?_⟩
    · show (0 : Nat) < 20; decide
    · show (0 : Int) ≤ 0; decide
    · show (0 : Int) ≤ 360; decide
    · show ¬ (0 : Int) < 0; decide
  | k + 1, q => by
    have a := bgT_rg h k (by omega)
    have b := (gnT_rg (k := k) (by omega) h).1
    by_cases w : (bgT S k).2 < gnT S k
    · rw [bgT_y w]
      exact ⟨⟨by show k < 20; omega, b⟩, fun _ => rfl⟩
    · rw [bgT_n w]
      exact a
theorem bgT_nn {S : Nat → Int} : ∀ k : Nat, 0 ≤ (bgT S k).2
  | 0 => by show (0 : Int) ≤ 0; decide
  | k + 1 => by
    have a := bgT_nn (S := S) k
    by_cases w : (bgT S k).2 < gnT S k
    · rw [bgT_y w]
      show 0 ≤ gnT S k
      omega
    · rw [bgT_n w]
      exact a
/-! what a ring takes -/
noncomputable def tkT (S : Nat → Int) (k : Nat) (v : Int) : Nat → Nat → Int
  | 0 => S
  | n + 1 => fun j => if j = edT k n then tkT S k v n j - v else tkT S k v n j
theorem tkT_at {S : Nat → Int} {k n : Nat} {v : Int} : tkT S k v (n + 1) (edT k n) = tkT S k v n (edT k n) - v := if_pos rfl
theorem tkT_ne {S : Nat → Int} {k n j : Nat} {v : Int} (h : ¬ j = edT k n) : tkT S k v (n + 1) j = tkT S k v n j := if_neg h
theorem tkT_out {S : Nat → Int} {k j : Nat} {v : Int} : ∀ n : Nat, (∀ i : Nat, i < n → ¬ j = edT k i) → tkT S k v n j = S j
  | 0, _ => rfl
  | n + 1, h => (tkT_ne (h n (Nat.lt_succ_self _))).trans (tkT_out n (fun i q => h i (by omega)))
theorem tkT_fresh {S : Nat → Int} {k n : Nat} {v : Int} (hk : k < 20) (hn : n < szT k) : tkT S k v n (edT k n) = S (edT k n) := tkT_out n (fun i q e => edT_ne hk q hn e.symm)
theorem tkT_in {S : Nat → Int} {k : Nat} {v : Int} (hk : k < 20) : ∀ n : Nat, n ≤ szT k → ∀ i : Nat, i < n → tkT S k v n (edT k i) = S (edT k i) - v
  | 0, _, i, h => absurd h (Nat.not_lt_zero _)
  | n + 1, hn, i, h => by
    by_cases w : i = n
    · subst w
      rw [tkT_at, tkT_fresh (n := i) hk (by omega)]
    · rw [tkT_ne (edT_ne (i := i) (j := n) hk (by omega) (by omega))]
      exact tkT_in hk n (by omega) i (by omega)
theorem tkT_or {S : Nat → Int} {k n j : Nat} {v : Int} (hk : k < 20) (hn : n ≤ szT k) : (tkT S k v n j = S j) ∨ (∃ i : Nat, i < n ∧ j = edT k i ∧ tkT S k v n j = S j - v) := by
  by_cases w : ∃ i : Nat, i < n ∧ j = edT k i
  · obtain ⟨i, a, b⟩ := w
    refine Or.inr ⟨i, a, b, ?_⟩
    rw [b]
    exact tkT_in hk n hn i a
  · exact Or.inl (tkT_out n (fun i a b => w ⟨i, a, b⟩))
theorem tkT_ok {S : Nat → Int} {k n : Nat} (hk : k < 20) (hn : n ≤ szT k) (h : okS S) : okS (tkT S k (lsT S k) n) := fun j hj => by
  have a := lsT_rg hk h
  have b := h j hj
  obtain q | ⟨i, i1, i2, i3⟩ := tkT_or (S := S) (v := lsT S k) (j := j) hk hn
  · rw [q]; exact b
  · have c := lsT_le (S := S) (k := k) (i := i) (by omega)
    rw [← i2] at c
    rw [i3]
    omega
noncomputable def tkA (S : Nat → Int) : Nat → Int := tkT S (bgT S 20).1 (lsT S (bgT S 20).1) (szT (bgT S 20).1)
theorem tkA_ok {S : Nat → Int} (h : okS S) : okS (tkA S) := tkT_ok (bgT_rg h 20 (by omega)).1.1 (Nat.le_refl _) h
/-- so many rings at most: how many, what is left -/
noncomputable def rnT : Nat → (Nat → Int) → Int × (Nat → Int)
  | 0, S => (0, S)
  | f + 1, S => if 0 < (bgT S 20).2 then ((rnT f (tkA S)).1 + 1, (rnT f (tkA S)).2) else (0, S)
theorem rnT_y {S : Nat → Int} {f : Nat} (h : 0 < (bgT S 20).2) : rnT (f + 1) S = ((rnT f (tkA S)).1 + 1, (rnT f (tkA S)).2) := if_pos h
theorem rnT_n {S : Nat → Int} (h : ¬ 0 < (bgT S 20).2) : ∀ f : Nat, rnT f S = (0, S)
  | 0 => rfl
  | _ + 1 => if_neg h
/-! the same debts, the same rings -/
theorem lsK_eq {S T : Nat → Int} {k : Nat} (h : ∀ j : Nat, j < 16 → S j = T j) (hk : k < 20) : ∀ n : Nat, n < 4 → lsK S k n = lsK T k n
  | 0, q => h _ (edT_lt hk q)
  | n + 1, q => by
    have a := lsK_eq h hk n (by omega)
    have b := h _ (edT_lt hk q)
    show (if S (edT k (n + 1)) < lsK S k n then S (edT k (n + 1)) else lsK S k n) = (if T (edT k (n + 1)) < lsK T k n then T (edT k (n + 1)) else lsK T k n)
    rw [a, b]
theorem lsT_eq {S T : Nat → Int} {k : Nat} (h : ∀ j : Nat, j < 16 → S j = T j) (hk : k < 20) : lsT S k = lsT T k := lsK_eq h hk _ (by have := szT_r hk; omega)
theorem bgT_eq {S T : Nat → Int} (h : ∀ j : Nat, j < 16 → S j = T j) : ∀ k : Nat, k ≤ 20 → bgT S k = bgT T k
  | 0, _ => rfl
  | k + 1, q => by
    have a := bgT_eq h k (by omega)
    have b : gnT S k = gnT T k := by unfold gnT; rw [lsT_eq h (by omega)]
    show (if (bgT S k).2 < gnT S k then (k, gnT S k) else bgT S k) = (if (bgT T k).2 < gnT T k then (k, gnT T k) else bgT T k)
    rw [a, b]
theorem tkT_eq {S T : Nat → Int} {k j : Nat} {v : Int} (h : S j = T j) : ∀ n : Nat, tkT S k v n j = tkT T k v n j
  | 0 => h
  | n + 1 => by
    have a := tkT_eq (k := k) (v := v) h n
    show (if j = edT k n then tkT S k v n j - v else tkT S k v n j) = (if j = edT k n then tkT T k v n j - v else tkT T k v n j)
    rw [a]
theorem tkA_eq {S T : Nat → Int} (o : okS S) (h : ∀ j : Nat, j < 16 → S j = T j) (j : Nat) (hj : j < 16) : tkA S j = tkA T j := by
  have a := bgT_eq h 20 (Nat.le_refl _)
  have b := bgT_rg o 20 (Nat.le_refl _)
  unfold tkA
  rw [← a, ← lsT_eq h b.1.1]
  exact tkT_eq (h j hj) _
theorem rnT_eq : ∀ (f : Nat) (S T : Nat → Int), okS S → (∀ j : Nat, j < 16 → S j = T j) → (rnT f S).1 = (rnT f T).1 ∧ ∀ j : Nat, j < 16 → (rnT f S).2 j = (rnT f T).2 j
  | 0, S, T, _, h => ⟨show (0 : Int) = 0 from rfl, h⟩
  | f + 1, S, T, o, h => by
    have a := bgT_eq h 20 (Nat.le_refl _)
    by_cases w : 0 < (bgT S 20).2
    · have b := rnT_eq f (tkA S) (tkA T) (tkA_ok o) (tkA_eq o h)
      have w2 : 0 < (bgT T 20).2 := by rw [← a]; exact w
      rw [rnT_y w, rnT_y w2]
      refine ⟨?_, b.2⟩
      show (rnT f (tkA S)).1 + 1 = (rnT f (tkA T)).1 + 1
      rw [b.1]
    · have w2 : ¬ 0 < (bgT T 20).2 := by rw [← a]; exact w
      rw [rnT_n w, rnT_n w2]
      exact ⟨rfl, h⟩
theorem rnT_ok : ∀ (f : Nat) (S : Nat → Int), okS S → okS (rnT f S).2
  | 0, _, o => o
  | f + 1, S, o => by
    by_cases w : 0 < (bgT S 20).2
    · rw [rnT_y w]
      exact rnT_ok f (tkA S) (tkA_ok o)
    · rw [rnT_n w]
      exact o
/-! each ring taken leaves a debt less -/
noncomputable def onT (S : Nat → Int) (j : Nat) : Nat := if 0 < S j then 1 else 0
theorem onT_r {S : Nat → Int} {j : Nat} : onT S j ≤ 1 := by
  unfold onT
  split <;> omega
theorem onT_y {S : Nat → Int} {j : Nat} (h : 0 < S j) : onT S j = 1 := if_pos h
theorem onT_n {S : Nat → Int} {j : Nat} (h : ¬ 0 < S j) : onT S j = 0 := if_neg h
theorem onT_le {S T : Nat → Int} {j : Nat} (h : S j ≤ T j) : onT S j ≤ onT T j := by
  by_cases w : 0 < S j
  · rw [onT_y w, onT_y (by omega)]
    exact Nat.le_refl _
  · rw [onT_n w]
    exact Nat.zero_le _
noncomputable def psT (S : Nat → Int) : Nat → Nat
  | 0 => 0
  | n + 1 => psT S n + onT S n
theorem psT_le {S T : Nat → Int} : ∀ n : Nat, (∀ j : Nat, j < n → S j ≤ T j) → psT S n ≤ psT T n
  | 0, _ => Nat.le_refl _
  | n + 1, h => by
    have a := psT_le n (fun j q => h j (by omega))
    have b := onT_le (h n (Nat.lt_succ_self _))
    show psT S n + onT S n ≤ psT T n + onT T n
    omega
theorem psT_lt {S T : Nat → Int} {i : Nat} (h1 : ¬ 0 < S i) (h2 : 0 < T i) : ∀ n : Nat, i < n → (∀ j : Nat, j < n → S j ≤ T j) → psT S n < psT T n
  | 0, q, _ => absurd q (Nat.not_lt_zero _)
  | n + 1, q, h => by
    show psT S n + onT S n < psT T n + onT T n
    by_cases w : i = n
    · subst w
      have a := psT_le i (fun j q => h j (by omega))
      rw [onT_n h1, onT_y h2]
      omega
    · have a := psT_lt h1 h2 n (by omega) (fun j q => h j (by omega))
      have b := onT_le (h n (Nat.lt_succ_self _))
      omega
theorem ps_tk {S : Nat → Int} (o : okS S) (h : 0 < (bgT S 20).2) : psT (tkA S) 16 < psT S 16 := by
  have b := bgT_rg o 20 (Nat.le_refl _)
  have l0 := (gnT_rg b.1.1 o).2 (by rw [← b.2 h]; exact h)
  have sz := szT_r b.1.1
  obtain ⟨i, i1, i2⟩ := lsT_ex (S := S) b.1.1
  have e : tkA S (edT (bgT S 20).1 i) = S (edT (bgT S 20).1 i) - lsT S (bgT S 20).1 := tkT_in b.1.1 _ (Nat.le_refl _) i i1
  refine psT_lt (i := edT (bgT S 20).1 i) (by omega) (by omega) 16 (edT_lt b.1.1 (by omega)) (fun j hj => ?_)
  obtain q | ⟨i, i1, i2, i3⟩ := tkT_or (S := S) (v := lsT S (bgT S 20).1) (j := j) b.1.1 (Nat.le_refl _)
  · exact Int.le_of_eq q
  · have q3 : tkA S j = S j - lsT S (bgT S 20).1 := i3
    omega
theorem ps12 {S : Nat → Int} (h0 : S 0 = 0) (h1 : S 5 = 0) (h2 : S 10 = 0) (h3 : S 15 = 0) : psT S 16 ≤ 12 := by
  have a0 := onT_n (S := S) (j := 0) (by omega)
  have a1 := onT_n (S := S) (j := 5) (by omega)
  have a2 := onT_n (S := S) (j := 10) (by omega)
  have a3 := onT_n (S := S) (j := 15) (by omega)
  have b := fun j : Nat => onT_r (S := S) (j := j)
  have b1 := b 1
  have b2 := b 2
  have b3 := b 3
  have b4 := b 4
  have b6 := b 6
  have b7 := b 7
  have b8 := b 8
  have b9 := b 9
  have b11 := b 11
  have b12 := b 12
  have b13 := b 13
  have b14 := b 14
  show 0 + onT S 0 + onT S 1 + onT S 2 + onT S 3 + onT S 4 + onT S 5 + onT S 6 + onT S 7 + onT S 8 + onT S 9 + onT S 10 + onT S 11 + onT S 12 + onT S 13 + onT S 14 + onT S 15 ≤ 12
  omega
/-! what the threads owe -/
noncomputable def s0S (pl pa kn : Nat → Int32) (n : Nat) (j : Nat) : Int := owS pl pa kn (10 * ((j / 4 : Nat) : Int) + ((j % 4 : Nat) : Int)) 9 n
theorem s0S_at {pl pa kn : Nat → Int32} {n x y : Nat} (hy : y < 4) : s0S pl pa kn n (4 * x + y) = owS pl pa kn (10 * (x : Int) + (y : Int)) 9 n := by
  unfold s0S
  rw [show (4 * x + y) / 4 = x by omega, show (4 * x + y) % 4 = y by omega]
theorem s0S_eq {pl pa kn pl2 pa2 kn2 : Nat → Int32} {n : Nat} (h : ∀ j : Nat, j < n → pl j = pl2 j ∧ pa j = pa2 j ∧ kn j = kn2 j) : s0S pl pa kn n = s0S pl2 pa2 kn2 n := funext fun _ => owS_eq h
theorem s0S_ok {pl pa kn : Nat → Int32} {n : Nat} (hn : n ≤ 10) (h : ∀ j : Nat, j < n → 0 ≤ (kn j).toInt ∧ (kn j).toInt ≤ 99) : okS (s0S pl pa kn n) := fun j _ => by
  have a := owS_rng (pl := pl) (pa := pa) (p := 10 * ((j / 4 : Nat) : Int) + ((j % 4 : Nat) : Int)) (d := 9) h
  unfold s0S
  omega
theorem owS_z {pl pa kn : Nat → Int32} {p d : Int} : ∀ n : Nat, (∀ t : Nat, t < n → ¬ (pa t).toInt = p) → owS pl pa kn p d n = 0
  | 0, _ => rfl
  | n + 1, h => by
    have a := owS_z (pl := pl) (pa := pa) (kn := kn) (p := p) (d := d) n (fun t q => h t (by omega))
    have b : owT pl pa kn p d n = 0 := ifP_f (fun w => h n (Nat.lt_succ_self _) w.1)
    show owS pl pa kn p d n + owT pl pa kn p d n = 0
    omega
theorem wf_pr {cl th dy sn : Int32} {kd pl pa kn sp ss : Nat → Int32} (h : wfM (mkM cl th dy sn kd pl pa kn sp ss)) : ∀ t : Nat, t < th.toInt.toNat → (0 ≤ (pa t).toInt ∧ (pa t).toInt / 10 < cl.toInt ∧ (pa t).toInt % 10 < cl.toInt) ∧ ¬ (pa t).toInt / 10 = (pa t).toInt % 10 := fun t q => by
  have := ((wf_raw h).2.2.1 t (by omega)).2.1
  unfold okPr at this
  exact ⟨⟨this.1, this.2.1, this.2.2.1⟩, this.2.2.2⟩
/-- who is not there owes nothing -/
noncomputable def zrS (S : Nat → Int) (cl : Int) : Prop := ∀ x y : Nat, x < 4 → y < 4 → cl ≤ (x : Int) → S (4 * x + y) = 0
theorem s0S_zr {pl pa kn : Nat → Int32} {n : Nat} {cl : Int} (h : ∀ t : Nat, t < n → (0 ≤ (pa t).toInt ∧ (pa t).toInt / 10 < cl ∧ (pa t).toInt % 10 < cl) ∧ ¬ (pa t).toInt / 10 = (pa t).toInt % 10) : zrS (s0S pl pa kn n) cl := fun x y hx hy hc => by
  rw [s0S_at hy]
  exact owS_z n (fun t q e => by have := h t q; omega)
theorem s0S_12 {pl pa kn : Nat → Int32} {n : Nat} {cl : Int} (h : ∀ t : Nat, t < n → (0 ≤ (pa t).toInt ∧ (pa t).toInt / 10 < cl ∧ (pa t).toInt % 10 < cl) ∧ ¬ (pa t).toInt / 10 = (pa t).toInt % 10) : psT (s0S pl pa kn n) 16 ≤ 12 :=
  ps12 (owS_z n (fun t q e => by have := h t q; omega)) (owS_z n (fun t q e => by have := h t q; omega)) (owS_z n (fun t q e => by have := h t q; omega)) (owS_z n (fun t q e => by have := h t q; omega))
theorem owI_s0 {pl pa kn : Nat → Int32} {n : Nat} {f : Nat → Int32} (h : owI pl pa kn 9 n f) : ∀ j : Nat, j < 16 → (f j).toInt = s0S pl pa kn n j := fun j hj => by
  have e := h (j / 4) (j % 4) (by omega) (by omega)
  rw [show 4 * (j / 4) + j % 4 = j by omega] at e
  exact e
theorem zrS_tk {S : Nat → Int} {cl : Int} (o : okS S) (h : zrS S cl) : zrS (tkA S) cl := fun x y hx hy hc => by
  have a := h x y hx hy hc
  have b := tkA_ok o (4 * x + y) (by omega)
  have c := bgT_rg o 20 (Nat.le_refl _)
  have d := lsT_rg c.1.1 o
  obtain q | ⟨i, i1, i2, i3⟩ := tkT_or (S := S) (v := lsT S (bgT S 20).1) (j := 4 * x + y) c.1.1 (Nat.le_refl _)
  · exact q.trans a
  · have q3 : tkA S (4 * x + y) = S (4 * x + y) - lsT S (bgT S 20).1 := i3
    omega
/-! the answers -/
noncomputable def s0M (M : Mem) : Nat → Int := s0S (plM M) (paM M) (knM M) (thM M).toInt.toNat
theorem s0M_mk {cl th dy sn : Int32} {kd pl pa kn sp ss : Nat → Int32} : s0M (mkM cl th dy sn kd pl pa kn sp ss) = s0S pl pa kn th.toInt.toNat := s0S_eq rows_in
noncomputable def qClear (a : Int) (M : Mem) : Int := if ¬ (0 ≤ a ∧ a ≤ 1) then -1 else if a = 0 then sumI (rnT 12 (s0M M)).2 16 else (rnT 12 (s0M M)).1
noncomputable def qLeft (p : Int) (M : Mem) : Int := if ¬ (0 ≤ p ∧ p / 10 < (clM M).toInt ∧ p % 10 < (clM M).toInt ∧ ¬ p / 10 = p % 10) then -1 else (rnT 12 (s0M M)).2 (4 * (p / 10).toNat + (p % 10).toNat)
theorem clear_no {a : Int} {M : Mem} (h : ¬ (0 ≤ a ∧ a ≤ 1)) : qClear a M = -1 := if_pos h
theorem clear_0 {cl th dy sn : Int32} {kd pl pa kn sp ss : Nat → Int32} {a : Int} (h : a = 0) : qClear a (mkM cl th dy sn kd pl pa kn sp ss) = sumI (rnT 12 (s0S pl pa kn th.toInt.toNat)).2 16 := by
  unfold qClear
  rw [if_neg (by omega), if_pos h, s0M_mk]
theorem clear_1 {cl th dy sn : Int32} {kd pl pa kn sp ss : Nat → Int32} {a : Int} (h : a = 1) : qClear a (mkM cl th dy sn kd pl pa kn sp ss) = (rnT 12 (s0S pl pa kn th.toInt.toNat)).1 := by
  unfold qClear
  rw [if_neg (by omega), if_neg (by omega), s0M_mk]
theorem left_no {p : Int} {cl th dy sn : Int32} {kd pl pa kn sp ss : Nat → Int32} (h : ¬ (0 ≤ p ∧ p / 10 < cl.toInt ∧ p % 10 < cl.toInt ∧ ¬ p / 10 = p % 10)) : qLeft p (mkM cl th dy sn kd pl pa kn sp ss) = -1 := if_pos h
theorem left_ok {p : Int} {cl th dy sn : Int32} {kd pl pa kn sp ss : Nat → Int32} (h : 0 ≤ p ∧ p / 10 < cl.toInt ∧ p % 10 < cl.toInt ∧ ¬ p / 10 = p % 10) : qLeft p (mkM cl th dy sn kd pl pa kn sp ss) = (rnT 12 (s0S pl pa kn th.toInt.toNat)).2 (4 * (p / 10).toNat + (p % 10).toNat) := by
  have q : ¬ ¬ (0 ≤ p ∧ p / 10 < (clM (mkM cl th dy sn kd pl pa kn sp ss)).toInt ∧ p % 10 < (clM (mkM cl th dy sn kd pl pa kn sp ss)).toInt ∧ ¬ p / 10 = p % 10) := fun w => w h
  exact (if_neg q).trans (by rw [s0M_mk])
/-! the reference's codes: which are rings, which ring each is -/
noncomputable def vR (cl : Int) (n c m : Nat) : Prop := ∀ i : Nat, i < m → ((dg n c i : Nat) : Int) < cl ∧ (0 < i → dg n c 0 < dg n c i) ∧ ∀ k : Nat, 0 < k → k < i → ¬ dg n c i = dg n c k
noncomputable def v4 (n c : Nat) : Bool := decide (∀ i : Nat, i < n → (0 < i → dg n c 0 < dg n c i) ∧ ∀ k : Nat, k < i → 0 < k → ¬ dg n c i = dg n c k)
noncomputable def okT (n c k : Nat) : Bool := decide ((k < 20 ∧ szT k = n) ∧ ∀ i : Nat, i < n + 1 → ckT k i = dg n c (i % n))
noncomputable def chT (n e : Nat) : Nat → Nat → Nat → Bool
  | 0, _, k => decide (k = e)
  | f + 1, c, k => if v4 n c = true then okT n c k && chT n e f (c + 1) (k + 1) else chT n e f (c + 1) k
theorem chT_y {n e f c k : Nat} (v : v4 n c = true) (h : chT n e (f + 1) c k = true) : okT n c k = true ∧ chT n e f (c + 1) (k + 1) = true := by
  have q : chT n e (f + 1) c k = (okT n c k && chT n e f (c + 1) (k + 1)) := if_pos v
  rw [q, Bool.and_eq_true] at h
  exact h
theorem chT_n {n e f c k : Nat} (v : ¬ v4 n c = true) (h : chT n e (f + 1) c k = true) : chT n e f (c + 1) k = true := by
  have q : chT n e (f + 1) c k = chT n e f (c + 1) k := if_neg v
  rw [q] at h
  exact h
noncomputable def stT (n : Nat) : Nat := if n = 2 then 0 else if n = 3 then 6 else if n = 4 then 14 else 20
theorem ch_tab : chT 2 (stT 3) 16 0 (stT 2) = true ∧ chT 3 (stT 4) 64 0 (stT 3) = true ∧ chT 4 (stT 5) 256 0 (stT 4) = true := by decide +kernel
theorem ch_at {n : Nat} (h : 2 ≤ n ∧ n ≤ 4) : chT n (stT (n + 1)) (4 ^ n) 0 (stT n) = true := by
  have hn : n = 2 ∨ n = 3 ∨ n = 4 := by omega
  rcases hn with e | e | e
  · subst e; exact ch_tab.1
  · subst e; exact ch_tab.2.1
  · subst e; exact ch_tab.2.2
theorem okT_p {n c k : Nat} (h : okT n c k = true) : (k < 20 ∧ szT k = n) ∧ ∀ i : Nat, i < n + 1 → ckT k i = dg n c (i % n) := of_decide_eq_true h
theorem okT_pz {n c k i : Nat} (h : okT n c k = true) (hi : i < n) : pz n c i = edT k i := by
  have a := okT_p h
  have b := a.2 i (by omega)
  have d := a.2 (i + 1) (by omega)
  rw [Nat.mod_eq_of_lt hi] at b
  unfold pz edT
  rw [b, d]
theorem v4_of {cl : Int} {n c : Nat} (h : vR cl n c n) : v4 n c = true := decide_eq_true (fun i q => ⟨(h i q).2.1, fun k a b => (h i q).2.2 k b a⟩)
theorem v4_no {cl : Int} {n c : Nat} (v : v4 n c = true) (h : ¬ vR cl n c n) : ∃ i : Nat, i < n ∧ cl ≤ ((dg n c i : Nat) : Int) := by
  have v2 : ∀ i : Nat, i < n → (0 < i → dg n c 0 < dg n c i) ∧ ∀ k : Nat, k < i → 0 < k → ¬ dg n c i = dg n c k := of_decide_eq_true v
  by_cases w : ∃ i : Nat, i < n ∧ cl ≤ ((dg n c i : Nat) : Int)
  · exact w
  · exact absurd (show vR cl n c n from fun i q => ⟨by have z : ¬ cl ≤ ((dg n c i : Nat) : Int) := fun z => w ⟨i, q, z⟩; omega, (v2 i q).1, fun k a b => (v2 i q).2 k b a⟩) h
/-- a code more -/
theorem ch_step {S : Nat → Int} {cl : Int} {n e f c k : Nat} {x : Int} (o : okS S) (z : zrS S cl) (h : chT n e (f + 1) c k = true) (hx : (vR cl n c n ∧ ∃ y : Int, x = y * ((n : Nat) : Int) ∧ (∀ i : Nat, i < n → y ≤ S (pz n c i)) ∧ ∃ i : Nat, i < n ∧ y = S (pz n c i)) ∨ (¬ vR cl n c n ∧ x = 0)) : ∃ k2 : Nat, chT n e f (c + 1) k2 = true ∧ ((k2 = k ∧ x = 0) ∨ (k2 = k + 1 ∧ okT n c k = true ∧ ((x = gnT S k) ∨ (x = 0 ∧ gnT S k = 0)))) := by
  by_cases v : v4 n c = true
  · obtain ⟨a, b⟩ := chT_y v h
    have a2 := okT_p a
    have sn := a2.1.2
    obtain ⟨p, y, y1, y2, i, y3, y4⟩ | ⟨p, q⟩ := hx
    · refine ⟨k + 1, b, Or.inr ⟨rfl, a, Or.inl ?_⟩⟩
      have e1 : y = lsT S k := lsT_is a2.1.1 (fun j hj => by rw [a2.1.2] at hj; rw [← okT_pz a hj]; exact y2 j hj) ⟨i, by rw [a2.1.2]; exact y3, by rw [← okT_pz a y3]; exact y4⟩
      unfold gnT
      rw [y1, e1, a2.1.2]
    · refine ⟨k + 1, b, Or.inr ⟨rfl, a, Or.inr ⟨q, ?_⟩⟩⟩
      obtain ⟨i, i1, i2⟩ := v4_no v p
      have sz := szT_r a2.1.1
      have d := a2.2 i (by omega)
      rw [Nat.mod_eq_of_lt i1] at d
      have g1 := z (ckT k i) (ckT k (i + 1)) (ckT_lt a2.1.1 (by omega)) (ckT_lt a2.1.1 (by omega)) (by rw [d]; exact i2)
      have g2 : lsT S k ≤ S (edT k i) := lsT_le (by omega)
      have g3 : S (edT k i) = 0 := g1
      have g4 := lsT_rg a2.1.1 o
      unfold gnT
      rw [show lsT S k = 0 by omega, Int.zero_mul]
  · have q := chT_n v h
    obtain ⟨p, _⟩ | ⟨_, p⟩ := hx
    · exact absurd (v4_of p) v
    · exact ⟨k, q, Or.inl ⟨rfl, p⟩⟩
/-! the class's rows -/
noncomputable def fI (f : Nat → Int32) (j : Nat) : Int := (f j).toInt
theorem ed_x {k i : Nat} {x y : Int32} (hx : x.toInt = ((ckT k i : Nat) : Int)) (hy : y.toInt = ((ckT k (i + 1) : Nat) : Int)) : 4 * x.toInt.toNat + y.toInt.toNat = edT k i := by
  unfold edT
  omega
theorem lsK_m {S : Nat → Int} {k n : Nat} {x y r : Int} (hx : x = lsK S k n) (hy : y = S (edT k (n + 1))) (hr : (x ≤ y ∧ r = x) ∨ (y < x ∧ r = y)) : r = lsK S k (n + 1) := by
  by_cases w : S (edT k (n + 1)) < lsK S k n
  · rw [lsK_y w]; omega
  · rw [lsK_n w]; omega
theorem bg_0 {S : Nat → Int} {k : Nat} (hk : k = 0) : (0 : Int) = 5 * (((bgT S k).1 : Nat) : Int) ∧ (0 : Int) = (bgT S k).2 := by
  subst hk
  exact ⟨show (0 : Int) = 5 * ((0 : Nat) : Int) from rfl, show (0 : Int) = 0 from rfl⟩
theorem bg_y {S : Nat → Int} {k k2 : Nat} {x y : Int} (hk : k2 = k + 1) (h : (bgT S k).2 < y) (hy : y = gnT S k) (hx : x = 5 * ((k : Nat) : Int)) : x = 5 * (((bgT S k2).1 : Nat) : Int) ∧ y = (bgT S k2).2 := by
  subst hk
  rw [bgT_y (by omega)]
  exact ⟨hx, hy⟩
theorem bg_n {S : Nat → Int} {k k2 : Nat} {x y z : Int} (hk : k2 = k + 1) (h : z ≤ (bgT S k).2) (hz : z = gnT S k) (hx : x = 5 * (((bgT S k).1 : Nat) : Int)) (hy : y = (bgT S k).2) : x = 5 * (((bgT S k2).1 : Nat) : Int) ∧ y = (bgT S k2).2 := by
  subst hk
  rw [bgT_n (by omega)]
  exact ⟨hx, hy⟩
theorem bg_20 {S : Nat → Int} {k : Nat} {x y : Int} (hk : k = 20) (h : x = 5 * (((bgT S k).1 : Nat) : Int) ∧ y = (bgT S k).2) : x = 5 * (((bgT S 20).1 : Nat) : Int) ∧ y = (bgT S 20).2 := by
  subst hk
  exact h
noncomputable def tkI (S : Nat → Int) (k n : Nat) (f : Nat → Int32) : Prop := ∀ j : Nat, j < 16 → (f j).toInt = tkT S k (lsT S k) n j
theorem tkI_0 {k n : Nat} {f : Nat → Int32} (hn : n = 0) : tkI (fI f) k n f := fun j _ => by
  subst hn
  rfl
theorem tkI_s {S : Nat → Int} {k n n2 e : Nat} {f g : Nat → Int32} {l : Int32} (o : okS S) (hk : k < 20) (hn : n < szT k) (hn2 : n2 = n + 1) (h : tkI S k n f) (he : e = edT k n) (hl : l.toInt = lsT S k) (hg : g = upd f e (f e - l)) : tkI S k n2 g := fun j hj => by
  have a := szT_r hk
  have b := edT_lt (i := n) hk (by omega)
  have c := o _ b
  have d := h _ b
  have v := lsT_rg hk o
  rw [tkT_fresh (n := n) hk hn, ← he] at d
  have s := ti_sub (f e) l (by rw [← he] at c; omega)
  subst hn2
  rw [hg]
  unfold upd
  by_cases w : j = e
  · rw [if_pos w, s, w, he, tkT_at, tkT_fresh (n := n) hk hn, ← he]
    omega
  · rw [if_neg w, tkT_ne (by rw [← he]; exact w)]
    exact h j hj
noncomputable def rnI (S : Nat → Int) (R : Int × (Nat → Int)) (n : Nat) (m : Int) : Prop := okS S ∧ R.1 = (rnT n S).1 + m ∧ ∀ j : Nat, j < 16 → R.2 j = (rnT n S).2 j
theorem rnI_0 {S : Nat → Int} {n : Nat} {m : Int} (o : okS S) (hn : n = 12) (hm : m = 0) : rnI S (rnT 12 S) n m := by
  subst hn
  subst hm
  exact ⟨o, (Int.add_zero _).symm, fun _ _ => rfl⟩
theorem rnI_s {S T : Nat → Int} {R : Int × (Nat → Int)} {n n2 k : Nat} {m m2 : Int} {f : Nat → Int32} (h : rnI S R n m) (hb : 0 < (bgT S 20).2) (hn : n = n2 + 1) (hm : m2 = m + 1) (hk : k = (bgT S 20).1) (ht : tkI S k (szT k) f) (hT : T = fI f) : rnI T R n2 m2 := by
  subst hn
  subst hm
  subst hk
  subst hT
  obtain ⟨o, a, b⟩ := h
  rw [rnT_y hb] at a b
  have q : ∀ j : Nat, j < 16 → tkA S j = fI f j := fun j hj => (ht j hj).symm
  have r := rnT_eq n2 (tkA S) (fI f) (tkA_ok o) q
  refine ⟨fun j hj => by rw [← q j hj]; exact tkA_ok o j hj, ?_, fun j hj => (b j hj).trans (r.2 j hj)⟩
  rw [a, ← r.1]
  show (rnT n2 (tkA S)).1 + 1 + m = (rnT n2 (tkA S)).1 + (m + 1)
  omega
theorem rnI_z {f : Nat → Int32} {R : Int × (Nat → Int)} {n : Nat} {m : Int} (h : rnI (fI f) R n m) (hz : n = 0 ∨ ¬ 0 < (bgT (fI f) 20).2) : m = R.1 ∧ ∀ j : Nat, j < 16 → (f j).toInt = R.2 j := by
  obtain ⟨o, a, b⟩ := h
  have e : rnT n (fI f) = (0, fI f) := by
    obtain q | q := hz
    · rw [q]; rfl
    · exact rnT_n q n
  rw [e] at a b
  refine ⟨?_, fun j hj => (b j hj).symm⟩
  rw [a]
  show m = 0 + m
  omega
theorem sm_ok {S : Nat → Int} (o : okS S) : ∀ n : Nat, n ≤ 16 → 0 ≤ sumI S n ∧ sumI S n ≤ 90 * (n : Int)
  | 0, _ => ⟨show (0 : Int) ≤ 0 from Int.le_refl _, show (0 : Int) ≤ 90 * ((0 : Nat) : Int) from by decide⟩
  | n + 1, h => by
    have a := sm_ok o n (by omega)
    have b := o n (by omega)
    rw [sumI_s]
    omega
noncomputable def bgI (pl pa kn : Nat → Int32) (n : Nat) (m : Int) (f : Nat → Int32) : Prop := ∀ j : Nat, (j : Int) < m → (f j).toInt = s0S pl pa kn n j
theorem bgI_0 {pl pa kn f : Nat → Int32} {n : Nat} {m : Int} (hm : m = 0) : bgI pl pa kn n m f := fun j hj => by omega
theorem bgI_s {pl pa kn f g : Nat → Int32} {n e x y : Nat} {m m2 p : Int} {v : Int32} (h : bgI pl pa kn n m f) (hy : y < 4) (hp : p = 10 * (x : Int) + (y : Int)) (he : (e : Int) = 4 * (x : Int) + (y : Int)) (hm : (e : Int) = m) (hm2 : m2 = m + 1) (hv : v.toInt = owS pl pa kn p 9 n) (hg : g = upd f e v) : bgI pl pa kn n m2 g := fun j hj => by
  rw [hg]
  unfold upd
  by_cases w : j = e
  · rw [if_pos w, w, hv, hp, show e = 4 * x + y by omega]
    exact (s0S_at hy).symm
  · rw [if_neg w]
    exact h j (by omega)
theorem bgI_ok {pl pa kn f : Nat → Int32} {n : Nat} {m : Int} (h : bgI pl pa kn n m f) (hm : m = 16) (o : okS (s0S pl pa kn n)) : okS (fI f) := fun j hj => by
  have a := o j hj
  have b := h j (by omega)
  show 0 ≤ (f j).toInt ∧ (f j).toInt ≤ 90
  omega
theorem rn_s0 {pl pa kn f g : Nat → Int32} {n : Nat} {x : Int} (h : bgI pl pa kn n 16 f) (o : okS (s0S pl pa kn n)) (a : x = (rnT 12 (fI f)).1 ∧ ∀ j : Nat, j < 16 → (g j).toInt = (rnT 12 (fI f)).2 j) : x = (rnT 12 (s0S pl pa kn n)).1 ∧ ∀ j : Nat, j < 16 → (g j).toInt = (rnT 12 (s0S pl pa kn n)).2 j := by
  have r := rnT_eq 12 (s0S pl pa kn n) (fI f) o (fun j hj => (h j (by omega)).symm)
  exact ⟨a.1.trans r.1.symm, fun j hj => (a.2 j hj).trans (r.2 j hj).symm⟩
theorem rn_okf {f g : Nat → Int32} (o : okS (fI f)) (a : ∀ j : Nat, j < 16 → (g j).toInt = (rnT 12 (fI f)).2 j) : okS (fI g) := fun j hj => by
  have b := rnT_ok 12 _ o j hj
  have c := a j hj
  show 0 ≤ (g j).toInt ∧ (g j).toInt ≤ 90
  omega
