/-! the reference's codes: which are rings, which ring each is -/
noncomputable def vR (cl : Int) (n c m : Nat) : Prop := ∀ i : Nat, i < m → ((dg n c i : Nat) : Int) < cl ∧ (0 < i → dg n c 0 < dg n c i) ∧ ∀ k : Nat, 0 < k → k < i → ¬ dg n c i = dg n c k
noncomputable def v4 (n c : Nat) : Bool := decide (∀ i : Nat, i < n → (0 < i → dg n c 0 < dg n c i) ∧ ∀ k : Nat, k < i → 0 < k → ¬ dg n c i = dg n c k)
