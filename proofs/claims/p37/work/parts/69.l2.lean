-- ThreadBankLaw.law([I)Z
set_option maxRecDepth 100000 in
set_option maxHeartbeats 4000000 in
theorem law_ok_c (X : qm_X) (h : qm_H) (hp : mq 1 h ∧ mq 8 h ∧ mq 15 h ∧ sq h ∧ mi h ∧ sm h ∧ zs h ∧ rw_ h ∧ (X.1 ≤ 320)) (Q : qm_Q) (hq : ∀ r : Int32, ∀ h' : qm_H, (mq 1 h' ∧ mq 8 h' ∧ mq 15 h' ∧ sq h' ∧ mi h' ∧ sm h' ∧ zs h' ∧ rw_ h' ∧ (∀ k, (k < 0 ∨ 50 < k) → h' k = h k) ∧ (r = 1)) → Q (some (.int r)) h') : ∀ n : Nat, (∀ (l3 : Int32) (g : qm_H), ((0 ≤ l3.toInt ∧ l3.toInt ≤ X.1) ∧ mq 1 g ∧ mq 8 g ∧ mq 15 g ∧ sq g ∧ mi g ∧ sm g ∧ zs g ∧ rw_ g ∧ ∀ k, (k < 0 ∨ 50 < k) → g k = h k) → ((X.1 : Int) + 5 - l3.toInt).toNat < n → qm_PA X 239 18 [(0, .ref 130), (1, .ref 0), (2, .ref 39), (3, .int l3)] [] g Q) := by
  have hm1 : mq 1 h := hp.1
  have ⟨⟨_, _⟩, ⟨_, _⟩, _, _⟩ := hm1
  have hm8 : mq 8 h := hp.2.1
  have ⟨⟨_, _⟩, ⟨_, _⟩, _, _⟩ := hm8
  have hm15 : mq 15 h := hp.2.2.1
  have ⟨⟨_, _⟩, ⟨_, _⟩, _, _⟩ := hm15
  have hmsq : sq h := hp.2.2.2.1
  have hmmi : mi h := hp.2.2.2.2.1
  have ⟨⟨_, _⟩, ⟨_, _⟩, ⟨_, _⟩, ⟨_, _⟩, _, _⟩ := hmmi
  have hmsm : sm h := hp.2.2.2.2.2.1
  have ⟨⟨⟨_, _⟩, _, _⟩, _, _, _⟩ := hmsm
  have hmzs : zs h := hp.2.2.2.2.2.2.1
  have hmrw : rw_ h := hp.2.2.2.2.2.2.2.1
  have hp0 : X.1 ≤ 320 := hp.2.2.2.2.2.2.2.2
  have hnl := nI_toInt (n := X.1) (by omega)
  intro n
  induction n with
  | zero => exact fun _ _ _ h0 => absurd h0 (Nat.not_lt_zero _)
  | succ n ih =>
    intro l3 g hi hr
    obtain ⟨hi0, hg1, hg8, hg15, hgsq, hgmi, hgsm, hgzs, hgrw, hgf⟩ := hi
    have ⟨⟨_, _⟩, ⟨_, _⟩, _, _⟩ := hg1
    have ⟨⟨_, _⟩, ⟨_, _⟩, _, _⟩ := hg8
    have ⟨⟨_, _⟩, ⟨_, _⟩, _, _⟩ := hg15
    have ⟨⟨_, _⟩, ⟨_, _⟩, ⟨_, _⟩, ⟨_, _⟩, _, _⟩ := hgmi
    have ⟨⟨⟨_, _⟩, _, _⟩, _, _, _⟩ := hgsm
    refine qm_seg_ok (C := qc_239) (rt := some .boolean) rfl rfl (cuts := [(18, [0, 1, 2, 3])]) 1500 _ _ _ _ ?_
    show (((nI X.1) - 5).toInt < l3.toInt → (((1 : Int32) = 0 ∨ (1 : Int32) = 1) ∧ Q (some (.int 1)) g)) ∧ (l3.toInt ≤ ((nI X.1) - 5).toInt → ((0 ≤ l3.toInt ∧ l3.toInt < (X.1 : Int)) ∧ (((((X.2 l3.toInt.toNat) &&& 63) = 0 → ((0 ≤ (l3 + 1).toInt ∧ (l3 + 1).toInt < (X.1 : Int)) ∧ (qm_PW X 90 [.ref 0, .int (X.2 (l3 + 1).toInt.toNat)] g _))) ∧ (¬ ((X.2 l3.toInt.toNat) &&& 63) = 0 → ((((X.2 l3.toInt.toNat) &&& 63) = 1 → ((0 ≤ (l3 + 1).toInt ∧ (l3 + 1).toInt < (X.1 : Int)) ∧ (qm_PW X 91 [.ref 0, .int (X.2 (l3 + 1).toInt.toNat)] g _))) ∧ (¬ ((X.2 l3.toInt.toNat) &&& 63) = 1 → ((((X.2 l3.toInt.toNat) &&& 63) = 2 → (qm_PW X 92 [.ref 0] g _)) ∧ (¬ ((X.2 l3.toInt.toNat) &&& 63) = 2 → ((((X.2 l3.toInt.toNat) &&& 63) = 3 → (qm_PW X 93 [.ref 0] g _)) ∧ (¬ ((X.2 l3.toInt.toNat) &&& 63) = 3 → ((((X.2 l3.toInt.toNat) &&& 63) = 4 → ((0 ≤ (l3 + 1).toInt ∧ (l3 + 1).toInt < (X.1 : Int)) ∧ (qm_PW X 94 [.ref 0, .int (X.2 (l3 + 1).toInt.toNat)] g _))) ∧ (¬ ((X.2 l3.toInt.toNat) &&& 63) = 4 → ((((X.2 l3.toInt.toNat) &&& 63) = 5 → ((0 ≤ (l3 + 1).toInt ∧ (l3 + 1).toInt < (X.1 : Int)) ∧ ((0 ≤ (l3 + 2).toInt ∧ (l3 + 2).toInt < (X.1 : Int)) ∧ (qm_PW X 95 [.ref 0, .int (X.2 (l3 + 1).toInt.toNat), .int (X.2 (l3 + 2).toInt.toNat)] g _)))) ∧ (¬ ((X.2 l3.toInt.toNat) &&& 63) = 5 → ((((X.2 l3.toInt.toNat) &&& 63) = 6 → ((0 ≤ (l3 + 1).toInt ∧ (l3 + 1).toInt < (X.1 : Int)) ∧ ((0 ≤ (l3 + 2).toInt ∧ (l3 + 2).toInt < (X.1 : Int)) ∧ (qm_PW X 96 [.ref 0, .int (X.2 (l3 + 1).toInt.toNat), .int (X.2 (l3 + 2).toInt.toNat)] g _)))) ∧ (¬ ((X.2 l3.toInt.toNat) &&& 63) = 6 → ((((X.2 l3.toInt.toNat) &&& 63) = 7 → ((0 ≤ (l3 + 1).toInt ∧ (l3 + 1).toInt < (X.1 : Int)) ∧ ((0 ≤ (l3 + 2).toInt ∧ (l3 + 2).toInt < (X.1 : Int)) ∧ (qm_PW X 97 [.ref 0, .int (X.2 (l3 + 1).toInt.toNat), .int (X.2 (l3 + 2).toInt.toNat)] g _)))) ∧ (¬ ((X.2 l3.toInt.toNat) &&& 63) = 7 → ((((X.2 l3.toInt.toNat) &&& 63) = 8 → ((0 ≤ (l3 + 1).toInt ∧ (l3 + 1).toInt < (X.1 : Int)) ∧ ((0 ≤ (l3 + 2).toInt ∧ (l3 + 2).toInt < (X.1 : Int)) ∧ ((0 ≤ (l3 + 3).toInt ∧ (l3 + 3).toInt < (X.1 : Int)) ∧ (qm_PW X 98 [.ref 0, .int (X.2 (l3 + 1).toInt.toNat), .int (X.2 (l3 + 2).toInt.toNat), .int (X.2 (l3 + 3).toInt.toNat)] g _))))) ∧ (¬ ((X.2 l3.toInt.toNat) &&& 63) = 8 → ((((X.2 l3.toInt.toNat) &&& 63) = 9 → ((0 ≤ (l3 + 1).toInt ∧ (l3 + 1).toInt < (X.1 : Int)) ∧ (qm_PW X 99 [.ref 0, .int (X.2 (l3 + 1).toInt.toNat)] g _))) ∧ (¬ ((X.2 l3.toInt.toNat) &&& 63) = 9 → ((((X.2 l3.toInt.toNat) &&& 63) = 10 → ((0 ≤ (l3 + 1).toInt ∧ (l3 + 1).toInt < (X.1 : Int)) ∧ ((0 ≤ (l3 + 2).toInt ∧ (l3 + 2).toInt < (X.1 : Int)) ∧ (qm_PW X 100 [.ref 0, .int (X.2 (l3 + 1).toInt.toNat), .int (X.2 (l3 + 2).toInt.toNat)] g _)))) ∧ (¬ ((X.2 l3.toInt.toNat) &&& 63) = 10 → ((((X.2 l3.toInt.toNat) &&& 63) = 11 → ((0 ≤ (l3 + 1).toInt ∧ (l3 + 1).toInt < (X.1 : Int)) ∧ (qm_PW X 101 [.ref 0, .int (X.2 (l3 + 1).toInt.toNat)] g _))) ∧ (¬ ((X.2 l3.toInt.toNat) &&& 63) = 11 → ((((X.2 l3.toInt.toNat) &&& 63) = 12 → ((0 ≤ (l3 + 1).toInt ∧ (l3 + 1).toInt < (X.1 : Int)) ∧ ((0 ≤ (l3 + 2).toInt ∧ (l3 + 2).toInt < (X.1 : Int)) ∧ (qm_PW X 102 [.ref 0, .int (X.2 (l3 + 1).toInt.toNat), .int (X.2 (l3 + 2).toInt.toNat)] g _)))) ∧ (¬ ((X.2 l3.toInt.toNat) &&& 63) = 12 → ((((X.2 l3.toInt.toNat) &&& 63) = 13 → ((0 ≤ (l3 + 1).toInt ∧ (l3 + 1).toInt < (X.1 : Int)) ∧ (qm_PW X 103 [.ref 0, .int (X.2 (l3 + 1).toInt.toNat)] g _))) ∧ (¬ ((X.2 l3.toInt.toNat) &&& 63) = 13 → ((((X.2 l3.toInt.toNat) &&& 63) = 14 → ((0 ≤ (l3 + 1).toInt ∧ (l3 + 1).toInt < (X.1 : Int)) ∧ ((0 ≤ (l3 + 2).toInt ∧ (l3 + 2).toInt < (X.1 : Int)) ∧ (qm_PW X 104 [.ref 0, .int (X.2 (l3 + 1).toInt.toNat), .int (X.2 (l3 + 2).toInt.toNat)] g _)))) ∧ (¬ ((X.2 l3.toInt.toNat) &&& 63) = 14 → ((((X.2 l3.toInt.toNat) &&& 63) = 15 → ((0 ≤ (l3 + 1).toInt ∧ (l3 + 1).toInt < (X.1 : Int)) ∧ (qm_PW X 105 [.ref 0, .int (X.2 (l3 + 1).toInt.toNat)] g _))) ∧ (¬ ((X.2 l3.toInt.toNat) &&& 63) = 15 → ((((X.2 l3.toInt.toNat) &&& 63) = 16 → ((0 ≤ (l3 + 1).toInt ∧ (l3 + 1).toInt < (X.1 : Int)) ∧ (qm_PW X 106 [.ref 0, .int (X.2 (l3 + 1).toInt.toNat)] g _))) ∧ (¬ ((X.2 l3.toInt.toNat) &&& 63) = 16 → ((((X.2 l3.toInt.toNat) &&& 63) = 17 → ((0 ≤ (l3 + 1).toInt ∧ (l3 + 1).toInt < (X.1 : Int)) ∧ (qm_PW X 107 [.ref 0, .int (X.2 (l3 + 1).toInt.toNat)] g _))) ∧ (¬ ((X.2 l3.toInt.toNat) &&& 63) = 17 → ((((X.2 l3.toInt.toNat) &&& 63) = 18 → ((0 ≤ (l3 + 1).toInt ∧ (l3 + 1).toInt < (X.1 : Int)) ∧ (qm_PW X 108 [.ref 0, .int (X.2 (l3 + 1).toInt.toNat)] g _))) ∧ (¬ ((X.2 l3.toInt.toNat) &&& 63) = 18 → ((((X.2 l3.toInt.toNat) &&& 63) = 19 → (qm_PW X 109 [.ref 0] g _)) ∧ (¬ ((X.2 l3.toInt.toNat) &&& 63) = 19 → ((((X.2 l3.toInt.toNat) &&& 63) = 20 → (qm_PW X 110 [.ref 0] g _)) ∧ (¬ ((X.2 l3.toInt.toNat) &&& 63) = 20 → ((((X.2 l3.toInt.toNat) &&& 63) = 21 → (qm_PW X 111 [.ref 0] g _)) ∧ (¬ ((X.2 l3.toInt.toNat) &&& 63) = 21 → ((((X.2 l3.toInt.toNat) &&& 63) = 22 → ((0 ≤ (l3 + 1).toInt ∧ (l3 + 1).toInt < (X.1 : Int)) ∧ (qm_PW X 112 [.ref 0, .int (X.2 (l3 + 1).toInt.toNat)] g _))) ∧ (¬ ((X.2 l3.toInt.toNat) &&& 63) = 22 → ((((X.2 l3.toInt.toNat) &&& 63) = 23 → (qm_PW X 113 [.ref 0] g _)) ∧ (¬ ((X.2 l3.toInt.toNat) &&& 63) = 23 → ((((X.2 l3.toInt.toNat) &&& 63) = 24 → ((0 ≤ (l3 + 1).toInt ∧ (l3 + 1).toInt < (X.1 : Int)) ∧ (qm_PW X 114 [.ref 0, .int (X.2 (l3 + 1).toInt.toNat)] g _))) ∧ (¬ ((X.2 l3.toInt.toNat) &&& 63) = 24 → ((((X.2 l3.toInt.toNat) &&& 63) = 25 → ((0 ≤ (l3 + 1).toInt ∧ (l3 + 1).toInt < (X.1 : Int)) ∧ (qm_PW X 115 [.ref 0, .int (X.2 (l3 + 1).toInt.toNat)] g _))) ∧ (¬ ((X.2 l3.toInt.toNat) &&& 63) = 25 → ((((X.2 l3.toInt.toNat) &&& 63) = 26 → ((0 ≤ (l3 + 1).toInt ∧ (l3 + 1).toInt < (X.1 : Int)) ∧ ((0 ≤ (l3 + 2).toInt ∧ (l3 + 2).toInt < (X.1 : Int)) ∧ ((0 ≤ (l3 + 3).toInt ∧ (l3 + 3).toInt < (X.1 : Int)) ∧ (qm_PW X 116 [.ref 0, .int (X.2 (l3 + 1).toInt.toNat), .int (X.2 (l3 + 2).toInt.toNat), .int (X.2 (l3 + 3).toInt.toNat)] g _))))) ∧ (¬ ((X.2 l3.toInt.toNat) &&& 63) = 26 → ((((X.2 l3.toInt.toNat) &&& 63) = 27 → ((0 ≤ (l3 + 1).toInt ∧ (l3 + 1).toInt < (X.1 : Int)) ∧ ((0 ≤ (l3 + 2).toInt ∧ (l3 + 2).toInt < (X.1 : Int)) ∧ (qm_PW X 117 [.ref 0, .int (X.2 (l3 + 1).toInt.toNat), .int (X.2 (l3 + 2).toInt.toNat)] g _)))) ∧ (¬ ((X.2 l3.toInt.toNat) &&& 63) = 27 → ((((X.2 l3.toInt.toNat) &&& 63) = 28 → ((0 ≤ (l3 + 1).toInt ∧ (l3 + 1).toInt < (X.1 : Int)) ∧ ((0 ≤ (l3 + 2).toInt ∧ (l3 + 2).toInt < (X.1 : Int)) ∧ (qm_PW X 118 [.ref 0, .int (X.2 (l3 + 1).toInt.toNat), .int (X.2 (l3 + 2).toInt.toNat)] g _)))) ∧ (¬ ((X.2 l3.toInt.toNat) &&& 63) = 28 → ((((X.2 l3.toInt.toNat) &&& 63) = 29 → ((0 ≤ (l3 + 1).toInt ∧ (l3 + 1).toInt < (X.1 : Int)) ∧ ((0 ≤ (l3 + 2).toInt ∧ (l3 + 2).toInt < (X.1 : Int)) ∧ (qm_PW X 119 [.ref 0, .int (X.2 (l3 + 1).toInt.toNat), .int (X.2 (l3 + 2).toInt.toNat)] g _)))) ∧ (¬ ((X.2 l3.toInt.toNat) &&& 63) = 29 → ((((X.2 l3.toInt.toNat) &&& 63) = 30 → ((0 ≤ (l3 + 1).toInt ∧ (l3 + 1).toInt < (X.1 : Int)) ∧ (qm_PW X 120 [.ref 0, .int (X.2 (l3 + 1).toInt.toNat)] g _))) ∧ (¬ ((X.2 l3.toInt.toNat) &&& 63) = 30 → ((((X.2 l3.toInt.toNat) &&& 63) = 31 → ((0 ≤ (l3 + 1).toInt ∧ (l3 + 1).toInt < (X.1 : Int)) ∧ (qm_PW X 121 [.ref 0, .int (X.2 (l3 + 1).toInt.toNat)] g _))) ∧ (¬ ((X.2 l3.toInt.toNat) &&& 63) = 31 → ((((X.2 l3.toInt.toNat) &&& 63) = 32 → ((0 ≤ (l3 + 1).toInt ∧ (l3 + 1).toInt < (X.1 : Int)) ∧ ((0 ≤ (l3 + 2).toInt ∧ (l3 + 2).toInt < (X.1 : Int)) ∧ ((0 ≤ (l3 + 3).toInt ∧ (l3 + 3).toInt < (X.1 : Int)) ∧ (qm_PW X 122 [.ref 0, .int (X.2 (l3 + 1).toInt.toNat), .int (X.2 (l3 + 2).toInt.toNat), .int (X.2 (l3 + 3).toInt.toNat)] g _))))) ∧ (¬ ((X.2 l3.toInt.toNat) &&& 63) = 32 → ((((X.2 l3.toInt.toNat) &&& 63) = 33 → ((0 ≤ (l3 + 1).toInt ∧ (l3 + 1).toInt < (X.1 : Int)) ∧ (qm_PW X 123 [.ref 0, .int (X.2 (l3 + 1).toInt.toNat)] g _))) ∧ (¬ ((X.2 l3.toInt.toNat) &&& 63) = 33 → ((((X.2 l3.toInt.toNat) &&& 63) = 34 → ((0 ≤ (l3 + 1).toInt ∧ (l3 + 1).toInt < (X.1 : Int)) ∧ (qm_PW X 124 [.ref 0, .int (X.2 (l3 + 1).toInt.toNat)] g _))) ∧ (¬ ((X.2 l3.toInt.toNat) &&& 63) = 34 → ((((X.2 l3.toInt.toNat) &&& 63) = 35 → ((0 ≤ (l3 + 1).toInt ∧ (l3 + 1).toInt < (X.1 : Int)) ∧ ((0 ≤ (l3 + 2).toInt ∧ (l3 + 2).toInt < (X.1 : Int)) ∧ ((0 ≤ (l3 + 3).toInt ∧ (l3 + 3).toInt < (X.1 : Int)) ∧ (qm_PW X 125 [.ref 0, .int (X.2 (l3 + 1).toInt.toNat), .int (X.2 (l3 + 2).toInt.toNat), .int (X.2 (l3 + 3).toInt.toNat)] g _))))) ∧ (¬ ((X.2 l3.toInt.toNat) &&& 63) = 35 → ((((X.2 l3.toInt.toNat) &&& 63) = 36 → ((0 ≤ (l3 + 1).toInt ∧ (l3 + 1).toInt < (X.1 : Int)) ∧ ((0 ≤ (l3 + 2).toInt ∧ (l3 + 2).toInt < (X.1 : Int)) ∧ ((0 ≤ (l3 + 3).toInt ∧ (l3 + 3).toInt < (X.1 : Int)) ∧ (qm_PW X 126 [.ref 0, .int (X.2 (l3 + 1).toInt.toNat), .int (X.2 (l3 + 2).toInt.toNat), .int (X.2 (l3 + 3).toInt.toNat)] g _))))) ∧ (¬ ((X.2 l3.toInt.toNat) &&& 63) = 36 → ((((X.2 l3.toInt.toNat) &&& 63) = 37 → ((0 ≤ (l3 + 1).toInt ∧ (l3 + 1).toInt < (X.1 : Int)) ∧ ((0 ≤ (l3 + 2).toInt ∧ (l3 + 2).toInt < (X.1 : Int)) ∧ ((0 ≤ (l3 + 3).toInt ∧ (l3 + 3).toInt < (X.1 : Int)) ∧ ((0 ≤ (l3 + 4).toInt ∧ (l3 + 4).toInt < (X.1 : Int)) ∧ (qm_PW X 127 [.ref 0, .int (X.2 (l3 + 1).toInt.toNat), .int (X.2 (l3 + 2).toInt.toNat), .int (X.2 (l3 + 3).toInt.toNat), .int (X.2 (l3 + 4).toInt.toNat)] g _)))))) ∧ (¬ ((X.2 l3.toInt.toNat) &&& 63) = 37 → ((((X.2 l3.toInt.toNat) &&& 63) = 38 → (qm_PW X 128 [.ref 0] g _)) ∧ (¬ ((X.2 l3.toInt.toNat) &&& 63) = 38 → ((((X.2 l3.toInt.toNat) &&& 63) = 39 → ((0 ≤ (l3 + 1).toInt ∧ (l3 + 1).toInt < (X.1 : Int)) ∧ (qm_PW X 129 [.ref 0, .int (X.2 (l3 + 1).toInt.toNat)] g _))) ∧ (¬ ((X.2 l3.toInt.toNat) &&& 63) = 39 → (qm_PA X 239 18 [(0, .ref 130), (1, .ref 0), (2, .ref 39), (3, .int (l3 + 5))] [] g Q))))))))))))))))))))))))))))))))))))))))))))))))))))))))))))))))))))))))))))))))))))
    refine ⟨fun c1 => ?_, fun c2 => ?_⟩
    · exact ⟨Or.inr rfl, hq 1 g ⟨hg1, hg8, hg15, hgsq, hgmi, hgsm, hgzs, hgrw, (fun k hk => hgf k hk), (by have := ti_subK (nI X.1) (5 : Int32) 5 rfl; first | rfl | exact absurd (Int32.toInt_inj.mp (by omega)) (by assumption))⟩⟩
    · refine ⟨(by have := ti_subK (nI X.1) (5 : Int32) 5 rfl; omega), ?_⟩
      refine ⟨fun c3 => ?_, fun c4 => ?_⟩
      · refine ⟨(by have := ti_addK l3 (1 : Int32) 1 rfl; have := ti_subK (nI X.1) (5 : Int32) 5 rfl; omega), ?_⟩
        refine sf_90_0 X g (X.2 (l3 + 1).toInt.toNat) ⟨hg1, hg8, hg15, hgsq⟩ _ (fun r5 g6 p7 => ?_)
        have f8 : ∀ k, (k < 0 ∨ 50 < k) → g6 k = h k := fun k hk => (p7.2.2.2.2 k (by omega)).trans (hgf k hk)
        have k9 : mi g6 := by unfold mi; rw [p7.2.2.2.2 39 (by omega)]; exact hgmi
        have k10 : sm g6 := by unfold sm; rw [p7.2.2.2.2 40 (by omega)]; exact hgsm
        have k11 : zs g6 := by unfold zs; rw [p7.2.2.2.2 49 (by omega)]; exact hgzs
        have k12 : rw_ g6 := by unfold rw_; rw [p7.2.2.2.2 46 (by omega)]; exact hgrw
        show (0 ≤ (l3 + 1).toInt ∧ (l3 + 1).toInt < (X.1 : Int)) ∧ (qm_PW X 145 [.ref 39, .int (X.2 (l3 + 1).toInt.toNat)] g6 _)
        refine ⟨(by have := ti_addK l3 (1 : Int32) 1 rfl; have := ti_subK (nI X.1) (5 : Int32) 5 rfl; omega), ?_⟩
        refine sf_145_39 X g6 (X.2 (l3 + 1).toInt.toNat) ⟨k9, k10, k11, k12⟩ _ (fun r13 g14 p15 => ?_)
        have f16 : ∀ k, (k < 0 ∨ 50 < k) → g14 k = h k := fun k hk => (p15.2.2.2.2 k (by omega)).trans (f8 k hk)
        have k17 : mq 1 g14 := by unfold mq; rw [p15.2.2.2.2 1 (by omega)]; exact p7.1
        have k18 : mq 8 g14 := by unfold mq; rw [p15.2.2.2.2 8 (by omega)]; exact p7.2.1
        have k19 : mq 15 g14 := by unfold mq; rw [p15.2.2.2.2 15 (by omega)]; exact p7.2.2.1
        have k20 : sq g14 := by unfold sq; rw [p15.2.2.2.2 37 (by omega)]; exact p7.2.2.2.1
        show qm_PA X 239 18 [(0, .ref 130), (1, .ref 0), (2, .ref 39), (3, .int (l3 + 5))] [] g14 Q
        exact ih (l3 + 5) g14 ⟨(by have := ti_addK l3 (5 : Int32) 5 rfl; have := ti_subK (nI X.1) (5 : Int32) 5 rfl; show 0 ≤ (l3 + 5).toInt ∧ (l3 + 5).toInt ≤ X.1; omega), k17, k18, k19, k20, p15.1, p15.2.1, p15.2.2.1, p15.2.2.2.1, (fun k hk => f16 k hk)⟩ (by have := ti_addK l3 (5 : Int32) 5 rfl; have := ti_subK (nI X.1) (5 : Int32) 5 rfl; show ((X.1 : Int) + 5 - (l3 + 5).toInt).toNat < n; omega)
      · refine ⟨fun c21 => ?_, fun c22 => ?_⟩
        · refine ⟨(by have := ti_addK l3 (1 : Int32) 1 rfl; have := ti_subK (nI X.1) (5 : Int32) 5 rfl; omega), ?_⟩
          refine sf_91_0 X g (X.2 (l3 + 1).toInt.toNat) ⟨hg1, hg8, hg15, hgsq⟩ _ (fun r23 g24 p25 => ?_)
          have f26 : ∀ k, (k < 0 ∨ 50 < k) → g24 k = h k := fun k hk => (p25.2.2.2.2 k (by omega)).trans (hgf k hk)
          have k27 : mi g24 := by unfold mi; rw [p25.2.2.2.2 39 (by omega)]; exact hgmi
          have k28 : sm g24 := by unfold sm; rw [p25.2.2.2.2 40 (by omega)]; exact hgsm
          have k29 : zs g24 := by unfold zs; rw [p25.2.2.2.2 49 (by omega)]; exact hgzs
          have k30 : rw_ g24 := by unfold rw_; rw [p25.2.2.2.2 46 (by omega)]; exact hgrw
          show (0 ≤ (l3 + 1).toInt ∧ (l3 + 1).toInt < (X.1 : Int)) ∧ (qm_PW X 146 [.ref 39, .int (X.2 (l3 + 1).toInt.toNat)] g24 _)
          refine ⟨(by have := ti_addK l3 (1 : Int32) 1 rfl; have := ti_subK (nI X.1) (5 : Int32) 5 rfl; omega), ?_⟩
          refine sf_146_39 X g24 (X.2 (l3 + 1).toInt.toNat) ⟨k27, k28, k29, k30⟩ _ (fun r31 g32 p33 => ?_)
          have f34 : ∀ k, (k < 0 ∨ 50 < k) → g32 k = h k := fun k hk => (p33.2.2.2.2 k (by omega)).trans (f26 k hk)
          have k35 : mq 1 g32 := by unfold mq; rw [p33.2.2.2.2 1 (by omega)]; exact p25.1
          have k36 : mq 8 g32 := by unfold mq; rw [p33.2.2.2.2 8 (by omega)]; exact p25.2.1
          have k37 : mq 15 g32 := by unfold mq; rw [p33.2.2.2.2 15 (by omega)]; exact p25.2.2.1
          have k38 : sq g32 := by unfold sq; rw [p33.2.2.2.2 37 (by omega)]; exact p25.2.2.2.1
          show qm_PA X 239 18 [(0, .ref 130), (1, .ref 0), (2, .ref 39), (3, .int (l3 + 5))] [] g32 Q
          exact ih (l3 + 5) g32 ⟨(by have := ti_addK l3 (5 : Int32) 5 rfl; have := ti_subK (nI X.1) (5 : Int32) 5 rfl; show 0 ≤ (l3 + 5).toInt ∧ (l3 + 5).toInt ≤ X.1; omega), k35, k36, k37, k38, p33.1, p33.2.1, p33.2.2.1, p33.2.2.2.1, (fun k hk => f34 k hk)⟩ (by have := ti_addK l3 (5 : Int32) 5 rfl; have := ti_subK (nI X.1) (5 : Int32) 5 rfl; show ((X.1 : Int) + 5 - (l3 + 5).toInt).toNat < n; omega)
        · refine ⟨fun c39 => ?_, fun c40 => ?_⟩
          · refine sf_92_0 X g  ⟨hg1, hg8, hg15, hgsq⟩ _ (fun r41 g42 p43 => ?_)
            have f44 : ∀ k, (k < 0 ∨ 50 < k) → g42 k = h k := fun k hk => (p43.2.2.2.2 k (by omega)).trans (hgf k hk)
            have k45 : mi g42 := by unfold mi; rw [p43.2.2.2.2 39 (by omega)]; exact hgmi
            have k46 : sm g42 := by unfold sm; rw [p43.2.2.2.2 40 (by omega)]; exact hgsm
            have k47 : zs g42 := by unfold zs; rw [p43.2.2.2.2 49 (by omega)]; exact hgzs
            have k48 : rw_ g42 := by unfold rw_; rw [p43.2.2.2.2 46 (by omega)]; exact hgrw
            show qm_PW X 162 [.ref 39] g42 _
            refine sf_162_39 X g42  ⟨k45, k46, k47, k48⟩ _ (fun r49 g50 p51 => ?_)
            have f52 : ∀ k, (k < 0 ∨ 50 < k) → g50 k = h k := fun k hk => (p51.2.2.2.2 k (by omega)).trans (f44 k hk)
            have k53 : mq 1 g50 := by unfold mq; rw [p51.2.2.2.2 1 (by omega)]; exact p43.1
            have k54 : mq 8 g50 := by unfold mq; rw [p51.2.2.2.2 8 (by omega)]; exact p43.2.1
            have k55 : mq 15 g50 := by unfold mq; rw [p51.2.2.2.2 15 (by omega)]; exact p43.2.2.1
            have k56 : sq g50 := by unfold sq; rw [p51.2.2.2.2 37 (by omega)]; exact p43.2.2.2.1
            show qm_PA X 239 18 [(0, .ref 130), (1, .ref 0), (2, .ref 39), (3, .int (l3 + 5))] [] g50 Q
            exact ih (l3 + 5) g50 ⟨(by have := ti_addK l3 (5 : Int32) 5 rfl; have := ti_subK (nI X.1) (5 : Int32) 5 rfl; show 0 ≤ (l3 + 5).toInt ∧ (l3 + 5).toInt ≤ X.1; omega), k53, k54, k55, k56, p51.1, p51.2.1, p51.2.2.1, p51.2.2.2.1, (fun k hk => f52 k hk)⟩ (by have := ti_addK l3 (5 : Int32) 5 rfl; have := ti_subK (nI X.1) (5 : Int32) 5 rfl; show ((X.1 : Int) + 5 - (l3 + 5).toInt).toNat < n; omega)
          · refine ⟨fun c57 => ?_, fun c58 => ?_⟩
            · refine sf_93_0 X g  trivial _ (fun r59 p60 => ?_)
              show qm_PW X 163 [.ref 39] g _
              refine sf_163_39 X g  trivial _ (fun r61 p62 => ?_)
              show qm_PA X 239 18 [(0, .ref 130), (1, .ref 0), (2, .ref 39), (3, .int (l3 + 5))] [] g Q
              exact ih (l3 + 5) g ⟨(by have := ti_addK l3 (5 : Int32) 5 rfl; have := ti_subK (nI X.1) (5 : Int32) 5 rfl; show 0 ≤ (l3 + 5).toInt ∧ (l3 + 5).toInt ≤ X.1; omega), hg1, hg8, hg15, hgsq, hgmi, hgsm, hgzs, hgrw, (fun k hk => hgf k hk)⟩ (by have := ti_addK l3 (5 : Int32) 5 rfl; have := ti_subK (nI X.1) (5 : Int32) 5 rfl; show ((X.1 : Int) + 5 - (l3 + 5).toInt).toNat < n; omega)
            · refine ⟨fun c63 => ?_, fun c64 => ?_⟩
              · refine ⟨(by have := ti_addK l3 (1 : Int32) 1 rfl; have := ti_subK (nI X.1) (5 : Int32) 5 rfl; omega), ?_⟩
                refine sf_94_0 X g (X.2 (l3 + 1).toInt.toNat) hg1 _ (fun r65 p66 => ?_)
                show (0 ≤ (l3 + 1).toInt ∧ (l3 + 1).toInt < (X.1 : Int)) ∧ (qm_PW X 184 [.ref 39, .int (X.2 (l3 + 1).toInt.toNat)] g _)
                refine ⟨(by have := ti_addK l3 (1 : Int32) 1 rfl; have := ti_subK (nI X.1) (5 : Int32) 5 rfl; omega), ?_⟩
                refine sf_184_39 X g (X.2 (l3 + 1).toInt.toNat) ⟨hgmi, hgsm, hgzs, hgrw⟩ _ (fun r67 g68 p69 => ?_)
                have f70 : ∀ k, (k < 0 ∨ 50 < k) → g68 k = h k := fun k hk => (p69.2.2.2.2 k (by omega)).trans (hgf k hk)
                have k71 : mq 1 g68 := by unfold mq; rw [p69.2.2.2.2 1 (by omega)]; exact hg1
                have k72 : mq 8 g68 := by unfold mq; rw [p69.2.2.2.2 8 (by omega)]; exact hg8
                have k73 : mq 15 g68 := by unfold mq; rw [p69.2.2.2.2 15 (by omega)]; exact hg15
                have k74 : sq g68 := by unfold sq; rw [p69.2.2.2.2 37 (by omega)]; exact hgsq
                show qm_PA X 239 18 [(0, .ref 130), (1, .ref 0), (2, .ref 39), (3, .int (l3 + 5))] [] g68 Q
                exact ih (l3 + 5) g68 ⟨(by have := ti_addK l3 (5 : Int32) 5 rfl; have := ti_subK (nI X.1) (5 : Int32) 5 rfl; show 0 ≤ (l3 + 5).toInt ∧ (l3 + 5).toInt ≤ X.1; omega), k71, k72, k73, k74, p69.1, p69.2.1, p69.2.2.1, p69.2.2.2.1, (fun k hk => f70 k hk)⟩ (by have := ti_addK l3 (5 : Int32) 5 rfl; have := ti_subK (nI X.1) (5 : Int32) 5 rfl; show ((X.1 : Int) + 5 - (l3 + 5).toInt).toNat < n; omega)
              · refine ⟨fun c75 => ?_, fun c76 => ?_⟩
                · refine ⟨(by have := ti_addK l3 (1 : Int32) 1 rfl; have := ti_subK (nI X.1) (5 : Int32) 5 rfl; omega), ?_⟩
                  refine ⟨(by have := ti_addK l3 (2 : Int32) 2 rfl; have := ti_subK (nI X.1) (5 : Int32) 5 rfl; omega), ?_⟩
                  refine sf_95_0 X g (X.2 (l3 + 1).toInt.toNat) (X.2 (l3 + 2).toInt.toNat) hg1 _ (fun r77 p78 => ?_)
                  show (0 ≤ (l3 + 1).toInt ∧ (l3 + 1).toInt < (X.1 : Int)) ∧ ((0 ≤ (l3 + 2).toInt ∧ (l3 + 2).toInt < (X.1 : Int)) ∧ (qm_PW X 185 [.ref 39, .int (X.2 (l3 + 1).toInt.toNat), .int (X.2 (l3 + 2).toInt.toNat)] g _))
                  refine ⟨(by have := ti_addK l3 (1 : Int32) 1 rfl; have := ti_subK (nI X.1) (5 : Int32) 5 rfl; omega), ?_⟩
                  refine ⟨(by have := ti_addK l3 (2 : Int32) 2 rfl; have := ti_subK (nI X.1) (5 : Int32) 5 rfl; omega), ?_⟩
                  refine sf_185_39 X g (X.2 (l3 + 1).toInt.toNat) (X.2 (l3 + 2).toInt.toNat) ⟨hgmi, hgsm, hgzs, hgrw⟩ _ (fun r79 g80 p81 => ?_)
                  have f82 : ∀ k, (k < 0 ∨ 50 < k) → g80 k = h k := fun k hk => (p81.2.2.2.2 k (by omega)).trans (hgf k hk)
                  have k83 : mq 1 g80 := by unfold mq; rw [p81.2.2.2.2 1 (by omega)]; exact hg1
                  have k84 : mq 8 g80 := by unfold mq; rw [p81.2.2.2.2 8 (by omega)]; exact hg8
                  have k85 : mq 15 g80 := by unfold mq; rw [p81.2.2.2.2 15 (by omega)]; exact hg15
                  have k86 : sq g80 := by unfold sq; rw [p81.2.2.2.2 37 (by omega)]; exact hgsq
                  show qm_PA X 239 18 [(0, .ref 130), (1, .ref 0), (2, .ref 39), (3, .int (l3 + 5))] [] g80 Q
                  exact ih (l3 + 5) g80 ⟨(by have := ti_addK l3 (5 : Int32) 5 rfl; have := ti_subK (nI X.1) (5 : Int32) 5 rfl; show 0 ≤ (l3 + 5).toInt ∧ (l3 + 5).toInt ≤ X.1; omega), k83, k84, k85, k86, p81.1, p81.2.1, p81.2.2.1, p81.2.2.2.1, (fun k hk => f82 k hk)⟩ (by have := ti_addK l3 (5 : Int32) 5 rfl; have := ti_subK (nI X.1) (5 : Int32) 5 rfl; show ((X.1 : Int) + 5 - (l3 + 5).toInt).toNat < n; omega)
                · refine ⟨fun c87 => ?_, fun c88 => ?_⟩
                  · refine ⟨(by have := ti_addK l3 (1 : Int32) 1 rfl; have := ti_subK (nI X.1) (5 : Int32) 5 rfl; omega), ?_⟩
                    refine ⟨(by have := ti_addK l3 (2 : Int32) 2 rfl; have := ti_subK (nI X.1) (5 : Int32) 5 rfl; omega), ?_⟩
                    refine sf_96_0 X g (X.2 (l3 + 1).toInt.toNat) (X.2 (l3 + 2).toInt.toNat) hg1 _ (fun r89 p90 => ?_)
                    show (0 ≤ (l3 + 1).toInt ∧ (l3 + 1).toInt < (X.1 : Int)) ∧ ((0 ≤ (l3 + 2).toInt ∧ (l3 + 2).toInt < (X.1 : Int)) ∧ (qm_PW X 186 [.ref 39, .int (X.2 (l3 + 1).toInt.toNat), .int (X.2 (l3 + 2).toInt.toNat)] g _))
                    refine ⟨(by have := ti_addK l3 (1 : Int32) 1 rfl; have := ti_subK (nI X.1) (5 : Int32) 5 rfl; omega), ?_⟩
                    refine ⟨(by have := ti_addK l3 (2 : Int32) 2 rfl; have := ti_subK (nI X.1) (5 : Int32) 5 rfl; omega), ?_⟩
                    refine sf_186_39 X g (X.2 (l3 + 1).toInt.toNat) (X.2 (l3 + 2).toInt.toNat) ⟨hgmi, hgsm, hgzs, hgrw⟩ _ (fun r91 g92 p93 => ?_)
                    have f94 : ∀ k, (k < 0 ∨ 50 < k) → g92 k = h k := fun k hk => (p93.2.2.2.2 k (by omega)).trans (hgf k hk)
                    have k95 : mq 1 g92 := by unfold mq; rw [p93.2.2.2.2 1 (by omega)]; exact hg1
                    have k96 : mq 8 g92 := by unfold mq; rw [p93.2.2.2.2 8 (by omega)]; exact hg8
                    have k97 : mq 15 g92 := by unfold mq; rw [p93.2.2.2.2 15 (by omega)]; exact hg15
                    have k98 : sq g92 := by unfold sq; rw [p93.2.2.2.2 37 (by omega)]; exact hgsq
                    show qm_PA X 239 18 [(0, .ref 130), (1, .ref 0), (2, .ref 39), (3, .int (l3 + 5))] [] g92 Q
                    exact ih (l3 + 5) g92 ⟨(by have := ti_addK l3 (5 : Int32) 5 rfl; have := ti_subK (nI X.1) (5 : Int32) 5 rfl; show 0 ≤ (l3 + 5).toInt ∧ (l3 + 5).toInt ≤ X.1; omega), k95, k96, k97, k98, p93.1, p93.2.1, p93.2.2.1, p93.2.2.2.1, (fun k hk => f94 k hk)⟩ (by have := ti_addK l3 (5 : Int32) 5 rfl; have := ti_subK (nI X.1) (5 : Int32) 5 rfl; show ((X.1 : Int) + 5 - (l3 + 5).toInt).toNat < n; omega)
                  · refine ⟨fun c99 => ?_, fun c100 => ?_⟩
                    · refine ⟨(by have := ti_addK l3 (1 : Int32) 1 rfl; have := ti_subK (nI X.1) (5 : Int32) 5 rfl; omega), ?_⟩
                      refine ⟨(by have := ti_addK l3 (2 : Int32) 2 rfl; have := ti_subK (nI X.1) (5 : Int32) 5 rfl; omega), ?_⟩
                      refine sf_97_0 X g (X.2 (l3 + 1).toInt.toNat) (X.2 (l3 + 2).toInt.toNat) hg1 _ (fun r101 p102 => ?_)
                      show (0 ≤ (l3 + 1).toInt ∧ (l3 + 1).toInt < (X.1 : Int)) ∧ ((0 ≤ (l3 + 2).toInt ∧ (l3 + 2).toInt < (X.1 : Int)) ∧ (qm_PW X 187 [.ref 39, .int (X.2 (l3 + 1).toInt.toNat), .int (X.2 (l3 + 2).toInt.toNat)] g _))
                      refine ⟨(by have := ti_addK l3 (1 : Int32) 1 rfl; have := ti_subK (nI X.1) (5 : Int32) 5 rfl; omega), ?_⟩
                      refine ⟨(by have := ti_addK l3 (2 : Int32) 2 rfl; have := ti_subK (nI X.1) (5 : Int32) 5 rfl; omega), ?_⟩
                      refine sf_187_39 X g (X.2 (l3 + 1).toInt.toNat) (X.2 (l3 + 2).toInt.toNat) ⟨hgmi, hgsm, hgzs, hgrw⟩ _ (fun r103 g104 p105 => ?_)
                      have f106 : ∀ k, (k < 0 ∨ 50 < k) → g104 k = h k := fun k hk => (p105.2.2.2.2 k (by omega)).trans (hgf k hk)
                      have k107 : mq 1 g104 := by unfold mq; rw [p105.2.2.2.2 1 (by omega)]; exact hg1
                      have k108 : mq 8 g104 := by unfold mq; rw [p105.2.2.2.2 8 (by omega)]; exact hg8
                      have k109 : mq 15 g104 := by unfold mq; rw [p105.2.2.2.2 15 (by omega)]; exact hg15
                      have k110 : sq g104 := by unfold sq; rw [p105.2.2.2.2 37 (by omega)]; exact hgsq
                      show qm_PA X 239 18 [(0, .ref 130), (1, .ref 0), (2, .ref 39), (3, .int (l3 + 5))] [] g104 Q
                      exact ih (l3 + 5) g104 ⟨(by have := ti_addK l3 (5 : Int32) 5 rfl; have := ti_subK (nI X.1) (5 : Int32) 5 rfl; show 0 ≤ (l3 + 5).toInt ∧ (l3 + 5).toInt ≤ X.1; omega), k107, k108, k109, k110, p105.1, p105.2.1, p105.2.2.1, p105.2.2.2.1, (fun k hk => f106 k hk)⟩ (by have := ti_addK l3 (5 : Int32) 5 rfl; have := ti_subK (nI X.1) (5 : Int32) 5 rfl; show ((X.1 : Int) + 5 - (l3 + 5).toInt).toNat < n; omega)
                    · refine ⟨fun c111 => ?_, fun c112 => ?_⟩
                      · refine ⟨(by have := ti_addK l3 (1 : Int32) 1 rfl; have := ti_subK (nI X.1) (5 : Int32) 5 rfl; omega), ?_⟩
                        refine ⟨(by have := ti_addK l3 (2 : Int32) 2 rfl; have := ti_subK (nI X.1) (5 : Int32) 5 rfl; omega), ?_⟩
                        refine ⟨(by have := ti_addK l3 (3 : Int32) 3 rfl; have := ti_subK (nI X.1) (5 : Int32) 5 rfl; omega), ?_⟩
                        refine sf_98_0 X g (X.2 (l3 + 1).toInt.toNat) (X.2 (l3 + 2).toInt.toNat) (X.2 (l3 + 3).toInt.toNat) ⟨hg1, hg8, hg15, hgsq⟩ _ (fun r113 g114 p115 => ?_)
                        have f116 : ∀ k, (k < 0 ∨ 50 < k) → g114 k = h k := fun k hk => (p115.2.2.2.2 k (by omega)).trans (hgf k hk)
                        have k117 : mi g114 := by unfold mi; rw [p115.2.2.2.2 39 (by omega)]; exact hgmi
                        have k118 : sm g114 := by unfold sm; rw [p115.2.2.2.2 40 (by omega)]; exact hgsm
                        have k119 : zs g114 := by unfold zs; rw [p115.2.2.2.2 49 (by omega)]; exact hgzs
                        have k120 : rw_ g114 := by unfold rw_; rw [p115.2.2.2.2 46 (by omega)]; exact hgrw
                        show (0 ≤ (l3 + 1).toInt ∧ (l3 + 1).toInt < (X.1 : Int)) ∧ ((0 ≤ (l3 + 2).toInt ∧ (l3 + 2).toInt < (X.1 : Int)) ∧ ((0 ≤ (l3 + 3).toInt ∧ (l3 + 3).toInt < (X.1 : Int)) ∧ (qm_PW X 189 [.ref 39, .int (X.2 (l3 + 1).toInt.toNat), .int (X.2 (l3 + 2).toInt.toNat), .int (X.2 (l3 + 3).toInt.toNat)] g114 _)))
                        refine ⟨(by have := ti_addK l3 (1 : Int32) 1 rfl; have := ti_subK (nI X.1) (5 : Int32) 5 rfl; omega), ?_⟩
                        refine ⟨(by have := ti_addK l3 (2 : Int32) 2 rfl; have := ti_subK (nI X.1) (5 : Int32) 5 rfl; omega), ?_⟩
                        refine ⟨(by have := ti_addK l3 (3 : Int32) 3 rfl; have := ti_subK (nI X.1) (5 : Int32) 5 rfl; omega), ?_⟩
                        refine sf_189_39 X g114 (X.2 (l3 + 1).toInt.toNat) (X.2 (l3 + 2).toInt.toNat) (X.2 (l3 + 3).toInt.toNat) ⟨k117, k118, k119, k120⟩ _ (fun r121 g122 p123 => ?_)
                        have f124 : ∀ k, (k < 0 ∨ 50 < k) → g122 k = h k := fun k hk => (p123.2.2.2.2 k (by omega)).trans (f116 k hk)
                        have k125 : mq 1 g122 := by unfold mq; rw [p123.2.2.2.2 1 (by omega)]; exact p115.1
                        have k126 : mq 8 g122 := by unfold mq; rw [p123.2.2.2.2 8 (by omega)]; exact p115.2.1
                        have k127 : mq 15 g122 := by unfold mq; rw [p123.2.2.2.2 15 (by omega)]; exact p115.2.2.1
                        have k128 : sq g122 := by unfold sq; rw [p123.2.2.2.2 37 (by omega)]; exact p115.2.2.2.1
                        show qm_PA X 239 18 [(0, .ref 130), (1, .ref 0), (2, .ref 39), (3, .int (l3 + 5))] [] g122 Q
                        exact ih (l3 + 5) g122 ⟨(by have := ti_addK l3 (5 : Int32) 5 rfl; have := ti_subK (nI X.1) (5 : Int32) 5 rfl; show 0 ≤ (l3 + 5).toInt ∧ (l3 + 5).toInt ≤ X.1; omega), k125, k126, k127, k128, p123.1, p123.2.1, p123.2.2.1, p123.2.2.2.1, (fun k hk => f124 k hk)⟩ (by have := ti_addK l3 (5 : Int32) 5 rfl; have := ti_subK (nI X.1) (5 : Int32) 5 rfl; show ((X.1 : Int) + 5 - (l3 + 5).toInt).toNat < n; omega)
                      · refine ⟨fun c129 => ?_, fun c130 => ?_⟩
                        · refine ⟨(by have := ti_addK l3 (1 : Int32) 1 rfl; have := ti_subK (nI X.1) (5 : Int32) 5 rfl; omega), ?_⟩
                          refine sf_99_0 X g (X.2 (l3 + 1).toInt.toNat) ⟨hg1, hg8, hg15, hgsq⟩ _ (fun r131 g132 p133 => ?_)
                          have f134 : ∀ k, (k < 0 ∨ 50 < k) → g132 k = h k := fun k hk => (p133.2.2.2.2 k (by omega)).trans (hgf k hk)
                          have k135 : mi g132 := by unfold mi; rw [p133.2.2.2.2 39 (by omega)]; exact hgmi
                          have k136 : sm g132 := by unfold sm; rw [p133.2.2.2.2 40 (by omega)]; exact hgsm
                          have k137 : zs g132 := by unfold zs; rw [p133.2.2.2.2 49 (by omega)]; exact hgzs
                          have k138 : rw_ g132 := by unfold rw_; rw [p133.2.2.2.2 46 (by omega)]; exact hgrw
                          show (0 ≤ (l3 + 1).toInt ∧ (l3 + 1).toInt < (X.1 : Int)) ∧ (qm_PW X 190 [.ref 39, .int (X.2 (l3 + 1).toInt.toNat)] g132 _)
                          refine ⟨(by have := ti_addK l3 (1 : Int32) 1 rfl; have := ti_subK (nI X.1) (5 : Int32) 5 rfl; omega), ?_⟩
                          refine sf_190_39 X g132 (X.2 (l3 + 1).toInt.toNat) ⟨k135, k136, k137, k138⟩ _ (fun r139 g140 p141 => ?_)
                          have f142 : ∀ k, (k < 0 ∨ 50 < k) → g140 k = h k := fun k hk => (p141.2.2.2.2 k (by omega)).trans (f134 k hk)
                          have k143 : mq 1 g140 := by unfold mq; rw [p141.2.2.2.2 1 (by omega)]; exact p133.1
                          have k144 : mq 8 g140 := by unfold mq; rw [p141.2.2.2.2 8 (by omega)]; exact p133.2.1
                          have k145 : mq 15 g140 := by unfold mq; rw [p141.2.2.2.2 15 (by omega)]; exact p133.2.2.1
                          have k146 : sq g140 := by unfold sq; rw [p141.2.2.2.2 37 (by omega)]; exact p133.2.2.2.1
                          show qm_PA X 239 18 [(0, .ref 130), (1, .ref 0), (2, .ref 39), (3, .int (l3 + 5))] [] g140 Q
                          exact ih (l3 + 5) g140 ⟨(by have := ti_addK l3 (5 : Int32) 5 rfl; have := ti_subK (nI X.1) (5 : Int32) 5 rfl; show 0 ≤ (l3 + 5).toInt ∧ (l3 + 5).toInt ≤ X.1; omega), k143, k144, k145, k146, p141.1, p141.2.1, p141.2.2.1, p141.2.2.2.1, (fun k hk => f142 k hk)⟩ (by have := ti_addK l3 (5 : Int32) 5 rfl; have := ti_subK (nI X.1) (5 : Int32) 5 rfl; show ((X.1 : Int) + 5 - (l3 + 5).toInt).toNat < n; omega)
                        · refine ⟨fun c147 => ?_, fun c148 => ?_⟩
                          · refine ⟨(by have := ti_addK l3 (1 : Int32) 1 rfl; have := ti_subK (nI X.1) (5 : Int32) 5 rfl; omega), ?_⟩
                            refine ⟨(by have := ti_addK l3 (2 : Int32) 2 rfl; have := ti_subK (nI X.1) (5 : Int32) 5 rfl; omega), ?_⟩
                            refine sf_100_0 X g (X.2 (l3 + 1).toInt.toNat) (X.2 (l3 + 2).toInt.toNat) ⟨hg1, hg8, hg15, hgsq⟩ _ (fun r149 g150 p151 => ?_)
                            have f152 : ∀ k, (k < 0 ∨ 50 < k) → g150 k = h k := fun k hk => (p151.2.2.2.2 k (by omega)).trans (hgf k hk)
                            have k153 : mi g150 := by unfold mi; rw [p151.2.2.2.2 39 (by omega)]; exact hgmi
                            have k154 : sm g150 := by unfold sm; rw [p151.2.2.2.2 40 (by omega)]; exact hgsm
                            have k155 : zs g150 := by unfold zs; rw [p151.2.2.2.2 49 (by omega)]; exact hgzs
                            have k156 : rw_ g150 := by unfold rw_; rw [p151.2.2.2.2 46 (by omega)]; exact hgrw
                            show (0 ≤ (l3 + 1).toInt ∧ (l3 + 1).toInt < (X.1 : Int)) ∧ ((0 ≤ (l3 + 2).toInt ∧ (l3 + 2).toInt < (X.1 : Int)) ∧ (qm_PW X 191 [.ref 39, .int (X.2 (l3 + 1).toInt.toNat), .int (X.2 (l3 + 2).toInt.toNat)] g150 _))
                            refine ⟨(by have := ti_addK l3 (1 : Int32) 1 rfl; have := ti_subK (nI X.1) (5 : Int32) 5 rfl; omega), ?_⟩
                            refine ⟨(by have := ti_addK l3 (2 : Int32) 2 rfl; have := ti_subK (nI X.1) (5 : Int32) 5 rfl; omega), ?_⟩
                            refine sf_191_39 X g150 (X.2 (l3 + 1).toInt.toNat) (X.2 (l3 + 2).toInt.toNat) ⟨k153, k154, k155, k156⟩ _ (fun r157 g158 p159 => ?_)
                            have f160 : ∀ k, (k < 0 ∨ 50 < k) → g158 k = h k := fun k hk => (p159.2.2.2.2 k (by omega)).trans (f152 k hk)
                            have k161 : mq 1 g158 := by unfold mq; rw [p159.2.2.2.2 1 (by omega)]; exact p151.1
                            have k162 : mq 8 g158 := by unfold mq; rw [p159.2.2.2.2 8 (by omega)]; exact p151.2.1
                            have k163 : mq 15 g158 := by unfold mq; rw [p159.2.2.2.2 15 (by omega)]; exact p151.2.2.1
                            have k164 : sq g158 := by unfold sq; rw [p159.2.2.2.2 37 (by omega)]; exact p151.2.2.2.1
                            show qm_PA X 239 18 [(0, .ref 130), (1, .ref 0), (2, .ref 39), (3, .int (l3 + 5))] [] g158 Q
                            exact ih (l3 + 5) g158 ⟨(by have := ti_addK l3 (5 : Int32) 5 rfl; have := ti_subK (nI X.1) (5 : Int32) 5 rfl; show 0 ≤ (l3 + 5).toInt ∧ (l3 + 5).toInt ≤ X.1; omega), k161, k162, k163, k164, p159.1, p159.2.1, p159.2.2.1, p159.2.2.2.1, (fun k hk => f160 k hk)⟩ (by have := ti_addK l3 (5 : Int32) 5 rfl; have := ti_subK (nI X.1) (5 : Int32) 5 rfl; show ((X.1 : Int) + 5 - (l3 + 5).toInt).toNat < n; omega)
                          · refine ⟨fun c165 => ?_, fun c166 => ?_⟩
                            · refine ⟨(by have := ti_addK l3 (1 : Int32) 1 rfl; have := ti_subK (nI X.1) (5 : Int32) 5 rfl; omega), ?_⟩
                              refine sf_101_0 X g (X.2 (l3 + 1).toInt.toNat) ⟨hg1, hg8, hg15, hgsq⟩ _ (fun r167 g168 p169 => ?_)
                              have f170 : ∀ k, (k < 0 ∨ 50 < k) → g168 k = h k := fun k hk => (p169.2.2.2.2 k (by omega)).trans (hgf k hk)
                              have k171 : mi g168 := by unfold mi; rw [p169.2.2.2.2 39 (by omega)]; exact hgmi
                              have k172 : sm g168 := by unfold sm; rw [p169.2.2.2.2 40 (by omega)]; exact hgsm
                              have k173 : zs g168 := by unfold zs; rw [p169.2.2.2.2 49 (by omega)]; exact hgzs
                              have k174 : rw_ g168 := by unfold rw_; rw [p169.2.2.2.2 46 (by omega)]; exact hgrw
                              show (0 ≤ (l3 + 1).toInt ∧ (l3 + 1).toInt < (X.1 : Int)) ∧ (qm_PW X 193 [.ref 39, .int (X.2 (l3 + 1).toInt.toNat)] g168 _)
                              refine ⟨(by have := ti_addK l3 (1 : Int32) 1 rfl; have := ti_subK (nI X.1) (5 : Int32) 5 rfl; omega), ?_⟩
                              refine sf_193_39 X g168 (X.2 (l3 + 1).toInt.toNat) ⟨k171, k172, k173, k174⟩ _ (fun r175 g176 p177 => ?_)
                              have f178 : ∀ k, (k < 0 ∨ 50 < k) → g176 k = h k := fun k hk => (p177.2.2.2.2 k (by omega)).trans (f170 k hk)
                              have k179 : mq 1 g176 := by unfold mq; rw [p177.2.2.2.2 1 (by omega)]; exact p169.1
                              have k180 : mq 8 g176 := by unfold mq; rw [p177.2.2.2.2 8 (by omega)]; exact p169.2.1
                              have k181 : mq 15 g176 := by unfold mq; rw [p177.2.2.2.2 15 (by omega)]; exact p169.2.2.1
                              have k182 : sq g176 := by unfold sq; rw [p177.2.2.2.2 37 (by omega)]; exact p169.2.2.2.1
                              show qm_PA X 239 18 [(0, .ref 130), (1, .ref 0), (2, .ref 39), (3, .int (l3 + 5))] [] g176 Q
                              exact ih (l3 + 5) g176 ⟨(by have := ti_addK l3 (5 : Int32) 5 rfl; have := ti_subK (nI X.1) (5 : Int32) 5 rfl; show 0 ≤ (l3 + 5).toInt ∧ (l3 + 5).toInt ≤ X.1; omega), k179, k180, k181, k182, p177.1, p177.2.1, p177.2.2.1, p177.2.2.2.1, (fun k hk => f178 k hk)⟩ (by have := ti_addK l3 (5 : Int32) 5 rfl; have := ti_subK (nI X.1) (5 : Int32) 5 rfl; show ((X.1 : Int) + 5 - (l3 + 5).toInt).toNat < n; omega)
                            · refine ⟨fun c183 => ?_, fun c184 => ?_⟩
                              · refine ⟨(by have := ti_addK l3 (1 : Int32) 1 rfl; have := ti_subK (nI X.1) (5 : Int32) 5 rfl; omega), ?_⟩
                                refine ⟨(by have := ti_addK l3 (2 : Int32) 2 rfl; have := ti_subK (nI X.1) (5 : Int32) 5 rfl; omega), ?_⟩
                                refine sf_102_0 X g (X.2 (l3 + 1).toInt.toNat) (X.2 (l3 + 2).toInt.toNat) ⟨hg1, hg8, hg15, hgsq⟩ _ (fun r185 g186 p187 => ?_)
                                have f188 : ∀ k, (k < 0 ∨ 50 < k) → g186 k = h k := fun k hk => (p187.2.2.2.2 k (by omega)).trans (hgf k hk)
                                have k189 : mi g186 := by unfold mi; rw [p187.2.2.2.2 39 (by omega)]; exact hgmi
                                have k190 : sm g186 := by unfold sm; rw [p187.2.2.2.2 40 (by omega)]; exact hgsm
                                have k191 : zs g186 := by unfold zs; rw [p187.2.2.2.2 49 (by omega)]; exact hgzs
                                have k192 : rw_ g186 := by unfold rw_; rw [p187.2.2.2.2 46 (by omega)]; exact hgrw
                                show (0 ≤ (l3 + 1).toInt ∧ (l3 + 1).toInt < (X.1 : Int)) ∧ ((0 ≤ (l3 + 2).toInt ∧ (l3 + 2).toInt < (X.1 : Int)) ∧ (qm_PW X 194 [.ref 39, .int (X.2 (l3 + 1).toInt.toNat), .int (X.2 (l3 + 2).toInt.toNat)] g186 _))
                                refine ⟨(by have := ti_addK l3 (1 : Int32) 1 rfl; have := ti_subK (nI X.1) (5 : Int32) 5 rfl; omega), ?_⟩
                                refine ⟨(by have := ti_addK l3 (2 : Int32) 2 rfl; have := ti_subK (nI X.1) (5 : Int32) 5 rfl; omega), ?_⟩
                                refine sf_194_39 X g186 (X.2 (l3 + 1).toInt.toNat) (X.2 (l3 + 2).toInt.toNat) ⟨k189, k190, k191, k192⟩ _ (fun r193 g194 p195 => ?_)
                                have f196 : ∀ k, (k < 0 ∨ 50 < k) → g194 k = h k := fun k hk => (p195.2.2.2.2 k (by omega)).trans (f188 k hk)
                                have k197 : mq 1 g194 := by unfold mq; rw [p195.2.2.2.2 1 (by omega)]; exact p187.1
                                have k198 : mq 8 g194 := by unfold mq; rw [p195.2.2.2.2 8 (by omega)]; exact p187.2.1
                                have k199 : mq 15 g194 := by unfold mq; rw [p195.2.2.2.2 15 (by omega)]; exact p187.2.2.1
                                have k200 : sq g194 := by unfold sq; rw [p195.2.2.2.2 37 (by omega)]; exact p187.2.2.2.1
                                show qm_PA X 239 18 [(0, .ref 130), (1, .ref 0), (2, .ref 39), (3, .int (l3 + 5))] [] g194 Q
                                exact ih (l3 + 5) g194 ⟨(by have := ti_addK l3 (5 : Int32) 5 rfl; have := ti_subK (nI X.1) (5 : Int32) 5 rfl; show 0 ≤ (l3 + 5).toInt ∧ (l3 + 5).toInt ≤ X.1; omega), k197, k198, k199, k200, p195.1, p195.2.1, p195.2.2.1, p195.2.2.2.1, (fun k hk => f196 k hk)⟩ (by have := ti_addK l3 (5 : Int32) 5 rfl; have := ti_subK (nI X.1) (5 : Int32) 5 rfl; show ((X.1 : Int) + 5 - (l3 + 5).toInt).toNat < n; omega)
                              · refine ⟨fun c201 => ?_, fun c202 => ?_⟩
                                · refine ⟨(by have := ti_addK l3 (1 : Int32) 1 rfl; have := ti_subK (nI X.1) (5 : Int32) 5 rfl; omega), ?_⟩
                                  refine sf_103_0 X g (X.2 (l3 + 1).toInt.toNat) ⟨hg1, hg8, hg15, hgsq⟩ _ (fun r203 g204 p205 => ?_)
                                  have f206 : ∀ k, (k < 0 ∨ 50 < k) → g204 k = h k := fun k hk => (p205.2.2.2.2 k (by omega)).trans (hgf k hk)
                                  have k207 : mi g204 := by unfold mi; rw [p205.2.2.2.2 39 (by omega)]; exact hgmi
                                  have k208 : sm g204 := by unfold sm; rw [p205.2.2.2.2 40 (by omega)]; exact hgsm
                                  have k209 : zs g204 := by unfold zs; rw [p205.2.2.2.2 49 (by omega)]; exact hgzs
                                  have k210 : rw_ g204 := by unfold rw_; rw [p205.2.2.2.2 46 (by omega)]; exact hgrw
                                  show (0 ≤ (l3 + 1).toInt ∧ (l3 + 1).toInt < (X.1 : Int)) ∧ (qm_PW X 195 [.ref 39, .int (X.2 (l3 + 1).toInt.toNat)] g204 _)
                                  refine ⟨(by have := ti_addK l3 (1 : Int32) 1 rfl; have := ti_subK (nI X.1) (5 : Int32) 5 rfl; omega), ?_⟩
                                  refine sf_195_39 X g204 (X.2 (l3 + 1).toInt.toNat) ⟨k207, k208, k209, k210⟩ _ (fun r211 g212 p213 => ?_)
                                  have f214 : ∀ k, (k < 0 ∨ 50 < k) → g212 k = h k := fun k hk => (p213.2.2.2.2 k (by omega)).trans (f206 k hk)
                                  have k215 : mq 1 g212 := by unfold mq; rw [p213.2.2.2.2 1 (by omega)]; exact p205.1
                                  have k216 : mq 8 g212 := by unfold mq; rw [p213.2.2.2.2 8 (by omega)]; exact p205.2.1
                                  have k217 : mq 15 g212 := by unfold mq; rw [p213.2.2.2.2 15 (by omega)]; exact p205.2.2.1
                                  have k218 : sq g212 := by unfold sq; rw [p213.2.2.2.2 37 (by omega)]; exact p205.2.2.2.1
                                  show qm_PA X 239 18 [(0, .ref 130), (1, .ref 0), (2, .ref 39), (3, .int (l3 + 5))] [] g212 Q
                                  exact ih (l3 + 5) g212 ⟨(by have := ti_addK l3 (5 : Int32) 5 rfl; have := ti_subK (nI X.1) (5 : Int32) 5 rfl; show 0 ≤ (l3 + 5).toInt ∧ (l3 + 5).toInt ≤ X.1; omega), k215, k216, k217, k218, p213.1, p213.2.1, p213.2.2.1, p213.2.2.2.1, (fun k hk => f214 k hk)⟩ (by have := ti_addK l3 (5 : Int32) 5 rfl; have := ti_subK (nI X.1) (5 : Int32) 5 rfl; show ((X.1 : Int) + 5 - (l3 + 5).toInt).toNat < n; omega)
                                · refine ⟨fun c219 => ?_, fun c220 => ?_⟩
                                  · refine ⟨(by have := ti_addK l3 (1 : Int32) 1 rfl; have := ti_subK (nI X.1) (5 : Int32) 5 rfl; omega), ?_⟩
                                    refine ⟨(by have := ti_addK l3 (2 : Int32) 2 rfl; have := ti_subK (nI X.1) (5 : Int32) 5 rfl; omega), ?_⟩
                                    refine sf_104_0 X g (X.2 (l3 + 1).toInt.toNat) (X.2 (l3 + 2).toInt.toNat) hg1 _ (fun r221 p222 => ?_)
                                    show (0 ≤ (l3 + 1).toInt ∧ (l3 + 1).toInt < (X.1 : Int)) ∧ ((0 ≤ (l3 + 2).toInt ∧ (l3 + 2).toInt < (X.1 : Int)) ∧ (qm_PW X 196 [.ref 39, .int (X.2 (l3 + 1).toInt.toNat), .int (X.2 (l3 + 2).toInt.toNat)] g _))
                                    refine ⟨(by have := ti_addK l3 (1 : Int32) 1 rfl; have := ti_subK (nI X.1) (5 : Int32) 5 rfl; omega), ?_⟩
                                    refine ⟨(by have := ti_addK l3 (2 : Int32) 2 rfl; have := ti_subK (nI X.1) (5 : Int32) 5 rfl; omega), ?_⟩
                                    refine sf_196_39 X g (X.2 (l3 + 1).toInt.toNat) (X.2 (l3 + 2).toInt.toNat) ⟨hgmi, hgsm, hgzs, hgrw⟩ _ (fun r223 g224 p225 => ?_)
                                    have f226 : ∀ k, (k < 0 ∨ 50 < k) → g224 k = h k := fun k hk => (p225.2.2.2.2 k (by omega)).trans (hgf k hk)
                                    have k227 : mq 1 g224 := by unfold mq; rw [p225.2.2.2.2 1 (by omega)]; exact hg1
                                    have k228 : mq 8 g224 := by unfold mq; rw [p225.2.2.2.2 8 (by omega)]; exact hg8
                                    have k229 : mq 15 g224 := by unfold mq; rw [p225.2.2.2.2 15 (by omega)]; exact hg15
                                    have k230 : sq g224 := by unfold sq; rw [p225.2.2.2.2 37 (by omega)]; exact hgsq
                                    show qm_PA X 239 18 [(0, .ref 130), (1, .ref 0), (2, .ref 39), (3, .int (l3 + 5))] [] g224 Q
                                    exact ih (l3 + 5) g224 ⟨(by have := ti_addK l3 (5 : Int32) 5 rfl; have := ti_subK (nI X.1) (5 : Int32) 5 rfl; show 0 ≤ (l3 + 5).toInt ∧ (l3 + 5).toInt ≤ X.1; omega), k227, k228, k229, k230, p225.1, p225.2.1, p225.2.2.1, p225.2.2.2.1, (fun k hk => f226 k hk)⟩ (by have := ti_addK l3 (5 : Int32) 5 rfl; have := ti_subK (nI X.1) (5 : Int32) 5 rfl; show ((X.1 : Int) + 5 - (l3 + 5).toInt).toNat < n; omega)
                                  · refine ⟨fun c231 => ?_, fun c232 => ?_⟩
                                    · refine ⟨(by have := ti_addK l3 (1 : Int32) 1 rfl; have := ti_subK (nI X.1) (5 : Int32) 5 rfl; omega), ?_⟩
                                      refine sf_105_0 X g (X.2 (l3 + 1).toInt.toNat) hg1 _ (fun r233 p234 => ?_)
                                      show (0 ≤ (l3 + 1).toInt ∧ (l3 + 1).toInt < (X.1 : Int)) ∧ (qm_PW X 197 [.ref 39, .int (X.2 (l3 + 1).toInt.toNat)] g _)
                                      refine ⟨(by have := ti_addK l3 (1 : Int32) 1 rfl; have := ti_subK (nI X.1) (5 : Int32) 5 rfl; omega), ?_⟩
                                      refine sf_197_39 X g (X.2 (l3 + 1).toInt.toNat) ⟨hgmi, hgsm, hgzs, hgrw⟩ _ (fun r235 g236 p237 => ?_)
                                      have f238 : ∀ k, (k < 0 ∨ 50 < k) → g236 k = h k := fun k hk => (p237.2.2.2.2 k (by omega)).trans (hgf k hk)
                                      have k239 : mq 1 g236 := by unfold mq; rw [p237.2.2.2.2 1 (by omega)]; exact hg1
                                      have k240 : mq 8 g236 := by unfold mq; rw [p237.2.2.2.2 8 (by omega)]; exact hg8
                                      have k241 : mq 15 g236 := by unfold mq; rw [p237.2.2.2.2 15 (by omega)]; exact hg15
                                      have k242 : sq g236 := by unfold sq; rw [p237.2.2.2.2 37 (by omega)]; exact hgsq
                                      show qm_PA X 239 18 [(0, .ref 130), (1, .ref 0), (2, .ref 39), (3, .int (l3 + 5))] [] g236 Q
                                      exact ih (l3 + 5) g236 ⟨(by have := ti_addK l3 (5 : Int32) 5 rfl; have := ti_subK (nI X.1) (5 : Int32) 5 rfl; show 0 ≤ (l3 + 5).toInt ∧ (l3 + 5).toInt ≤ X.1; omega), k239, k240, k241, k242, p237.1, p237.2.1, p237.2.2.1, p237.2.2.2.1, (fun k hk => f238 k hk)⟩ (by have := ti_addK l3 (5 : Int32) 5 rfl; have := ti_subK (nI X.1) (5 : Int32) 5 rfl; show ((X.1 : Int) + 5 - (l3 + 5).toInt).toNat < n; omega)
                                    · refine ⟨fun c243 => ?_, fun c244 => ?_⟩
                                      · refine ⟨(by have := ti_addK l3 (1 : Int32) 1 rfl; have := ti_subK (nI X.1) (5 : Int32) 5 rfl; omega), ?_⟩
                                        refine sf_106_0 X g (X.2 (l3 + 1).toInt.toNat) ⟨hg1, hg8, hg15, hgsq⟩ _ (fun r245 g246 p247 => ?_)
                                        have f248 : ∀ k, (k < 0 ∨ 50 < k) → g246 k = h k := fun k hk => (p247.2.2.2.2 k (by omega)).trans (hgf k hk)
                                        have k249 : mi g246 := by unfold mi; rw [p247.2.2.2.2 39 (by omega)]; exact hgmi
                                        have k250 : sm g246 := by unfold sm; rw [p247.2.2.2.2 40 (by omega)]; exact hgsm
                                        have k251 : zs g246 := by unfold zs; rw [p247.2.2.2.2 49 (by omega)]; exact hgzs
                                        have k252 : rw_ g246 := by unfold rw_; rw [p247.2.2.2.2 46 (by omega)]; exact hgrw
                                        show (0 ≤ (l3 + 1).toInt ∧ (l3 + 1).toInt < (X.1 : Int)) ∧ (qm_PW X 203 [.ref 39, .int (X.2 (l3 + 1).toInt.toNat)] g246 _)
                                        refine ⟨(by have := ti_addK l3 (1 : Int32) 1 rfl; have := ti_subK (nI X.1) (5 : Int32) 5 rfl; omega), ?_⟩
                                        refine sf_203_39 X g246 (X.2 (l3 + 1).toInt.toNat) ⟨k249, k250, k251, k252⟩ _ (fun r253 g254 p255 => ?_)
                                        have f256 : ∀ k, (k < 0 ∨ 50 < k) → g254 k = h k := fun k hk => (p255.2.2.2.2 k (by omega)).trans (f248 k hk)
                                        have k257 : mq 1 g254 := by unfold mq; rw [p255.2.2.2.2 1 (by omega)]; exact p247.1
                                        have k258 : mq 8 g254 := by unfold mq; rw [p255.2.2.2.2 8 (by omega)]; exact p247.2.1
                                        have k259 : mq 15 g254 := by unfold mq; rw [p255.2.2.2.2 15 (by omega)]; exact p247.2.2.1
                                        have k260 : sq g254 := by unfold sq; rw [p255.2.2.2.2 37 (by omega)]; exact p247.2.2.2.1
                                        show qm_PA X 239 18 [(0, .ref 130), (1, .ref 0), (2, .ref 39), (3, .int (l3 + 5))] [] g254 Q
                                        exact ih (l3 + 5) g254 ⟨(by have := ti_addK l3 (5 : Int32) 5 rfl; have := ti_subK (nI X.1) (5 : Int32) 5 rfl; show 0 ≤ (l3 + 5).toInt ∧ (l3 + 5).toInt ≤ X.1; omega), k257, k258, k259, k260, p255.1, p255.2.1, p255.2.2.1, p255.2.2.2.1, (fun k hk => f256 k hk)⟩ (by have := ti_addK l3 (5 : Int32) 5 rfl; have := ti_subK (nI X.1) (5 : Int32) 5 rfl; show ((X.1 : Int) + 5 - (l3 + 5).toInt).toNat < n; omega)
                                      · refine ⟨fun c261 => ?_, fun c262 => ?_⟩
                                        · refine ⟨(by have := ti_addK l3 (1 : Int32) 1 rfl; have := ti_subK (nI X.1) (5 : Int32) 5 rfl; omega), ?_⟩
                                          refine sf_107_0 X g (X.2 (l3 + 1).toInt.toNat) ⟨hg1, hg8, hg15, hgsq⟩ _ (fun r263 g264 p265 => ?_)
                                          have f266 : ∀ k, (k < 0 ∨ 50 < k) → g264 k = h k := fun k hk => (p265.2.2.2.2 k (by omega)).trans (hgf k hk)
                                          have k267 : mi g264 := by unfold mi; rw [p265.2.2.2.2 39 (by omega)]; exact hgmi
                                          have k268 : sm g264 := by unfold sm; rw [p265.2.2.2.2 40 (by omega)]; exact hgsm
                                          have k269 : zs g264 := by unfold zs; rw [p265.2.2.2.2 49 (by omega)]; exact hgzs
                                          have k270 : rw_ g264 := by unfold rw_; rw [p265.2.2.2.2 46 (by omega)]; exact hgrw
                                          show (0 ≤ (l3 + 1).toInt ∧ (l3 + 1).toInt < (X.1 : Int)) ∧ (qm_PW X 205 [.ref 39, .int (X.2 (l3 + 1).toInt.toNat)] g264 _)
                                          refine ⟨(by have := ti_addK l3 (1 : Int32) 1 rfl; have := ti_subK (nI X.1) (5 : Int32) 5 rfl; omega), ?_⟩
                                          refine sf_205_39 X g264 (X.2 (l3 + 1).toInt.toNat) ⟨k267, k268, k269, k270⟩ _ (fun r271 g272 p273 => ?_)
                                          have f274 : ∀ k, (k < 0 ∨ 50 < k) → g272 k = h k := fun k hk => (p273.2.2.2.2 k (by omega)).trans (f266 k hk)
                                          have k275 : mq 1 g272 := by unfold mq; rw [p273.2.2.2.2 1 (by omega)]; exact p265.1
                                          have k276 : mq 8 g272 := by unfold mq; rw [p273.2.2.2.2 8 (by omega)]; exact p265.2.1
                                          have k277 : mq 15 g272 := by unfold mq; rw [p273.2.2.2.2 15 (by omega)]; exact p265.2.2.1
                                          have k278 : sq g272 := by unfold sq; rw [p273.2.2.2.2 37 (by omega)]; exact p265.2.2.2.1
                                          show qm_PA X 239 18 [(0, .ref 130), (1, .ref 0), (2, .ref 39), (3, .int (l3 + 5))] [] g272 Q
                                          exact ih (l3 + 5) g272 ⟨(by have := ti_addK l3 (5 : Int32) 5 rfl; have := ti_subK (nI X.1) (5 : Int32) 5 rfl; show 0 ≤ (l3 + 5).toInt ∧ (l3 + 5).toInt ≤ X.1; omega), k275, k276, k277, k278, p273.1, p273.2.1, p273.2.2.1, p273.2.2.2.1, (fun k hk => f274 k hk)⟩ (by have := ti_addK l3 (5 : Int32) 5 rfl; have := ti_subK (nI X.1) (5 : Int32) 5 rfl; show ((X.1 : Int) + 5 - (l3 + 5).toInt).toNat < n; omega)
                                        · refine ⟨fun c279 => ?_, fun c280 => ?_⟩
                                          · refine ⟨(by have := ti_addK l3 (1 : Int32) 1 rfl; have := ti_subK (nI X.1) (5 : Int32) 5 rfl; omega), ?_⟩
                                            refine sf_108_0 X g (X.2 (l3 + 1).toInt.toNat) ⟨hg1, hg8, hg15, hgsq⟩ _ (fun r281 g282 p283 => ?_)
                                            have f284 : ∀ k, (k < 0 ∨ 50 < k) → g282 k = h k := fun k hk => (p283.2.2.2.2 k (by omega)).trans (hgf k hk)
                                            have k285 : mi g282 := by unfold mi; rw [p283.2.2.2.2 39 (by omega)]; exact hgmi
                                            have k286 : sm g282 := by unfold sm; rw [p283.2.2.2.2 40 (by omega)]; exact hgsm
                                            have k287 : zs g282 := by unfold zs; rw [p283.2.2.2.2 49 (by omega)]; exact hgzs
                                            have k288 : rw_ g282 := by unfold rw_; rw [p283.2.2.2.2 46 (by omega)]; exact hgrw
                                            show (0 ≤ (l3 + 1).toInt ∧ (l3 + 1).toInt < (X.1 : Int)) ∧ (qm_PW X 206 [.ref 39, .int (X.2 (l3 + 1).toInt.toNat)] g282 _)
                                            refine ⟨(by have := ti_addK l3 (1 : Int32) 1 rfl; have := ti_subK (nI X.1) (5 : Int32) 5 rfl; omega), ?_⟩
                                            refine sf_206_39 X g282 (X.2 (l3 + 1).toInt.toNat) ⟨k285, k286, k287, k288⟩ _ (fun r289 g290 p291 => ?_)
                                            have f292 : ∀ k, (k < 0 ∨ 50 < k) → g290 k = h k := fun k hk => (p291.2.2.2.2 k (by omega)).trans (f284 k hk)
                                            have k293 : mq 1 g290 := by unfold mq; rw [p291.2.2.2.2 1 (by omega)]; exact p283.1
                                            have k294 : mq 8 g290 := by unfold mq; rw [p291.2.2.2.2 8 (by omega)]; exact p283.2.1
                                            have k295 : mq 15 g290 := by unfold mq; rw [p291.2.2.2.2 15 (by omega)]; exact p283.2.2.1
                                            have k296 : sq g290 := by unfold sq; rw [p291.2.2.2.2 37 (by omega)]; exact p283.2.2.2.1
                                            show qm_PA X 239 18 [(0, .ref 130), (1, .ref 0), (2, .ref 39), (3, .int (l3 + 5))] [] g290 Q
                                            exact ih (l3 + 5) g290 ⟨(by have := ti_addK l3 (5 : Int32) 5 rfl; have := ti_subK (nI X.1) (5 : Int32) 5 rfl; show 0 ≤ (l3 + 5).toInt ∧ (l3 + 5).toInt ≤ X.1; omega), k293, k294, k295, k296, p291.1, p291.2.1, p291.2.2.1, p291.2.2.2.1, (fun k hk => f292 k hk)⟩ (by have := ti_addK l3 (5 : Int32) 5 rfl; have := ti_subK (nI X.1) (5 : Int32) 5 rfl; show ((X.1 : Int) + 5 - (l3 + 5).toInt).toNat < n; omega)
                                          · refine ⟨fun c297 => ?_, fun c298 => ?_⟩
                                            · refine sf_109_0 X g  hg1 _ (fun r299 p300 => ?_)
                                              show qm_PW X 209 [.ref 39] g _
                                              refine sf_209_39 X g  ⟨hgmi, hgsm, hgzs, hgrw⟩ _ (fun r301 g302 p303 => ?_)
                                              have f304 : ∀ k, (k < 0 ∨ 50 < k) → g302 k = h k := fun k hk => (p303.2.2.2.2 k (by omega)).trans (hgf k hk)
                                              have k305 : mq 1 g302 := by unfold mq; rw [p303.2.2.2.2 1 (by omega)]; exact hg1
                                              have k306 : mq 8 g302 := by unfold mq; rw [p303.2.2.2.2 8 (by omega)]; exact hg8
                                              have k307 : mq 15 g302 := by unfold mq; rw [p303.2.2.2.2 15 (by omega)]; exact hg15
                                              have k308 : sq g302 := by unfold sq; rw [p303.2.2.2.2 37 (by omega)]; exact hgsq
                                              show qm_PA X 239 18 [(0, .ref 130), (1, .ref 0), (2, .ref 39), (3, .int (l3 + 5))] [] g302 Q
                                              exact ih (l3 + 5) g302 ⟨(by have := ti_addK l3 (5 : Int32) 5 rfl; have := ti_subK (nI X.1) (5 : Int32) 5 rfl; show 0 ≤ (l3 + 5).toInt ∧ (l3 + 5).toInt ≤ X.1; omega), k305, k306, k307, k308, p303.1, p303.2.1, p303.2.2.1, p303.2.2.2.1, (fun k hk => f304 k hk)⟩ (by have := ti_addK l3 (5 : Int32) 5 rfl; have := ti_subK (nI X.1) (5 : Int32) 5 rfl; show ((X.1 : Int) + 5 - (l3 + 5).toInt).toNat < n; omega)
                                            · refine ⟨fun c309 => ?_, fun c310 => ?_⟩
                                              · refine sf_110_0 X g  hg1 _ (fun r311 p312 => ?_)
                                                show qm_PW X 210 [.ref 39] g _
                                                refine sf_210_39 X g  ⟨hgmi, hgsm, hgzs, hgrw⟩ _ (fun r313 g314 p315 => ?_)
                                                have f316 : ∀ k, (k < 0 ∨ 50 < k) → g314 k = h k := fun k hk => (p315.2.2.2.2 k (by omega)).trans (hgf k hk)
                                                have k317 : mq 1 g314 := by unfold mq; rw [p315.2.2.2.2 1 (by omega)]; exact hg1
                                                have k318 : mq 8 g314 := by unfold mq; rw [p315.2.2.2.2 8 (by omega)]; exact hg8
                                                have k319 : mq 15 g314 := by unfold mq; rw [p315.2.2.2.2 15 (by omega)]; exact hg15
                                                have k320 : sq g314 := by unfold sq; rw [p315.2.2.2.2 37 (by omega)]; exact hgsq
                                                show qm_PA X 239 18 [(0, .ref 130), (1, .ref 0), (2, .ref 39), (3, .int (l3 + 5))] [] g314 Q
                                                exact ih (l3 + 5) g314 ⟨(by have := ti_addK l3 (5 : Int32) 5 rfl; have := ti_subK (nI X.1) (5 : Int32) 5 rfl; show 0 ≤ (l3 + 5).toInt ∧ (l3 + 5).toInt ≤ X.1; omega), k317, k318, k319, k320, p315.1, p315.2.1, p315.2.2.1, p315.2.2.2.1, (fun k hk => f316 k hk)⟩ (by have := ti_addK l3 (5 : Int32) 5 rfl; have := ti_subK (nI X.1) (5 : Int32) 5 rfl; show ((X.1 : Int) + 5 - (l3 + 5).toInt).toNat < n; omega)
                                              · refine ⟨fun c321 => ?_, fun c322 => ?_⟩
                                                · refine sf_111_0 X g  hg1 _ (fun r323 p324 => ?_)
                                                  show qm_PW X 211 [.ref 39] g _
                                                  refine sf_211_39 X g  ⟨hgmi, hgsm, hgzs, hgrw⟩ _ (fun r325 g326 p327 => ?_)
                                                  have f328 : ∀ k, (k < 0 ∨ 50 < k) → g326 k = h k := fun k hk => (p327.2.2.2.2 k (by omega)).trans (hgf k hk)
                                                  have k329 : mq 1 g326 := by unfold mq; rw [p327.2.2.2.2 1 (by omega)]; exact hg1
                                                  have k330 : mq 8 g326 := by unfold mq; rw [p327.2.2.2.2 8 (by omega)]; exact hg8
                                                  have k331 : mq 15 g326 := by unfold mq; rw [p327.2.2.2.2 15 (by omega)]; exact hg15
                                                  have k332 : sq g326 := by unfold sq; rw [p327.2.2.2.2 37 (by omega)]; exact hgsq
                                                  show qm_PA X 239 18 [(0, .ref 130), (1, .ref 0), (2, .ref 39), (3, .int (l3 + 5))] [] g326 Q
                                                  exact ih (l3 + 5) g326 ⟨(by have := ti_addK l3 (5 : Int32) 5 rfl; have := ti_subK (nI X.1) (5 : Int32) 5 rfl; show 0 ≤ (l3 + 5).toInt ∧ (l3 + 5).toInt ≤ X.1; omega), k329, k330, k331, k332, p327.1, p327.2.1, p327.2.2.1, p327.2.2.2.1, (fun k hk => f328 k hk)⟩ (by have := ti_addK l3 (5 : Int32) 5 rfl; have := ti_subK (nI X.1) (5 : Int32) 5 rfl; show ((X.1 : Int) + 5 - (l3 + 5).toInt).toNat < n; omega)
                                                · refine ⟨fun c333 => ?_, fun c334 => ?_⟩
                                                  · refine ⟨(by have := ti_addK l3 (1 : Int32) 1 rfl; have := ti_subK (nI X.1) (5 : Int32) 5 rfl; omega), ?_⟩
                                                    refine sf_112_0 X g (X.2 (l3 + 1).toInt.toNat) hg1 _ (fun r335 p336 => ?_)
                                                    show (0 ≤ (l3 + 1).toInt ∧ (l3 + 1).toInt < (X.1 : Int)) ∧ (qm_PW X 215 [.ref 39, .int (X.2 (l3 + 1).toInt.toNat)] g _)
                                                    refine ⟨(by have := ti_addK l3 (1 : Int32) 1 rfl; have := ti_subK (nI X.1) (5 : Int32) 5 rfl; omega), ?_⟩
                                                    refine sf_215_39 X g (X.2 (l3 + 1).toInt.toNat) ⟨hgmi, hgsm, hgzs, hgrw⟩ _ (fun r337 g338 p339 => ?_)
                                                    have f340 : ∀ k, (k < 0 ∨ 50 < k) → g338 k = h k := fun k hk => (p339.2.2.2.2 k (by omega)).trans (hgf k hk)
                                                    have k341 : mq 1 g338 := by unfold mq; rw [p339.2.2.2.2 1 (by omega)]; exact hg1
                                                    have k342 : mq 8 g338 := by unfold mq; rw [p339.2.2.2.2 8 (by omega)]; exact hg8
                                                    have k343 : mq 15 g338 := by unfold mq; rw [p339.2.2.2.2 15 (by omega)]; exact hg15
                                                    have k344 : sq g338 := by unfold sq; rw [p339.2.2.2.2 37 (by omega)]; exact hgsq
                                                    show qm_PA X 239 18 [(0, .ref 130), (1, .ref 0), (2, .ref 39), (3, .int (l3 + 5))] [] g338 Q
                                                    exact ih (l3 + 5) g338 ⟨(by have := ti_addK l3 (5 : Int32) 5 rfl; have := ti_subK (nI X.1) (5 : Int32) 5 rfl; show 0 ≤ (l3 + 5).toInt ∧ (l3 + 5).toInt ≤ X.1; omega), k341, k342, k343, k344, p339.1, p339.2.1, p339.2.2.1, p339.2.2.2.1, (fun k hk => f340 k hk)⟩ (by have := ti_addK l3 (5 : Int32) 5 rfl; have := ti_subK (nI X.1) (5 : Int32) 5 rfl; show ((X.1 : Int) + 5 - (l3 + 5).toInt).toNat < n; omega)
                                                  · refine ⟨fun c345 => ?_, fun c346 => ?_⟩
                                                    · refine sf_113_0 X g  hg1 _ (fun r347 p348 => ?_)
                                                      show qm_PW X 216 [.ref 39] g _
                                                      refine sf_216_39 X g  ⟨hgmi, hgsm, hgzs, hgrw⟩ _ (fun r349 g350 p351 => ?_)
                                                      have f352 : ∀ k, (k < 0 ∨ 50 < k) → g350 k = h k := fun k hk => (p351.2.2.2.2 k (by omega)).trans (hgf k hk)
                                                      have k353 : mq 1 g350 := by unfold mq; rw [p351.2.2.2.2 1 (by omega)]; exact hg1
                                                      have k354 : mq 8 g350 := by unfold mq; rw [p351.2.2.2.2 8 (by omega)]; exact hg8
                                                      have k355 : mq 15 g350 := by unfold mq; rw [p351.2.2.2.2 15 (by omega)]; exact hg15
                                                      have k356 : sq g350 := by unfold sq; rw [p351.2.2.2.2 37 (by omega)]; exact hgsq
                                                      show qm_PA X 239 18 [(0, .ref 130), (1, .ref 0), (2, .ref 39), (3, .int (l3 + 5))] [] g350 Q
                                                      exact ih (l3 + 5) g350 ⟨(by have := ti_addK l3 (5 : Int32) 5 rfl; have := ti_subK (nI X.1) (5 : Int32) 5 rfl; show 0 ≤ (l3 + 5).toInt ∧ (l3 + 5).toInt ≤ X.1; omega), k353, k354, k355, k356, p351.1, p351.2.1, p351.2.2.1, p351.2.2.2.1, (fun k hk => f352 k hk)⟩ (by have := ti_addK l3 (5 : Int32) 5 rfl; have := ti_subK (nI X.1) (5 : Int32) 5 rfl; show ((X.1 : Int) + 5 - (l3 + 5).toInt).toNat < n; omega)
                                                    · refine ⟨fun c357 => ?_, fun c358 => ?_⟩
                                                      · refine ⟨(by have := ti_addK l3 (1 : Int32) 1 rfl; have := ti_subK (nI X.1) (5 : Int32) 5 rfl; omega), ?_⟩
                                                        refine sf_114_0 X g (X.2 (l3 + 1).toInt.toNat) hg1 _ (fun r359 p360 => ?_)
                                                        show (0 ≤ (l3 + 1).toInt ∧ (l3 + 1).toInt < (X.1 : Int)) ∧ (qm_PW X 217 [.ref 39, .int (X.2 (l3 + 1).toInt.toNat)] g _)
                                                        refine ⟨(by have := ti_addK l3 (1 : Int32) 1 rfl; have := ti_subK (nI X.1) (5 : Int32) 5 rfl; omega), ?_⟩
                                                        refine sf_217_39 X g (X.2 (l3 + 1).toInt.toNat) ⟨hgmi, hgsm, hgzs, hgrw⟩ _ (fun r361 g362 p363 => ?_)
                                                        have f364 : ∀ k, (k < 0 ∨ 50 < k) → g362 k = h k := fun k hk => (p363.2.2.2.2 k (by omega)).trans (hgf k hk)
                                                        have k365 : mq 1 g362 := by unfold mq; rw [p363.2.2.2.2 1 (by omega)]; exact hg1
                                                        have k366 : mq 8 g362 := by unfold mq; rw [p363.2.2.2.2 8 (by omega)]; exact hg8
                                                        have k367 : mq 15 g362 := by unfold mq; rw [p363.2.2.2.2 15 (by omega)]; exact hg15
                                                        have k368 : sq g362 := by unfold sq; rw [p363.2.2.2.2 37 (by omega)]; exact hgsq
                                                        show qm_PA X 239 18 [(0, .ref 130), (1, .ref 0), (2, .ref 39), (3, .int (l3 + 5))] [] g362 Q
                                                        exact ih (l3 + 5) g362 ⟨(by have := ti_addK l3 (5 : Int32) 5 rfl; have := ti_subK (nI X.1) (5 : Int32) 5 rfl; show 0 ≤ (l3 + 5).toInt ∧ (l3 + 5).toInt ≤ X.1; omega), k365, k366, k367, k368, p363.1, p363.2.1, p363.2.2.1, p363.2.2.2.1, (fun k hk => f364 k hk)⟩ (by have := ti_addK l3 (5 : Int32) 5 rfl; have := ti_subK (nI X.1) (5 : Int32) 5 rfl; show ((X.1 : Int) + 5 - (l3 + 5).toInt).toNat < n; omega)
                                                      · refine ⟨fun c369 => ?_, fun c370 => ?_⟩
                                                        · refine ⟨(by have := ti_addK l3 (1 : Int32) 1 rfl; have := ti_subK (nI X.1) (5 : Int32) 5 rfl; omega), ?_⟩
                                                          refine sf_115_0 X g (X.2 (l3 + 1).toInt.toNat) hg1 _ (fun r371 p372 => ?_)
                                                          show (0 ≤ (l3 + 1).toInt ∧ (l3 + 1).toInt < (X.1 : Int)) ∧ (qm_PW X 218 [.ref 39, .int (X.2 (l3 + 1).toInt.toNat)] g _)
                                                          refine ⟨(by have := ti_addK l3 (1 : Int32) 1 rfl; have := ti_subK (nI X.1) (5 : Int32) 5 rfl; omega), ?_⟩
                                                          refine sf_218_39 X g (X.2 (l3 + 1).toInt.toNat) ⟨hgmi, hgsm, hgzs, hgrw⟩ _ (fun r373 g374 p375 => ?_)
                                                          have f376 : ∀ k, (k < 0 ∨ 50 < k) → g374 k = h k := fun k hk => (p375.2.2.2.2 k (by omega)).trans (hgf k hk)
                                                          have k377 : mq 1 g374 := by unfold mq; rw [p375.2.2.2.2 1 (by omega)]; exact hg1
                                                          have k378 : mq 8 g374 := by unfold mq; rw [p375.2.2.2.2 8 (by omega)]; exact hg8
                                                          have k379 : mq 15 g374 := by unfold mq; rw [p375.2.2.2.2 15 (by omega)]; exact hg15
                                                          have k380 : sq g374 := by unfold sq; rw [p375.2.2.2.2 37 (by omega)]; exact hgsq
                                                          show qm_PA X 239 18 [(0, .ref 130), (1, .ref 0), (2, .ref 39), (3, .int (l3 + 5))] [] g374 Q
                                                          exact ih (l3 + 5) g374 ⟨(by have := ti_addK l3 (5 : Int32) 5 rfl; have := ti_subK (nI X.1) (5 : Int32) 5 rfl; show 0 ≤ (l3 + 5).toInt ∧ (l3 + 5).toInt ≤ X.1; omega), k377, k378, k379, k380, p375.1, p375.2.1, p375.2.2.1, p375.2.2.2.1, (fun k hk => f376 k hk)⟩ (by have := ti_addK l3 (5 : Int32) 5 rfl; have := ti_subK (nI X.1) (5 : Int32) 5 rfl; show ((X.1 : Int) + 5 - (l3 + 5).toInt).toNat < n; omega)
                                                        · refine ⟨fun c381 => ?_, fun c382 => ?_⟩
                                                          · refine ⟨(by have := ti_addK l3 (1 : Int32) 1 rfl; have := ti_subK (nI X.1) (5 : Int32) 5 rfl; omega), ?_⟩
                                                            refine ⟨(by have := ti_addK l3 (2 : Int32) 2 rfl; have := ti_subK (nI X.1) (5 : Int32) 5 rfl; omega), ?_⟩
                                                            refine ⟨(by have := ti_addK l3 (3 : Int32) 3 rfl; have := ti_subK (nI X.1) (5 : Int32) 5 rfl; omega), ?_⟩
                                                            refine sf_116_0 X g (X.2 (l3 + 1).toInt.toNat) (X.2 (l3 + 2).toInt.toNat) (X.2 (l3 + 3).toInt.toNat) hg1 _ (fun r383 p384 => ?_)
                                                            show (0 ≤ (l3 + 1).toInt ∧ (l3 + 1).toInt < (X.1 : Int)) ∧ ((0 ≤ (l3 + 2).toInt ∧ (l3 + 2).toInt < (X.1 : Int)) ∧ ((0 ≤ (l3 + 3).toInt ∧ (l3 + 3).toInt < (X.1 : Int)) ∧ (qm_PW X 222 [.ref 39, .int (X.2 (l3 + 1).toInt.toNat), .int (X.2 (l3 + 2).toInt.toNat), .int (X.2 (l3 + 3).toInt.toNat)] g _)))
                                                            refine ⟨(by have := ti_addK l3 (1 : Int32) 1 rfl; have := ti_subK (nI X.1) (5 : Int32) 5 rfl; omega), ?_⟩
                                                            refine ⟨(by have := ti_addK l3 (2 : Int32) 2 rfl; have := ti_subK (nI X.1) (5 : Int32) 5 rfl; omega), ?_⟩
                                                            refine ⟨(by have := ti_addK l3 (3 : Int32) 3 rfl; have := ti_subK (nI X.1) (5 : Int32) 5 rfl; omega), ?_⟩
                                                            refine sf_222_39 X g (X.2 (l3 + 1).toInt.toNat) (X.2 (l3 + 2).toInt.toNat) (X.2 (l3 + 3).toInt.toNat) ⟨hgmi, hgsm, hgzs, hgrw⟩ _ (fun r385 g386 p387 => ?_)
                                                            have f388 : ∀ k, (k < 0 ∨ 50 < k) → g386 k = h k := fun k hk => (p387.2.2.2.2 k (by omega)).trans (hgf k hk)
                                                            have k389 : mq 1 g386 := by unfold mq; rw [p387.2.2.2.2 1 (by omega)]; exact hg1
                                                            have k390 : mq 8 g386 := by unfold mq; rw [p387.2.2.2.2 8 (by omega)]; exact hg8
                                                            have k391 : mq 15 g386 := by unfold mq; rw [p387.2.2.2.2 15 (by omega)]; exact hg15
                                                            have k392 : sq g386 := by unfold sq; rw [p387.2.2.2.2 37 (by omega)]; exact hgsq
                                                            show qm_PA X 239 18 [(0, .ref 130), (1, .ref 0), (2, .ref 39), (3, .int (l3 + 5))] [] g386 Q
                                                            exact ih (l3 + 5) g386 ⟨(by have := ti_addK l3 (5 : Int32) 5 rfl; have := ti_subK (nI X.1) (5 : Int32) 5 rfl; show 0 ≤ (l3 + 5).toInt ∧ (l3 + 5).toInt ≤ X.1; omega), k389, k390, k391, k392, p387.1, p387.2.1, p387.2.2.1, p387.2.2.2.1, (fun k hk => f388 k hk)⟩ (by have := ti_addK l3 (5 : Int32) 5 rfl; have := ti_subK (nI X.1) (5 : Int32) 5 rfl; show ((X.1 : Int) + 5 - (l3 + 5).toInt).toNat < n; omega)
                                                          · refine ⟨fun c393 => ?_, fun c394 => ?_⟩
                                                            · refine ⟨(by have := ti_addK l3 (1 : Int32) 1 rfl; have := ti_subK (nI X.1) (5 : Int32) 5 rfl; omega), ?_⟩
                                                              refine ⟨(by have := ti_addK l3 (2 : Int32) 2 rfl; have := ti_subK (nI X.1) (5 : Int32) 5 rfl; omega), ?_⟩
                                                              refine sf_117_0 X g (X.2 (l3 + 1).toInt.toNat) (X.2 (l3 + 2).toInt.toNat) hg1 _ (fun r395 p396 => ?_)
                                                              show (0 ≤ (l3 + 1).toInt ∧ (l3 + 1).toInt < (X.1 : Int)) ∧ ((0 ≤ (l3 + 2).toInt ∧ (l3 + 2).toInt < (X.1 : Int)) ∧ (qm_PW X 223 [.ref 39, .int (X.2 (l3 + 1).toInt.toNat), .int (X.2 (l3 + 2).toInt.toNat)] g _))
                                                              refine ⟨(by have := ti_addK l3 (1 : Int32) 1 rfl; have := ti_subK (nI X.1) (5 : Int32) 5 rfl; omega), ?_⟩
                                                              refine ⟨(by have := ti_addK l3 (2 : Int32) 2 rfl; have := ti_subK (nI X.1) (5 : Int32) 5 rfl; omega), ?_⟩
                                                              refine sf_223_39 X g (X.2 (l3 + 1).toInt.toNat) (X.2 (l3 + 2).toInt.toNat) ⟨hgmi, hgsm, hgzs, hgrw⟩ _ (fun r397 g398 p399 => ?_)
                                                              have f400 : ∀ k, (k < 0 ∨ 50 < k) → g398 k = h k := fun k hk => (p399.2.2.2.2 k (by omega)).trans (hgf k hk)
                                                              have k401 : mq 1 g398 := by unfold mq; rw [p399.2.2.2.2 1 (by omega)]; exact hg1
                                                              have k402 : mq 8 g398 := by unfold mq; rw [p399.2.2.2.2 8 (by omega)]; exact hg8
                                                              have k403 : mq 15 g398 := by unfold mq; rw [p399.2.2.2.2 15 (by omega)]; exact hg15
                                                              have k404 : sq g398 := by unfold sq; rw [p399.2.2.2.2 37 (by omega)]; exact hgsq
                                                              show qm_PA X 239 18 [(0, .ref 130), (1, .ref 0), (2, .ref 39), (3, .int (l3 + 5))] [] g398 Q
                                                              exact ih (l3 + 5) g398 ⟨(by have := ti_addK l3 (5 : Int32) 5 rfl; have := ti_subK (nI X.1) (5 : Int32) 5 rfl; show 0 ≤ (l3 + 5).toInt ∧ (l3 + 5).toInt ≤ X.1; omega), k401, k402, k403, k404, p399.1, p399.2.1, p399.2.2.1, p399.2.2.2.1, (fun k hk => f400 k hk)⟩ (by have := ti_addK l3 (5 : Int32) 5 rfl; have := ti_subK (nI X.1) (5 : Int32) 5 rfl; show ((X.1 : Int) + 5 - (l3 + 5).toInt).toNat < n; omega)
                                                            · refine ⟨fun c405 => ?_, fun c406 => ?_⟩
                                                              · refine ⟨(by have := ti_addK l3 (1 : Int32) 1 rfl; have := ti_subK (nI X.1) (5 : Int32) 5 rfl; omega), ?_⟩
                                                                refine ⟨(by have := ti_addK l3 (2 : Int32) 2 rfl; have := ti_subK (nI X.1) (5 : Int32) 5 rfl; omega), ?_⟩
                                                                refine sf_118_0 X g (X.2 (l3 + 1).toInt.toNat) (X.2 (l3 + 2).toInt.toNat) hg1 _ (fun r407 p408 => ?_)
                                                                show (0 ≤ (l3 + 1).toInt ∧ (l3 + 1).toInt < (X.1 : Int)) ∧ ((0 ≤ (l3 + 2).toInt ∧ (l3 + 2).toInt < (X.1 : Int)) ∧ (qm_PW X 224 [.ref 39, .int (X.2 (l3 + 1).toInt.toNat), .int (X.2 (l3 + 2).toInt.toNat)] g _))
                                                                refine ⟨(by have := ti_addK l3 (1 : Int32) 1 rfl; have := ti_subK (nI X.1) (5 : Int32) 5 rfl; omega), ?_⟩
                                                                refine ⟨(by have := ti_addK l3 (2 : Int32) 2 rfl; have := ti_subK (nI X.1) (5 : Int32) 5 rfl; omega), ?_⟩
                                                                refine sf_224_39 X g (X.2 (l3 + 1).toInt.toNat) (X.2 (l3 + 2).toInt.toNat) ⟨hgmi, hgsm, hgzs, hgrw⟩ _ (fun r409 g410 p411 => ?_)
                                                                have f412 : ∀ k, (k < 0 ∨ 50 < k) → g410 k = h k := fun k hk => (p411.2.2.2.2 k (by omega)).trans (hgf k hk)
                                                                have k413 : mq 1 g410 := by unfold mq; rw [p411.2.2.2.2 1 (by omega)]; exact hg1
                                                                have k414 : mq 8 g410 := by unfold mq; rw [p411.2.2.2.2 8 (by omega)]; exact hg8
                                                                have k415 : mq 15 g410 := by unfold mq; rw [p411.2.2.2.2 15 (by omega)]; exact hg15
                                                                have k416 : sq g410 := by unfold sq; rw [p411.2.2.2.2 37 (by omega)]; exact hgsq
                                                                show qm_PA X 239 18 [(0, .ref 130), (1, .ref 0), (2, .ref 39), (3, .int (l3 + 5))] [] g410 Q
                                                                exact ih (l3 + 5) g410 ⟨(by have := ti_addK l3 (5 : Int32) 5 rfl; have := ti_subK (nI X.1) (5 : Int32) 5 rfl; show 0 ≤ (l3 + 5).toInt ∧ (l3 + 5).toInt ≤ X.1; omega), k413, k414, k415, k416, p411.1, p411.2.1, p411.2.2.1, p411.2.2.2.1, (fun k hk => f412 k hk)⟩ (by have := ti_addK l3 (5 : Int32) 5 rfl; have := ti_subK (nI X.1) (5 : Int32) 5 rfl; show ((X.1 : Int) + 5 - (l3 + 5).toInt).toNat < n; omega)
                                                              · refine ⟨fun c417 => ?_, fun c418 => ?_⟩
                                                                · refine ⟨(by have := ti_addK l3 (1 : Int32) 1 rfl; have := ti_subK (nI X.1) (5 : Int32) 5 rfl; omega), ?_⟩
                                                                  refine ⟨(by have := ti_addK l3 (2 : Int32) 2 rfl; have := ti_subK (nI X.1) (5 : Int32) 5 rfl; omega), ?_⟩
                                                                  refine sf_119_0 X g (X.2 (l3 + 1).toInt.toNat) (X.2 (l3 + 2).toInt.toNat) ⟨hg1, hg8, hg15, hgsq⟩ _ (fun r419 g420 p421 => ?_)
                                                                  have f422 : ∀ k, (k < 0 ∨ 50 < k) → g420 k = h k := fun k hk => (p421.2.2.2.2 k (by omega)).trans (hgf k hk)
                                                                  have k423 : mi g420 := by unfold mi; rw [p421.2.2.2.2 39 (by omega)]; exact hgmi
                                                                  have k424 : sm g420 := by unfold sm; rw [p421.2.2.2.2 40 (by omega)]; exact hgsm
                                                                  have k425 : zs g420 := by unfold zs; rw [p421.2.2.2.2 49 (by omega)]; exact hgzs
                                                                  have k426 : rw_ g420 := by unfold rw_; rw [p421.2.2.2.2 46 (by omega)]; exact hgrw
                                                                  show (0 ≤ (l3 + 1).toInt ∧ (l3 + 1).toInt < (X.1 : Int)) ∧ ((0 ≤ (l3 + 2).toInt ∧ (l3 + 2).toInt < (X.1 : Int)) ∧ (qm_PW X 225 [.ref 39, .int (X.2 (l3 + 1).toInt.toNat), .int (X.2 (l3 + 2).toInt.toNat)] g420 _))
                                                                  refine ⟨(by have := ti_addK l3 (1 : Int32) 1 rfl; have := ti_subK (nI X.1) (5 : Int32) 5 rfl; omega), ?_⟩
                                                                  refine ⟨(by have := ti_addK l3 (2 : Int32) 2 rfl; have := ti_subK (nI X.1) (5 : Int32) 5 rfl; omega), ?_⟩
                                                                  refine sf_225_39 X g420 (X.2 (l3 + 1).toInt.toNat) (X.2 (l3 + 2).toInt.toNat) ⟨k423, k424, k425, k426⟩ _ (fun r427 g428 p429 => ?_)
                                                                  have f430 : ∀ k, (k < 0 ∨ 50 < k) → g428 k = h k := fun k hk => (p429.2.2.2.2 k (by omega)).trans (f422 k hk)
                                                                  have k431 : mq 1 g428 := by unfold mq; rw [p429.2.2.2.2 1 (by omega)]; exact p421.1
                                                                  have k432 : mq 8 g428 := by unfold mq; rw [p429.2.2.2.2 8 (by omega)]; exact p421.2.1
                                                                  have k433 : mq 15 g428 := by unfold mq; rw [p429.2.2.2.2 15 (by omega)]; exact p421.2.2.1
                                                                  have k434 : sq g428 := by unfold sq; rw [p429.2.2.2.2 37 (by omega)]; exact p421.2.2.2.1
                                                                  show qm_PA X 239 18 [(0, .ref 130), (1, .ref 0), (2, .ref 39), (3, .int (l3 + 5))] [] g428 Q
                                                                  exact ih (l3 + 5) g428 ⟨(by have := ti_addK l3 (5 : Int32) 5 rfl; have := ti_subK (nI X.1) (5 : Int32) 5 rfl; show 0 ≤ (l3 + 5).toInt ∧ (l3 + 5).toInt ≤ X.1; omega), k431, k432, k433, k434, p429.1, p429.2.1, p429.2.2.1, p429.2.2.2.1, (fun k hk => f430 k hk)⟩ (by have := ti_addK l3 (5 : Int32) 5 rfl; have := ti_subK (nI X.1) (5 : Int32) 5 rfl; show ((X.1 : Int) + 5 - (l3 + 5).toInt).toNat < n; omega)
                                                                · refine ⟨fun c435 => ?_, fun c436 => ?_⟩
                                                                  · refine ⟨(by have := ti_addK l3 (1 : Int32) 1 rfl; have := ti_subK (nI X.1) (5 : Int32) 5 rfl; omega), ?_⟩
                                                                    refine sf_120_0 X g (X.2 (l3 + 1).toInt.toNat) ⟨hg1, hg8, hg15, hgsq⟩ _ (fun r437 g438 p439 => ?_)
                                                                    have f440 : ∀ k, (k < 0 ∨ 50 < k) → g438 k = h k := fun k hk => (p439.2.2.2.2 k (by omega)).trans (hgf k hk)
                                                                    have k441 : mi g438 := by unfold mi; rw [p439.2.2.2.2 39 (by omega)]; exact hgmi
                                                                    have k442 : sm g438 := by unfold sm; rw [p439.2.2.2.2 40 (by omega)]; exact hgsm
                                                                    have k443 : zs g438 := by unfold zs; rw [p439.2.2.2.2 49 (by omega)]; exact hgzs
                                                                    have k444 : rw_ g438 := by unfold rw_; rw [p439.2.2.2.2 46 (by omega)]; exact hgrw
                                                                    show (0 ≤ (l3 + 1).toInt ∧ (l3 + 1).toInt < (X.1 : Int)) ∧ (qm_PW X 226 [.ref 39, .int (X.2 (l3 + 1).toInt.toNat)] g438 _)
                                                                    refine ⟨(by have := ti_addK l3 (1 : Int32) 1 rfl; have := ti_subK (nI X.1) (5 : Int32) 5 rfl; omega), ?_⟩
                                                                    refine sf_226_39 X g438 (X.2 (l3 + 1).toInt.toNat) ⟨k441, k442, k443, k444⟩ _ (fun r445 g446 p447 => ?_)
                                                                    have f448 : ∀ k, (k < 0 ∨ 50 < k) → g446 k = h k := fun k hk => (p447.2.2.2.2 k (by omega)).trans (f440 k hk)
                                                                    have k449 : mq 1 g446 := by unfold mq; rw [p447.2.2.2.2 1 (by omega)]; exact p439.1
                                                                    have k450 : mq 8 g446 := by unfold mq; rw [p447.2.2.2.2 8 (by omega)]; exact p439.2.1
                                                                    have k451 : mq 15 g446 := by unfold mq; rw [p447.2.2.2.2 15 (by omega)]; exact p439.2.2.1
                                                                    have k452 : sq g446 := by unfold sq; rw [p447.2.2.2.2 37 (by omega)]; exact p439.2.2.2.1
                                                                    show qm_PA X 239 18 [(0, .ref 130), (1, .ref 0), (2, .ref 39), (3, .int (l3 + 5))] [] g446 Q
                                                                    exact ih (l3 + 5) g446 ⟨(by have := ti_addK l3 (5 : Int32) 5 rfl; have := ti_subK (nI X.1) (5 : Int32) 5 rfl; show 0 ≤ (l3 + 5).toInt ∧ (l3 + 5).toInt ≤ X.1; omega), k449, k450, k451, k452, p447.1, p447.2.1, p447.2.2.1, p447.2.2.2.1, (fun k hk => f448 k hk)⟩ (by have := ti_addK l3 (5 : Int32) 5 rfl; have := ti_subK (nI X.1) (5 : Int32) 5 rfl; show ((X.1 : Int) + 5 - (l3 + 5).toInt).toNat < n; omega)
                                                                  · refine ⟨fun c453 => ?_, fun c454 => ?_⟩
                                                                    · refine ⟨(by have := ti_addK l3 (1 : Int32) 1 rfl; have := ti_subK (nI X.1) (5 : Int32) 5 rfl; omega), ?_⟩
                                                                      refine sf_121_0 X g (X.2 (l3 + 1).toInt.toNat) ⟨hg1, hg8, hg15, hgsq⟩ _ (fun r455 g456 p457 => ?_)
                                                                      have f458 : ∀ k, (k < 0 ∨ 50 < k) → g456 k = h k := fun k hk => (p457.2.2.2.2 k (by omega)).trans (hgf k hk)
                                                                      have k459 : mi g456 := by unfold mi; rw [p457.2.2.2.2 39 (by omega)]; exact hgmi
                                                                      have k460 : sm g456 := by unfold sm; rw [p457.2.2.2.2 40 (by omega)]; exact hgsm
                                                                      have k461 : zs g456 := by unfold zs; rw [p457.2.2.2.2 49 (by omega)]; exact hgzs
                                                                      have k462 : rw_ g456 := by unfold rw_; rw [p457.2.2.2.2 46 (by omega)]; exact hgrw
                                                                      show (0 ≤ (l3 + 1).toInt ∧ (l3 + 1).toInt < (X.1 : Int)) ∧ (qm_PW X 228 [.ref 39, .int (X.2 (l3 + 1).toInt.toNat)] g456 _)
                                                                      refine ⟨(by have := ti_addK l3 (1 : Int32) 1 rfl; have := ti_subK (nI X.1) (5 : Int32) 5 rfl; omega), ?_⟩
                                                                      refine sf_228_39 X g456 (X.2 (l3 + 1).toInt.toNat) ⟨k459, k460, k461, k462⟩ _ (fun r463 g464 p465 => ?_)
                                                                      have f466 : ∀ k, (k < 0 ∨ 50 < k) → g464 k = h k := fun k hk => (p465.2.2.2.2 k (by omega)).trans (f458 k hk)
                                                                      have k467 : mq 1 g464 := by unfold mq; rw [p465.2.2.2.2 1 (by omega)]; exact p457.1
                                                                      have k468 : mq 8 g464 := by unfold mq; rw [p465.2.2.2.2 8 (by omega)]; exact p457.2.1
                                                                      have k469 : mq 15 g464 := by unfold mq; rw [p465.2.2.2.2 15 (by omega)]; exact p457.2.2.1
                                                                      have k470 : sq g464 := by unfold sq; rw [p465.2.2.2.2 37 (by omega)]; exact p457.2.2.2.1
                                                                      show qm_PA X 239 18 [(0, .ref 130), (1, .ref 0), (2, .ref 39), (3, .int (l3 + 5))] [] g464 Q
                                                                      exact ih (l3 + 5) g464 ⟨(by have := ti_addK l3 (5 : Int32) 5 rfl; have := ti_subK (nI X.1) (5 : Int32) 5 rfl; show 0 ≤ (l3 + 5).toInt ∧ (l3 + 5).toInt ≤ X.1; omega), k467, k468, k469, k470, p465.1, p465.2.1, p465.2.2.1, p465.2.2.2.1, (fun k hk => f466 k hk)⟩ (by have := ti_addK l3 (5 : Int32) 5 rfl; have := ti_subK (nI X.1) (5 : Int32) 5 rfl; show ((X.1 : Int) + 5 - (l3 + 5).toInt).toNat < n; omega)
                                                                    · refine ⟨fun c471 => ?_, fun c472 => ?_⟩
                                                                      · refine ⟨(by have := ti_addK l3 (1 : Int32) 1 rfl; have := ti_subK (nI X.1) (5 : Int32) 5 rfl; omega), ?_⟩
                                                                        refine ⟨(by have := ti_addK l3 (2 : Int32) 2 rfl; have := ti_subK (nI X.1) (5 : Int32) 5 rfl; omega), ?_⟩
                                                                        refine ⟨(by have := ti_addK l3 (3 : Int32) 3 rfl; have := ti_subK (nI X.1) (5 : Int32) 5 rfl; omega), ?_⟩
                                                                        refine sf_122_0 X g (X.2 (l3 + 1).toInt.toNat) (X.2 (l3 + 2).toInt.toNat) (X.2 (l3 + 3).toInt.toNat) hg1 _ (fun r473 p474 => ?_)
                                                                        show (0 ≤ (l3 + 1).toInt ∧ (l3 + 1).toInt < (X.1 : Int)) ∧ ((0 ≤ (l3 + 2).toInt ∧ (l3 + 2).toInt < (X.1 : Int)) ∧ ((0 ≤ (l3 + 3).toInt ∧ (l3 + 3).toInt < (X.1 : Int)) ∧ (qm_PW X 229 [.ref 39, .int (X.2 (l3 + 1).toInt.toNat), .int (X.2 (l3 + 2).toInt.toNat), .int (X.2 (l3 + 3).toInt.toNat)] g _)))
                                                                        refine ⟨(by have := ti_addK l3 (1 : Int32) 1 rfl; have := ti_subK (nI X.1) (5 : Int32) 5 rfl; omega), ?_⟩
                                                                        refine ⟨(by have := ti_addK l3 (2 : Int32) 2 rfl; have := ti_subK (nI X.1) (5 : Int32) 5 rfl; omega), ?_⟩
                                                                        refine ⟨(by have := ti_addK l3 (3 : Int32) 3 rfl; have := ti_subK (nI X.1) (5 : Int32) 5 rfl; omega), ?_⟩
                                                                        refine sf_229_39 X g (X.2 (l3 + 1).toInt.toNat) (X.2 (l3 + 2).toInt.toNat) (X.2 (l3 + 3).toInt.toNat) ⟨hgmi, hgsm, hgzs, hgrw⟩ _ (fun r475 g476 p477 => ?_)
                                                                        have f478 : ∀ k, (k < 0 ∨ 50 < k) → g476 k = h k := fun k hk => (p477.2.2.2.2 k (by omega)).trans (hgf k hk)
                                                                        have k479 : mq 1 g476 := by unfold mq; rw [p477.2.2.2.2 1 (by omega)]; exact hg1
                                                                        have k480 : mq 8 g476 := by unfold mq; rw [p477.2.2.2.2 8 (by omega)]; exact hg8
                                                                        have k481 : mq 15 g476 := by unfold mq; rw [p477.2.2.2.2 15 (by omega)]; exact hg15
                                                                        have k482 : sq g476 := by unfold sq; rw [p477.2.2.2.2 37 (by omega)]; exact hgsq
                                                                        show qm_PA X 239 18 [(0, .ref 130), (1, .ref 0), (2, .ref 39), (3, .int (l3 + 5))] [] g476 Q
                                                                        exact ih (l3 + 5) g476 ⟨(by have := ti_addK l3 (5 : Int32) 5 rfl; have := ti_subK (nI X.1) (5 : Int32) 5 rfl; show 0 ≤ (l3 + 5).toInt ∧ (l3 + 5).toInt ≤ X.1; omega), k479, k480, k481, k482, p477.1, p477.2.1, p477.2.2.1, p477.2.2.2.1, (fun k hk => f478 k hk)⟩ (by have := ti_addK l3 (5 : Int32) 5 rfl; have := ti_subK (nI X.1) (5 : Int32) 5 rfl; show ((X.1 : Int) + 5 - (l3 + 5).toInt).toNat < n; omega)
                                                                      · refine ⟨fun c483 => ?_, fun c484 => ?_⟩
                                                                        · refine ⟨(by have := ti_addK l3 (1 : Int32) 1 rfl; have := ti_subK (nI X.1) (5 : Int32) 5 rfl; omega), ?_⟩
                                                                          refine sf_123_0 X g (X.2 (l3 + 1).toInt.toNat) ⟨hg1, hg8, hg15, hgsq⟩ _ (fun r485 g486 p487 => ?_)
                                                                          have f488 : ∀ k, (k < 0 ∨ 50 < k) → g486 k = h k := fun k hk => (p487.2.2.2.2 k (by omega)).trans (hgf k hk)
                                                                          have k489 : mi g486 := by unfold mi; rw [p487.2.2.2.2 39 (by omega)]; exact hgmi
                                                                          have k490 : sm g486 := by unfold sm; rw [p487.2.2.2.2 40 (by omega)]; exact hgsm
                                                                          have k491 : zs g486 := by unfold zs; rw [p487.2.2.2.2 49 (by omega)]; exact hgzs
                                                                          have k492 : rw_ g486 := by unfold rw_; rw [p487.2.2.2.2 46 (by omega)]; exact hgrw
                                                                          show (0 ≤ (l3 + 1).toInt ∧ (l3 + 1).toInt < (X.1 : Int)) ∧ (qm_PW X 231 [.ref 39, .int (X.2 (l3 + 1).toInt.toNat)] g486 _)
                                                                          refine ⟨(by have := ti_addK l3 (1 : Int32) 1 rfl; have := ti_subK (nI X.1) (5 : Int32) 5 rfl; omega), ?_⟩
                                                                          refine sf_231_39 X g486 (X.2 (l3 + 1).toInt.toNat) ⟨k489, k490, k491, k492⟩ _ (fun r493 g494 p495 => ?_)
                                                                          have f496 : ∀ k, (k < 0 ∨ 50 < k) → g494 k = h k := fun k hk => (p495.2.2.2.2 k (by omega)).trans (f488 k hk)
                                                                          have k497 : mq 1 g494 := by unfold mq; rw [p495.2.2.2.2 1 (by omega)]; exact p487.1
                                                                          have k498 : mq 8 g494 := by unfold mq; rw [p495.2.2.2.2 8 (by omega)]; exact p487.2.1
                                                                          have k499 : mq 15 g494 := by unfold mq; rw [p495.2.2.2.2 15 (by omega)]; exact p487.2.2.1
                                                                          have k500 : sq g494 := by unfold sq; rw [p495.2.2.2.2 37 (by omega)]; exact p487.2.2.2.1
                                                                          show qm_PA X 239 18 [(0, .ref 130), (1, .ref 0), (2, .ref 39), (3, .int (l3 + 5))] [] g494 Q
                                                                          exact ih (l3 + 5) g494 ⟨(by have := ti_addK l3 (5 : Int32) 5 rfl; have := ti_subK (nI X.1) (5 : Int32) 5 rfl; show 0 ≤ (l3 + 5).toInt ∧ (l3 + 5).toInt ≤ X.1; omega), k497, k498, k499, k500, p495.1, p495.2.1, p495.2.2.1, p495.2.2.2.1, (fun k hk => f496 k hk)⟩ (by have := ti_addK l3 (5 : Int32) 5 rfl; have := ti_subK (nI X.1) (5 : Int32) 5 rfl; show ((X.1 : Int) + 5 - (l3 + 5).toInt).toNat < n; omega)
                                                                        · refine ⟨fun c501 => ?_, fun c502 => ?_⟩
                                                                          · refine ⟨(by have := ti_addK l3 (1 : Int32) 1 rfl; have := ti_subK (nI X.1) (5 : Int32) 5 rfl; omega), ?_⟩
                                                                            refine sf_124_0 X g (X.2 (l3 + 1).toInt.toNat) ⟨hg1, hg8, hg15, hgsq⟩ _ (fun r503 g504 p505 => ?_)
                                                                            have f506 : ∀ k, (k < 0 ∨ 50 < k) → g504 k = h k := fun k hk => (p505.2.2.2.2 k (by omega)).trans (hgf k hk)
                                                                            have k507 : mi g504 := by unfold mi; rw [p505.2.2.2.2 39 (by omega)]; exact hgmi
                                                                            have k508 : sm g504 := by unfold sm; rw [p505.2.2.2.2 40 (by omega)]; exact hgsm
                                                                            have k509 : zs g504 := by unfold zs; rw [p505.2.2.2.2 49 (by omega)]; exact hgzs
                                                                            have k510 : rw_ g504 := by unfold rw_; rw [p505.2.2.2.2 46 (by omega)]; exact hgrw
                                                                            show (0 ≤ (l3 + 1).toInt ∧ (l3 + 1).toInt < (X.1 : Int)) ∧ (qm_PW X 232 [.ref 39, .int (X.2 (l3 + 1).toInt.toNat)] g504 _)
                                                                            refine ⟨(by have := ti_addK l3 (1 : Int32) 1 rfl; have := ti_subK (nI X.1) (5 : Int32) 5 rfl; omega), ?_⟩
                                                                            refine sf_232_39 X g504 (X.2 (l3 + 1).toInt.toNat) ⟨k507, k508, k509, k510⟩ _ (fun r511 g512 p513 => ?_)
                                                                            have f514 : ∀ k, (k < 0 ∨ 50 < k) → g512 k = h k := fun k hk => (p513.2.2.2.2 k (by omega)).trans (f506 k hk)
                                                                            have k515 : mq 1 g512 := by unfold mq; rw [p513.2.2.2.2 1 (by omega)]; exact p505.1
                                                                            have k516 : mq 8 g512 := by unfold mq; rw [p513.2.2.2.2 8 (by omega)]; exact p505.2.1
                                                                            have k517 : mq 15 g512 := by unfold mq; rw [p513.2.2.2.2 15 (by omega)]; exact p505.2.2.1
                                                                            have k518 : sq g512 := by unfold sq; rw [p513.2.2.2.2 37 (by omega)]; exact p505.2.2.2.1
                                                                            show qm_PA X 239 18 [(0, .ref 130), (1, .ref 0), (2, .ref 39), (3, .int (l3 + 5))] [] g512 Q
                                                                            exact ih (l3 + 5) g512 ⟨(by have := ti_addK l3 (5 : Int32) 5 rfl; have := ti_subK (nI X.1) (5 : Int32) 5 rfl; show 0 ≤ (l3 + 5).toInt ∧ (l3 + 5).toInt ≤ X.1; omega), k515, k516, k517, k518, p513.1, p513.2.1, p513.2.2.1, p513.2.2.2.1, (fun k hk => f514 k hk)⟩ (by have := ti_addK l3 (5 : Int32) 5 rfl; have := ti_subK (nI X.1) (5 : Int32) 5 rfl; show ((X.1 : Int) + 5 - (l3 + 5).toInt).toNat < n; omega)
                                                                          · refine ⟨fun c519 => ?_, fun c520 => ?_⟩
                                                                            · refine ⟨(by have := ti_addK l3 (1 : Int32) 1 rfl; have := ti_subK (nI X.1) (5 : Int32) 5 rfl; omega), ?_⟩
                                                                              refine ⟨(by have := ti_addK l3 (2 : Int32) 2 rfl; have := ti_subK (nI X.1) (5 : Int32) 5 rfl; omega), ?_⟩
                                                                              refine ⟨(by have := ti_addK l3 (3 : Int32) 3 rfl; have := ti_subK (nI X.1) (5 : Int32) 5 rfl; omega), ?_⟩
                                                                              refine sg_125 X g (X.2 (l3 + 1).toInt.toNat) (X.2 (l3 + 2).toInt.toNat) (X.2 (l3 + 3).toInt.toNat) ⟨hg1, hg8, hg15, hgsq⟩ _ (fun r521 g522 p523 => ?_)
                                                                              have f524 : ∀ k, (k < 0 ∨ 50 < k) → g522 k = h k := fun k hk => (p523.2.2.2.2.1 k (by omega)).trans (hgf k hk)
                                                                              have k525 : mi g522 := by unfold mi; rw [p523.2.2.2.2.1 39 (by omega)]; exact hgmi
                                                                              have k526 : sm g522 := by unfold sm; rw [p523.2.2.2.2.1 40 (by omega)]; exact hgsm
                                                                              have k527 : zs g522 := by unfold zs; rw [p523.2.2.2.2.1 49 (by omega)]; exact hgzs
                                                                              have k528 : rw_ g522 := by unfold rw_; rw [p523.2.2.2.2.1 46 (by omega)]; exact hgrw
                                                                              have o529 : (r521.toInt = -1 ∧ (((X.2 (l3 + 1).toInt.toNat).toInt < 0 ∨ 3 < (X.2 (l3 + 1).toInt.toNat).toInt) ∨ ((X.2 (l3 + 2).toInt.toNat).toInt < 0 ∨ 2 < (X.2 (l3 + 2).toInt.toNat).toInt) ∨ 40 < (X.2 (l3 + 3).toInt.toNat).toInt)) ∨ (r521.toInt = -14 ∧ ((0 ≤ (X.2 (l3 + 1).toInt.toNat).toInt ∧ (X.2 (l3 + 1).toInt.toNat).toInt ≤ 3) ∧ (0 ≤ (X.2 (l3 + 2).toInt.toNat).toInt ∧ (X.2 (l3 + 2).toInt.toNat).toInt ≤ 2)) ∧ (X.2 (l3 + 3).toInt.toNat).toInt < 0) ∨ (r521.toInt = 1 ∧ ((0 ≤ (X.2 (l3 + 1).toInt.toNat).toInt ∧ (X.2 (l3 + 1).toInt.toNat).toInt ≤ 3) ∧ (0 ≤ (X.2 (l3 + 2).toInt.toNat).toInt ∧ (X.2 (l3 + 2).toInt.toNat).toInt ≤ 2)) ∧ 0 ≤ (X.2 (l3 + 3).toInt.toNat).toInt ∧ (X.2 (l3 + 3).toInt.toNat).toInt ≤ 40) := p523.2.2.2.2.2
                                                                              show (0 ≤ (l3 + 1).toInt ∧ (l3 + 1).toInt < (X.1 : Int)) ∧ ((0 ≤ (l3 + 2).toInt ∧ (l3 + 2).toInt < (X.1 : Int)) ∧ ((0 ≤ (l3 + 3).toInt ∧ (l3 + 3).toInt < (X.1 : Int)) ∧ (qm_PW X 234 [.ref 39, .int (X.2 (l3 + 1).toInt.toNat), .int (X.2 (l3 + 2).toInt.toNat), .int (X.2 (l3 + 3).toInt.toNat)] g522 _)))
                                                                              refine ⟨(by have := ti_addK l3 (1 : Int32) 1 rfl; have := ti_subK (nI X.1) (5 : Int32) 5 rfl; have := ti_addK l3 (2 : Int32) 2 rfl; have := ti_addK l3 (3 : Int32) 3 rfl; omega), ?_⟩
                                                                              refine ⟨(by have := ti_addK l3 (2 : Int32) 2 rfl; have := ti_subK (nI X.1) (5 : Int32) 5 rfl; have := ti_addK l3 (1 : Int32) 1 rfl; have := ti_addK l3 (3 : Int32) 3 rfl; omega), ?_⟩
                                                                              refine ⟨(by have := ti_addK l3 (3 : Int32) 3 rfl; have := ti_subK (nI X.1) (5 : Int32) 5 rfl; have := ti_addK l3 (1 : Int32) 1 rfl; have := ti_addK l3 (2 : Int32) 2 rfl; omega), ?_⟩
                                                                              refine sg_234 X g522 (X.2 (l3 + 1).toInt.toNat) (X.2 (l3 + 2).toInt.toNat) (X.2 (l3 + 3).toInt.toNat) ⟨k525, k526, k527, k528⟩ _ (fun r530 g531 p532 => ?_)
                                                                              have f533 : ∀ k, (k < 0 ∨ 50 < k) → g531 k = h k := fun k hk => (p532.2.2.2.2.1 k (by omega)).trans (f524 k hk)
                                                                              have k534 : mq 1 g531 := by unfold mq; rw [p532.2.2.2.2.1 1 (by omega)]; exact p523.1
                                                                              have k535 : mq 8 g531 := by unfold mq; rw [p532.2.2.2.2.1 8 (by omega)]; exact p523.2.1
                                                                              have k536 : mq 15 g531 := by unfold mq; rw [p532.2.2.2.2.1 15 (by omega)]; exact p523.2.2.1
                                                                              have k537 : sq g531 := by unfold sq; rw [p532.2.2.2.2.1 37 (by omega)]; exact p523.2.2.2.1
                                                                              have o538 : (r530.toInt = -1 ∧ (((X.2 (l3 + 1).toInt.toNat).toInt < 0 ∨ 3 < (X.2 (l3 + 1).toInt.toNat).toInt) ∨ ((X.2 (l3 + 2).toInt.toNat).toInt < 0 ∨ 2 < (X.2 (l3 + 2).toInt.toNat).toInt) ∨ 40 < (X.2 (l3 + 3).toInt.toNat).toInt)) ∨ (r530.toInt = -14 ∧ ((0 ≤ (X.2 (l3 + 1).toInt.toNat).toInt ∧ (X.2 (l3 + 1).toInt.toNat).toInt ≤ 3) ∧ (0 ≤ (X.2 (l3 + 2).toInt.toNat).toInt ∧ (X.2 (l3 + 2).toInt.toNat).toInt ≤ 2)) ∧ (X.2 (l3 + 3).toInt.toNat).toInt < 0) ∨ (r530.toInt = 1 ∧ ((0 ≤ (X.2 (l3 + 1).toInt.toNat).toInt ∧ (X.2 (l3 + 1).toInt.toNat).toInt ≤ 3) ∧ (0 ≤ (X.2 (l3 + 2).toInt.toNat).toInt ∧ (X.2 (l3 + 2).toInt.toNat).toInt ≤ 2)) ∧ 0 ≤ (X.2 (l3 + 3).toInt.toNat).toInt ∧ (X.2 (l3 + 3).toInt.toNat).toInt ≤ 40) := p532.2.2.2.2.2
                                                                              show (r521 = r530 → (qm_PA X 239 18 [(0, .ref 130), (1, .ref 0), (2, .ref 39), (3, .int (l3 + 5))] [] g531 Q)) ∧ (¬ r521 = r530 → (((0 : Int32) = 0 ∨ (0 : Int32) = 1) ∧ Q (some (.int 0)) g531))
                                                                              refine ⟨fun c539 => ?_, fun c540 => ?_⟩
                                                                              · exact ih (l3 + 5) g531 ⟨(by have := ti_addK l3 (5 : Int32) 5 rfl; have := ti_subK (nI X.1) (5 : Int32) 5 rfl; have := ti_addK l3 (1 : Int32) 1 rfl; have := ti_addK l3 (2 : Int32) 2 rfl; have := ti_addK l3 (3 : Int32) 3 rfl; show 0 ≤ (l3 + 5).toInt ∧ (l3 + 5).toInt ≤ X.1; omega), k534, k535, k536, k537, p532.1, p532.2.1, p532.2.2.1, p532.2.2.2.1, (fun k hk => f533 k hk)⟩ (by have := ti_addK l3 (5 : Int32) 5 rfl; have := ti_subK (nI X.1) (5 : Int32) 5 rfl; have := ti_addK l3 (1 : Int32) 1 rfl; have := ti_addK l3 (2 : Int32) 2 rfl; have := ti_addK l3 (3 : Int32) 3 rfl; show ((X.1 : Int) + 5 - (l3 + 5).toInt).toNat < n; omega)
                                                                              · exact ⟨Or.inl rfl, hq 0 g531 ⟨k534, k535, k536, k537, p532.1, p532.2.1, p532.2.2.1, p532.2.2.2.1, (fun k hk => f533 k hk), (by have := ti_subK (nI X.1) (5 : Int32) 5 rfl; have := ti_addK l3 (1 : Int32) 1 rfl; have := ti_addK l3 (2 : Int32) 2 rfl; have := ti_addK l3 (3 : Int32) 3 rfl; first | rfl | exact absurd (Int32.toInt_inj.mp (by omega)) (by assumption))⟩⟩
                                                                            · refine ⟨fun c541 => ?_, fun c542 => ?_⟩
                                                                              · refine ⟨(by have := ti_addK l3 (1 : Int32) 1 rfl; have := ti_subK (nI X.1) (5 : Int32) 5 rfl; omega), ?_⟩
                                                                                refine ⟨(by have := ti_addK l3 (2 : Int32) 2 rfl; have := ti_subK (nI X.1) (5 : Int32) 5 rfl; omega), ?_⟩
                                                                                refine ⟨(by have := ti_addK l3 (3 : Int32) 3 rfl; have := ti_subK (nI X.1) (5 : Int32) 5 rfl; omega), ?_⟩
                                                                                refine sf_126_0 X g (X.2 (l3 + 1).toInt.toNat) (X.2 (l3 + 2).toInt.toNat) (X.2 (l3 + 3).toInt.toNat) ⟨hg1, hg8, hg15, hgsq⟩ _ (fun r543 g544 p545 => ?_)
                                                                                have f546 : ∀ k, (k < 0 ∨ 50 < k) → g544 k = h k := fun k hk => (p545.2.2.2.2 k (by omega)).trans (hgf k hk)
                                                                                have k547 : mi g544 := by unfold mi; rw [p545.2.2.2.2 39 (by omega)]; exact hgmi
                                                                                have k548 : sm g544 := by unfold sm; rw [p545.2.2.2.2 40 (by omega)]; exact hgsm
                                                                                have k549 : zs g544 := by unfold zs; rw [p545.2.2.2.2 49 (by omega)]; exact hgzs
                                                                                have k550 : rw_ g544 := by unfold rw_; rw [p545.2.2.2.2 46 (by omega)]; exact hgrw
                                                                                show (0 ≤ (l3 + 1).toInt ∧ (l3 + 1).toInt < (X.1 : Int)) ∧ ((0 ≤ (l3 + 2).toInt ∧ (l3 + 2).toInt < (X.1 : Int)) ∧ ((0 ≤ (l3 + 3).toInt ∧ (l3 + 3).toInt < (X.1 : Int)) ∧ (qm_PW X 235 [.ref 39, .int (X.2 (l3 + 1).toInt.toNat), .int (X.2 (l3 + 2).toInt.toNat), .int (X.2 (l3 + 3).toInt.toNat)] g544 _)))
                                                                                refine ⟨(by have := ti_addK l3 (1 : Int32) 1 rfl; have := ti_subK (nI X.1) (5 : Int32) 5 rfl; omega), ?_⟩
                                                                                refine ⟨(by have := ti_addK l3 (2 : Int32) 2 rfl; have := ti_subK (nI X.1) (5 : Int32) 5 rfl; omega), ?_⟩
                                                                                refine ⟨(by have := ti_addK l3 (3 : Int32) 3 rfl; have := ti_subK (nI X.1) (5 : Int32) 5 rfl; omega), ?_⟩
                                                                                refine sf_235_39 X g544 (X.2 (l3 + 1).toInt.toNat) (X.2 (l3 + 2).toInt.toNat) (X.2 (l3 + 3).toInt.toNat) ⟨k547, k548, k549, k550⟩ _ (fun r551 g552 p553 => ?_)
                                                                                have f554 : ∀ k, (k < 0 ∨ 50 < k) → g552 k = h k := fun k hk => (p553.2.2.2.2 k (by omega)).trans (f546 k hk)
                                                                                have k555 : mq 1 g552 := by unfold mq; rw [p553.2.2.2.2 1 (by omega)]; exact p545.1
                                                                                have k556 : mq 8 g552 := by unfold mq; rw [p553.2.2.2.2 8 (by omega)]; exact p545.2.1
                                                                                have k557 : mq 15 g552 := by unfold mq; rw [p553.2.2.2.2 15 (by omega)]; exact p545.2.2.1
                                                                                have k558 : sq g552 := by unfold sq; rw [p553.2.2.2.2 37 (by omega)]; exact p545.2.2.2.1
                                                                                show qm_PA X 239 18 [(0, .ref 130), (1, .ref 0), (2, .ref 39), (3, .int (l3 + 5))] [] g552 Q
                                                                                exact ih (l3 + 5) g552 ⟨(by have := ti_addK l3 (5 : Int32) 5 rfl; have := ti_subK (nI X.1) (5 : Int32) 5 rfl; show 0 ≤ (l3 + 5).toInt ∧ (l3 + 5).toInt ≤ X.1; omega), k555, k556, k557, k558, p553.1, p553.2.1, p553.2.2.1, p553.2.2.2.1, (fun k hk => f554 k hk)⟩ (by have := ti_addK l3 (5 : Int32) 5 rfl; have := ti_subK (nI X.1) (5 : Int32) 5 rfl; show ((X.1 : Int) + 5 - (l3 + 5).toInt).toNat < n; omega)
                                                                              · refine ⟨fun c559 => ?_, fun c560 => ?_⟩
                                                                                · refine ⟨(by have := ti_addK l3 (1 : Int32) 1 rfl; have := ti_subK (nI X.1) (5 : Int32) 5 rfl; omega), ?_⟩
                                                                                  refine ⟨(by have := ti_addK l3 (2 : Int32) 2 rfl; have := ti_subK (nI X.1) (5 : Int32) 5 rfl; omega), ?_⟩
                                                                                  refine ⟨(by have := ti_addK l3 (3 : Int32) 3 rfl; have := ti_subK (nI X.1) (5 : Int32) 5 rfl; omega), ?_⟩
                                                                                  refine ⟨(by have := ti_addK l3 (4 : Int32) 4 rfl; have := ti_subK (nI X.1) (5 : Int32) 5 rfl; omega), ?_⟩
                                                                                  refine sf_127_0 X g (X.2 (l3 + 1).toInt.toNat) (X.2 (l3 + 2).toInt.toNat) (X.2 (l3 + 3).toInt.toNat) (X.2 (l3 + 4).toInt.toNat) ⟨hg1, hg8, hg15, hgsq⟩ _ (fun r561 g562 p563 => ?_)
                                                                                  have f564 : ∀ k, (k < 0 ∨ 50 < k) → g562 k = h k := fun k hk => (p563.2.2.2.2 k (by omega)).trans (hgf k hk)
                                                                                  have k565 : mi g562 := by unfold mi; rw [p563.2.2.2.2 39 (by omega)]; exact hgmi
                                                                                  have k566 : sm g562 := by unfold sm; rw [p563.2.2.2.2 40 (by omega)]; exact hgsm
                                                                                  have k567 : zs g562 := by unfold zs; rw [p563.2.2.2.2 49 (by omega)]; exact hgzs
                                                                                  have k568 : rw_ g562 := by unfold rw_; rw [p563.2.2.2.2 46 (by omega)]; exact hgrw
                                                                                  show (0 ≤ (l3 + 1).toInt ∧ (l3 + 1).toInt < (X.1 : Int)) ∧ ((0 ≤ (l3 + 2).toInt ∧ (l3 + 2).toInt < (X.1 : Int)) ∧ ((0 ≤ (l3 + 3).toInt ∧ (l3 + 3).toInt < (X.1 : Int)) ∧ ((0 ≤ (l3 + 4).toInt ∧ (l3 + 4).toInt < (X.1 : Int)) ∧ (qm_PW X 236 [.ref 39, .int (X.2 (l3 + 1).toInt.toNat), .int (X.2 (l3 + 2).toInt.toNat), .int (X.2 (l3 + 3).toInt.toNat), .int (X.2 (l3 + 4).toInt.toNat)] g562 _))))
                                                                                  refine ⟨(by have := ti_addK l3 (1 : Int32) 1 rfl; have := ti_subK (nI X.1) (5 : Int32) 5 rfl; omega), ?_⟩
                                                                                  refine ⟨(by have := ti_addK l3 (2 : Int32) 2 rfl; have := ti_subK (nI X.1) (5 : Int32) 5 rfl; omega), ?_⟩
                                                                                  refine ⟨(by have := ti_addK l3 (3 : Int32) 3 rfl; have := ti_subK (nI X.1) (5 : Int32) 5 rfl; omega), ?_⟩
                                                                                  refine ⟨(by have := ti_addK l3 (4 : Int32) 4 rfl; have := ti_subK (nI X.1) (5 : Int32) 5 rfl; omega), ?_⟩
                                                                                  refine sf_236_39 X g562 (X.2 (l3 + 1).toInt.toNat) (X.2 (l3 + 2).toInt.toNat) (X.2 (l3 + 3).toInt.toNat) (X.2 (l3 + 4).toInt.toNat) ⟨k565, k566, k567, k568⟩ _ (fun r569 g570 p571 => ?_)
                                                                                  have f572 : ∀ k, (k < 0 ∨ 50 < k) → g570 k = h k := fun k hk => (p571.2.2.2.2 k (by omega)).trans (f564 k hk)
                                                                                  have k573 : mq 1 g570 := by unfold mq; rw [p571.2.2.2.2 1 (by omega)]; exact p563.1
                                                                                  have k574 : mq 8 g570 := by unfold mq; rw [p571.2.2.2.2 8 (by omega)]; exact p563.2.1
                                                                                  have k575 : mq 15 g570 := by unfold mq; rw [p571.2.2.2.2 15 (by omega)]; exact p563.2.2.1
                                                                                  have k576 : sq g570 := by unfold sq; rw [p571.2.2.2.2 37 (by omega)]; exact p563.2.2.2.1
                                                                                  show qm_PA X 239 18 [(0, .ref 130), (1, .ref 0), (2, .ref 39), (3, .int (l3 + 5))] [] g570 Q
                                                                                  exact ih (l3 + 5) g570 ⟨(by have := ti_addK l3 (5 : Int32) 5 rfl; have := ti_subK (nI X.1) (5 : Int32) 5 rfl; show 0 ≤ (l3 + 5).toInt ∧ (l3 + 5).toInt ≤ X.1; omega), k573, k574, k575, k576, p571.1, p571.2.1, p571.2.2.1, p571.2.2.2.1, (fun k hk => f572 k hk)⟩ (by have := ti_addK l3 (5 : Int32) 5 rfl; have := ti_subK (nI X.1) (5 : Int32) 5 rfl; show ((X.1 : Int) + 5 - (l3 + 5).toInt).toNat < n; omega)
                                                                                · refine ⟨fun c577 => ?_, fun c578 => ?_⟩
                                                                                  · refine sf_128_0 X g  trivial _ (fun r579 p580 => ?_)
                                                                                    show qm_PW X 237 [.ref 39] g _
                                                                                    refine sf_237_39 X g  trivial _ (fun r581 p582 => ?_)
                                                                                    show qm_PA X 239 18 [(0, .ref 130), (1, .ref 0), (2, .ref 39), (3, .int (l3 + 5))] [] g Q
                                                                                    exact ih (l3 + 5) g ⟨(by have := ti_addK l3 (5 : Int32) 5 rfl; have := ti_subK (nI X.1) (5 : Int32) 5 rfl; show 0 ≤ (l3 + 5).toInt ∧ (l3 + 5).toInt ≤ X.1; omega), hg1, hg8, hg15, hgsq, hgmi, hgsm, hgzs, hgrw, (fun k hk => hgf k hk)⟩ (by have := ti_addK l3 (5 : Int32) 5 rfl; have := ti_subK (nI X.1) (5 : Int32) 5 rfl; show ((X.1 : Int) + 5 - (l3 + 5).toInt).toNat < n; omega)
                                                                                  · refine ⟨fun c583 => ?_, fun c584 => ?_⟩
                                                                                    · refine ⟨(by have := ti_addK l3 (1 : Int32) 1 rfl; have := ti_subK (nI X.1) (5 : Int32) 5 rfl; omega), ?_⟩
                                                                                      refine sf_129_0 X g (X.2 (l3 + 1).toInt.toNat) hg1 _ (fun r585 p586 => ?_)
                                                                                      show (0 ≤ (l3 + 1).toInt ∧ (l3 + 1).toInt < (X.1 : Int)) ∧ (qm_PW X 238 [.ref 39, .int (X.2 (l3 + 1).toInt.toNat)] g _)
                                                                                      refine ⟨(by have := ti_addK l3 (1 : Int32) 1 rfl; have := ti_subK (nI X.1) (5 : Int32) 5 rfl; omega), ?_⟩
                                                                                      refine sf_238_39 X g (X.2 (l3 + 1).toInt.toNat) ⟨hgmi, hgsm, hgzs, hgrw⟩ _ (fun r587 g588 p589 => ?_)
                                                                                      have f590 : ∀ k, (k < 0 ∨ 50 < k) → g588 k = h k := fun k hk => (p589.2.2.2.2 k (by omega)).trans (hgf k hk)
                                                                                      have k591 : mq 1 g588 := by unfold mq; rw [p589.2.2.2.2 1 (by omega)]; exact hg1
                                                                                      have k592 : mq 8 g588 := by unfold mq; rw [p589.2.2.2.2 8 (by omega)]; exact hg8
                                                                                      have k593 : mq 15 g588 := by unfold mq; rw [p589.2.2.2.2 15 (by omega)]; exact hg15
                                                                                      have k594 : sq g588 := by unfold sq; rw [p589.2.2.2.2 37 (by omega)]; exact hgsq
                                                                                      show qm_PA X 239 18 [(0, .ref 130), (1, .ref 0), (2, .ref 39), (3, .int (l3 + 5))] [] g588 Q
                                                                                      exact ih (l3 + 5) g588 ⟨(by have := ti_addK l3 (5 : Int32) 5 rfl; have := ti_subK (nI X.1) (5 : Int32) 5 rfl; show 0 ≤ (l3 + 5).toInt ∧ (l3 + 5).toInt ≤ X.1; omega), k591, k592, k593, k594, p589.1, p589.2.1, p589.2.2.1, p589.2.2.2.1, (fun k hk => f590 k hk)⟩ (by have := ti_addK l3 (5 : Int32) 5 rfl; have := ti_subK (nI X.1) (5 : Int32) 5 rfl; show ((X.1 : Int) + 5 - (l3 + 5).toInt).toNat < n; omega)
                                                                                    · exact ih (l3 + 5) g ⟨(by have := ti_addK l3 (5 : Int32) 5 rfl; have := ti_subK (nI X.1) (5 : Int32) 5 rfl; show 0 ≤ (l3 + 5).toInt ∧ (l3 + 5).toInt ≤ X.1; omega), hg1, hg8, hg15, hgsq, hgmi, hgsm, hgzs, hgrw, (fun k hk => hgf k hk)⟩ (by have := ti_addK l3 (5 : Int32) 5 rfl; have := ti_subK (nI X.1) (5 : Int32) 5 rfl; show ((X.1 : Int) + 5 - (l3 + 5).toInt).toNat < n; omega)
set_option maxRecDepth 100000 in
set_option maxHeartbeats 4000000 in
theorem law_ok (X : qm_X) (h : qm_H) (hp : mq 1 h ∧ mq 8 h ∧ mq 15 h ∧ sq h ∧ mi h ∧ sm h ∧ zs h ∧ rw_ h ∧ (X.1 ≤ 320)) (Q : qm_Q) (hq : ∀ r : Int32, ∀ h' : qm_H, (mq 1 h' ∧ mq 8 h' ∧ mq 15 h' ∧ sq h' ∧ mi h' ∧ sm h' ∧ zs h' ∧ rw_ h' ∧ (∀ k, (k < 0 ∨ 50 < k) → h' k = h k) ∧ (r = 1)) → Q (some (.int r)) h') : qm_PA X 239 16 [(0, .ref 130), (1, .ref 0), (2, .ref 39)] [] h Q := by
  have hm1 : mq 1 h := hp.1
  have ⟨⟨_, _⟩, ⟨_, _⟩, _, _⟩ := hm1
  have hm8 : mq 8 h := hp.2.1
  have ⟨⟨_, _⟩, ⟨_, _⟩, _, _⟩ := hm8
  have hm15 : mq 15 h := hp.2.2.1
  have ⟨⟨_, _⟩, ⟨_, _⟩, _, _⟩ := hm15
  have hmsq : sq h := hp.2.2.2.1
  have hmmi : mi h := hp.2.2.2.2.1
  have ⟨⟨_, _⟩, ⟨_, _⟩, ⟨_, _⟩, ⟨_, _⟩, _, _⟩ := hmmi
  have hmsm : sm h := hp.2.2.2.2.2.1
  have ⟨⟨⟨_, _⟩, _, _⟩, _, _, _⟩ := hmsm
  have hmzs : zs h := hp.2.2.2.2.2.2.1
  have hmrw : rw_ h := hp.2.2.2.2.2.2.2.1
  have hp0 : X.1 ≤ 320 := hp.2.2.2.2.2.2.2.2
  have hnl := nI_toInt (n := X.1) (by omega)
  refine qm_seg_ok (C := qc_239) (rt := some .boolean) rfl rfl (cuts := [(18, [0, 1, 2, 3])]) 1500 _ _ _ _ ?_
  show qm_PA X 239 18 [(0, .ref 130), (1, .ref 0), (2, .ref 39), (3, .int 0)] [] h Q
  exact (law_ok_c X h hp Q hq _) (0 : Int32) h ⟨(by have : (0 : Int32).toInt = 0 := rfl; show 0 ≤ (0 : Int32).toInt ∧ (0 : Int32).toInt ≤ X.1; omega), hm1, hm8, hm15, hmsq, hmmi, hmsm, hmzs, hmrw, (fun k hk => rfl)⟩ (Nat.lt_succ_self _)
