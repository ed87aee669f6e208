/-! ===== what is owed ===== -/
noncomputable def wc (h : qm_H) : Prop := wfM (mC h)
noncomputable def wr (h : qm_H) : Prop := wfM (mR h)
theorem wf_tr2 {M N : Mem} (h : wfM M) (e : N = M) : wfM N := e ▸ h
/-! ===== the fewest fingers ===== -/
noncomputable def stp (r : Int) (s : Int × Int) : Int × Int := if 0 < s.1 then (s.1 - r, s.2 + 1) else s
noncomputable def itN (r : Int) : Nat → Int × Int → Int × Int
  | 0, s => s
  | n + 1, s => stp r (itN r n s)
theorem stp_y {r : Int} {s : Int × Int} (h : 0 < s.1) : stp r s = (s.1 - r, s.2 + 1) := if_pos h
theorem stp_n {r : Int} {s : Int × Int} (h : ¬ 0 < s.1) : stp r s = s := if_neg h
theorem itN_stop {r : Int} {s : Int × Int} {k : Nat} : ∀ {n : Nat}, k ≤ n → ¬ 0 < (itN r k s).1 → itN r n s = itN r k s
  | 0, h, _ => by rw [show k = 0 by omega]
  | n + 1, h, z => by
    by_cases q : k = n + 1
    · rw [q]
    · show stp r (itN r n s) = _
      rw [itN_stop (show k ≤ n by omega) z, stp_n z]
theorem itN_rng {r : Int} (hr : 1 ≤ r ∧ r ≤ 3) {s : Int × Int} {a b : Int} (hs : -30 ≤ s.1 ∧ s.1 ≤ a) (hb : 0 ≤ s.2 ∧ s.2 ≤ b) : ∀ n : Nat, -30 ≤ (itN r n s).1 ∧ (itN r n s).1 ≤ a ∧ 0 ≤ (itN r n s).2 ∧ (itN r n s).2 ≤ b + (n : Int)
  | 0 => ⟨hs.1, hs.2, hb.1, by show s.2 ≤ b + 0; omega⟩
  | n + 1 => by
    have i := itN_rng hr hs hb n
    show -30 ≤ (stp r (itN r n s)).1 ∧ (stp r (itN r n s)).1 ≤ a ∧ 0 ≤ (stp r (itN r n s)).2 ∧ (stp r (itN r n s)).2 ≤ b + ((n + 1 : Nat) : Int)
    by_cases q : 0 < (itN r n s).1
    · rw [stp_y q]
      refine ⟨?_, ?_, ?_, ?_⟩
      · show -30 ≤ (itN r n s).1 - r; omega
      · show (itN r n s).1 - r ≤ a; omega
      · show 0 ≤ (itN r n s).2 + 1; omega
      · show (itN r n s).2 + 1 ≤ b + ((n + 1 : Nat) : Int); omega
    · rw [stp_n q]
      refine ⟨i.1, i.2.1, i.2.2.1, ?_⟩
      have := i.2.2.2
      omega
/-- how many fingers have so much room -/
noncomputable def fgH (k r : Int) : Nat → Nat := rnk (fun f => decide (rmC k (f : Int) = r))
noncomputable def fgA (kd : Nat → Int32) (r : Int) : Nat → Nat
  | 0 => 0
  | c + 1 => fgA kd r c + fgH (kd c).toInt r 5
theorem fgA_le {kd : Nat → Int32} {r : Int} : ∀ {n : Nat}, fgA kd r n ≤ 5 * n
  | 0 => Nat.le_refl _
  | n + 1 => by
    have a := fgA_le (kd := kd) (r := r) (n := n)
    have b := rnk_le (p := fun f => decide (rmC (kd n).toInt (f : Int) = r)) (n := 5)
    show fgA kd r n + rnk (fun f => decide (rmC (kd n).toInt (f : Int) = r)) 5 ≤ 5 * (n + 1)
    omega
theorem fgA_eq {kd kd2 : Nat → Int32} {r : Int} : ∀ {n : Nat}, (∀ j : Nat, j < n → kd j = kd2 j) → fgA kd r n = fgA kd2 r n
  | 0, _ => rfl
  | n + 1, h => by
    show fgA kd r n + fgH (kd n).toInt r 5 = fgA kd2 r n + fgH (kd2 n).toInt r 5
    rw [fgA_eq (fun j q => h j (by omega)), h n (Nat.lt_succ_self _)]
noncomputable def fewS (kd : Nat → Int32) (cl : Nat) (th : Int) : Nat → Int × Int
  | 0 => (th, 0)
  | k + 1 => itN (3 - (k : Int)) (fgA kd (3 - (k : Int)) cl) (fewS kd cl th k)
noncomputable def qFewest (M : Mem) : Int := (fewS (kdM M) (clM M).toInt.toNat (thM M).toInt 3).2
theorem fewS_eq {kd kd2 : Nat → Int32} {cl : Nat} {th : Int} (h : ∀ j : Nat, j < cl → kd j = kd2 j) : ∀ {k : Nat}, fewS kd cl th k = fewS kd2 cl th k
  | 0 => rfl
  | k + 1 => by
    show itN (3 - (k : Int)) (fgA kd (3 - (k : Int)) cl) (fewS kd cl th k) = itN (3 - (k : Int)) (fgA kd2 (3 - (k : Int)) cl) (fewS kd2 cl th k)
    rw [fewS_eq h, fgA_eq h]
theorem fewest_mk {cl th dy sn : Int32} {kd pl pa kn sp ss : Nat → Int32} : qFewest (mkM cl th dy sn kd pl pa kn sp ss) = (fewS kd cl.toInt.toNat th.toInt 3).2 := congrArg (fun s : Int × Int => s.2) (fewS_eq (fun j q => msk_in (by have q : j < cl.toInt.toNat := q; omega)))
theorem fewS_rng {kd : Nat → Int32} {cl : Nat} {th : Int} (hc : cl ≤ 4) (ht : 0 ≤ th ∧ th ≤ 10) : ∀ {k : Nat}, k ≤ 3 → (-30 ≤ (fewS kd cl th k).1 ∧ (fewS kd cl th k).1 ≤ 10) ∧ 0 ≤ (fewS kd cl th k).2 ∧ (fewS kd cl th k).2 ≤ 20 * (k : Int)
  | 0, _ => ⟨⟨by show -30 ≤ th; omega, ht.2⟩, Int.le_refl _, Int.le_refl _⟩
  | k + 1, h => by
    have i := fewS_rng (kd := kd) hc ht (show k ≤ 3 by omega)
    have f := fgA_le (kd := kd) (r := 3 - (k : Int)) (n := cl)
    have j := itN_rng (r := 3 - (k : Int)) (by omega) (s := fewS kd cl th k) i.1 i.2 (fgA kd (3 - (k : Int)) cl)
    show (-30 ≤ (itN (3 - (k : Int)) (fgA kd (3 - (k : Int)) cl) (fewS kd cl th k)).1 ∧ _) ∧ _
    refine ⟨⟨j.1, j.2.1⟩, j.2.2.1, ?_⟩
    have := j.2.2.2
    show (itN (3 - (k : Int)) (fgA kd (3 - (k : Int)) cl) (fewS kd cl th k)).2 ≤ 20 * ((k + 1 : Nat) : Int)
    omega
/-- the class's loops: room r, i fingers still, (l, m) -/
noncomputable def fwI (kd : Nat → Int32) (cl : Nat) (th r i l m : Int) : Prop := (0 ≤ i ∧ i ≤ (fgA kd r cl : Int)) ∧ (l, m) = itN r ((fgA kd r cl : Int) - i).toNat (fewS kd cl th (3 - r).toNat)
theorem fwI_0 {kd : Nat → Int32} {cl : Nat} {th r i l m : Int} (hi : i = (fgA kd r cl : Int)) (e : (l, m) = fewS kd cl th (3 - r).toNat) : fwI kd cl th r i l m := ⟨by omega, by rw [hi, Int.sub_self]; exact e⟩
theorem fwI_s {kd : Nat → Int32} {cl : Nat} {th r i l m i2 l2 m2 : Int} (h : fwI kd cl th r i l m) (hi : 0 < i) (hl : 0 < l) (h1 : i2 = i - 1) (h2 : l2 = l - r) (h3 : m2 = m + 1) : fwI kd cl th r i2 l2 m2 := by
  obtain ⟨a, b⟩ := h
  refine ⟨by omega, ?_⟩
  rw [show ((fgA kd r cl : Int) - i2).toNat = ((fgA kd r cl : Int) - i).toNat + 1 by omega]
  show _ = stp r (itN r ((fgA kd r cl : Int) - i).toNat (fewS kd cl th (3 - r).toNat))
  rw [← b, stp_y hl, h2, h3]
theorem fwI_e {kd : Nat → Int32} {cl : Nat} {th r i l m r2 : Int} (h : fwI kd cl th r i l m) (hr : 1 ≤ r ∧ r ≤ 3) (hx : i ≤ 0 ∨ l ≤ 0) (h2 : r2 = r - 1) : (l, m) = fewS kd cl th (3 - r2).toNat := by
  obtain ⟨a, b⟩ := h
  rw [show (3 - r2).toNat = (3 - r).toNat + 1 by omega]
  show _ = itN (3 - (((3 - r).toNat : Nat) : Int)) (fgA kd (3 - (((3 - r).toNat : Nat) : Int)) cl) (fewS kd cl th (3 - r).toNat)
  rw [show 3 - (((3 - r).toNat : Nat) : Int) = r by omega, b]
  by_cases q : i ≤ 0
  · rw [show ((fgA kd r cl : Int) - i).toNat = fgA kd r cl by omega]
  · refine (itN_stop (by omega) ?_).symm
    rw [← b]
    show ¬ 0 < l
    omega
theorem fwI_rng {kd : Nat → Int32} {cl : Nat} {th r i l m : Int} (h : fwI kd cl th r i l m) (hr : 1 ≤ r ∧ r ≤ 3) (hc : cl ≤ 4) (ht : 0 ≤ th ∧ th ≤ 10) : (-30 ≤ l ∧ l ≤ 10) ∧ (0 ≤ m ∧ m ≤ 80) ∧ 0 ≤ i := by
  obtain ⟨a, b⟩ := h
  have f := fgA_le (kd := kd) (r := r) (n := cl)
  have s := fewS_rng (kd := kd) hc ht (k := (3 - r).toNat) (by omega)
  have j := itN_rng (r := r) hr (s := fewS kd cl th (3 - r).toNat) s.1 s.2 ((fgA kd r cl : Int) - i).toNat
  rw [← b] at j
  have j1 : -30 ≤ l := j.1
  have j2 : l ≤ 10 := j.2.1
  have j3 : 0 ≤ m := j.2.2.1
  have j4 : m ≤ 20 * (((3 - r).toNat : Nat) : Int) + ((((fgA kd r cl : Int) - i).toNat : Nat) : Int) := j.2.2.2
  omega
/-- the reference's loops: n fingers of room r so far -/
noncomputable def fwR (kd : Nat → Int32) (cl : Nat) (th r : Int) (n : Nat) (l m : Int) : Prop := (l, m) = itN r n (fewS kd cl th (3 - r).toNat)
theorem fwR_0 {kd : Nat → Int32} {cl : Nat} {th r l m : Int} (e : (l, m) = fewS kd cl th (3 - r).toNat) : fwR kd cl th r 0 l m := e
theorem fwR_y {kd : Nat → Int32} {cl n : Nat} {th r l m l2 m2 : Int} (h : fwR kd cl th r n l m) (hl : 0 < l) (h2 : l2 = l - r) (h3 : m2 = m + 1) : fwR kd cl th r (n + 1) l2 m2 := by
  show _ = stp r (itN r n (fewS kd cl th (3 - r).toNat))
  rw [← show (l, m) = _ from h, stp_y hl, h2, h3]
theorem fwR_n {kd : Nat → Int32} {cl n : Nat} {th r l m l2 m2 : Int} (h : fwR kd cl th r n l m) (hl : ¬ 0 < l) (h2 : l2 = l) (h3 : m2 = m) : fwR kd cl th r (n + 1) l2 m2 := by
  show _ = stp r (itN r n (fewS kd cl th (3 - r).toNat))
  rw [← show (l, m) = _ from h, stp_n hl, h2, h3]
theorem fwR_k {kd : Nat → Int32} {cl n n2 : Nat} {th r l m l2 m2 : Int} (h : fwR kd cl th r n l m) (hn : n2 = n) (h2 : l2 = l) (h3 : m2 = m) : fwR kd cl th r n2 l2 m2 := by rw [hn, h2, h3]; exact h
theorem fwR_e {kd : Nat → Int32} {cl : Nat} {th r l m r2 : Int} {n : Nat} (h : fwR kd cl th r n l m) (hn : n = fgA kd r cl) (hr : 1 ≤ r ∧ r ≤ 3) (h2 : r2 = r - 1) : (l, m) = fewS kd cl th (3 - r2).toNat := by
  rw [show (3 - r2).toNat = (3 - r).toNat + 1 by omega]
  show _ = itN (3 - (((3 - r).toNat : Nat) : Int)) (fgA kd (3 - (((3 - r).toNat : Nat) : Int)) cl) (fewS kd cl th (3 - r).toNat)
  rw [show 3 - (((3 - r).toNat : Nat) : Int) = r by omega, ← hn]
  exact h
theorem fwR_rng {kd : Nat → Int32} {cl n : Nat} {th r l m : Int} (h : fwR kd cl th r n l m) (hr : 1 ≤ r ∧ r ≤ 3) (hc : cl ≤ 4) (ht : 0 ≤ th ∧ th ≤ 10) (hn : n ≤ 40) : (-30 ≤ l ∧ l ≤ 10) ∧ (0 ≤ m ∧ m ≤ 100) := by
  have s := fewS_rng (kd := kd) hc ht (k := (3 - r).toNat) (by omega)
  have j := itN_rng (r := r) hr (s := fewS kd cl th (3 - r).toNat) s.1 s.2 n
  rw [← show (l, m) = _ from h] at j
  have j1 : -30 ≤ l := j.1
  have j2 : l ≤ 10 := j.2.1
  have j3 : 0 ≤ m := j.2.2.1
  have j4 : m ≤ 20 * (((3 - r).toNat : Nat) : Int) + (n : Int) := j.2.2.2
  omega
theorem fgH_le {k r : Int} {n : Nat} : fgH k r n ≤ n := rnk_le
theorem fgH_t {k r : Int} {n : Nat} (h : rmC k (n : Int) = r) : fgH k r (n + 1) = fgH k r n + 1 := rnk_t (decide_eq_true h)
theorem fgH_f {k r : Int} {n : Nat} (h : ¬ rmC k (n : Int) = r) : fgH k r (n + 1) = fgH k r n := rnk_f (fun w => h (of_decide_eq_true w))
noncomputable def c20 : Nat → Int := fun _ => 20
/-! the reference's codes: which are rings, which ring each is -/
noncomputable def vR (cl : Int) (n c m : Nat) : Prop := ∀ i : Nat, i < m → ((dg n c i : Nat) : Int) < cl ∧ (0 < i → dg n c 0 < dg n c i) ∧ ∀ k : Nat, 0 < k → k < i → ¬ dg n c i = dg n c k
noncomputable def v4 (n c : Nat) : Bool := decide (∀ i : Nat, i < n → (0 < i → dg n c 0 < dg n c i) ∧ ∀ k : Nat, k < i → 0 < k → ¬ dg n c i = dg n c k)
-- ThreadBank$Memory.fingersOfRoom(I)I
set_option maxRecDepth 100000 in
set_option maxHeartbeats 4000000 in
theorem ty_42_c (X : qm_X) (h : qm_H) (a : Int32) (hp : mq 1 h) (Q : qm_Q) (hq : ∀ r : Int32, (r.toInt = ((fgA (h 2) a.toInt (h 1 6).toInt.toNat : Nat) : Int) ∧ (0 ≤ r.toInt ∧ r.toInt ≤ 20)) → Q (some (.int r)) h) : ∀ n : Nat, (∀ (l2 : Int32) (l3 : Int32), ((0 ≤ l3.toInt ∧ l3.toInt ≤ (h 1 6).toInt) ∧ l2.toInt = ((fgA (h 2) a.toInt l3.toInt.toNat : Nat) : Int)) → ((4 - l3.toInt) * 100 + 50).toNat < n → qm_PA X 42 4 [(0, .ref 1), (1, .int a), (2, .int l2), (3, .int l3)] [] h Q) ∧ (∀ (l2 : Int32) (l3 : Int32) (l4 : Int32), (((0 ≤ l3.toInt ∧ l3.toInt < (h 1 6).toInt) ∧ 0 ≤ l4.toInt ∧ l4.toInt ≤ 5) ∧ l2.toInt = ((fgA (h 2) a.toInt l3.toInt.toNat : Nat) : Int) + ((fgH (h 2 l3.toInt.toNat).toInt a.toInt l4.toInt.toNat : Nat) : Int)) → ((4 - l3.toInt) * 100 + 40 - l4.toInt).toNat < n → qm_PA X 42 15 [(0, .ref 1), (1, .int a), (2, .int l2), (3, .int l3), (4, .int l4)] [] h Q) := by
  have hm1 : mq 1 h := hp
  have ⟨⟨_, _⟩, ⟨_, _⟩, _, _⟩ := hm1
  intro n
  induction n with
  | zero => exact ⟨fun _ _ _ h0 => absurd h0 (Nat.not_lt_zero _), fun _ _ _ _ h0 => absurd h0 (Nat.not_lt_zero _)⟩
  | succ n ih =>
    refine ⟨?_, ?_⟩
    · intro l2 l3 hi hr
      have ti_l3 := ti_rng l3
      have hr1 := fgA_le (kd := h 2) (r := a.toInt) (n := l3.toInt.toNat)
      refine qm_seg_ok (C := qc_42) (rt := some .int) rfl rfl (cuts := [(4, [0, 1, 2, 3]), (15, [0, 1, 2, 3, 4])]) 400 _ _ _ _ ?_
      show ((h 1 6).toInt ≤ l3.toInt → (Q (some (.int l2)) h)) ∧ (l3.toInt < (h 1 6).toInt → (qm_PA X 42 15 [(0, .ref 1), (1, .int a), (2, .int l2), (3, .int l3), (4, .int 0)] [] h Q))
      refine ⟨fun c1 => ?_, fun c2 => ?_⟩
      · exact hq l2 (by show l2.toInt = ((fgA (h 2) a.toInt (h 1 6).toInt.toNat : Nat) : Int) ∧ (0 ≤ l2.toInt ∧ l2.toInt ≤ 20); have hi2 := hi.2; rw [show l3.toInt.toNat = (h 1 6).toInt.toNat by omega] at hi2; rw [show l3.toInt.toNat = (h 1 6).toInt.toNat by omega] at hr1; exact ⟨hi2, by omega⟩)
      · exact ih.2 l2 l3 (0 : Int32) (by have : (0 : Int32).toInt = 0 := rfl; exact ⟨by have : (0 : Int32).toInt = 0 := rfl; omega, by show _ = ((fgA (h 2) a.toInt l3.toInt.toNat : Nat) : Int) + ((0 : Nat) : Int); omega⟩) (by have : (0 : Int32).toInt = 0 := rfl; omega)
    · intro l2 l3 l4 hi hr
      have ti_l3 := ti_rng l3
      have hr1 := fgA_le (kd := h 2) (r := a.toInt) (n := l3.toInt.toNat)
      have ti_l4 := ti_rng l4
      have hr2 : fgH (h 2 l3.toInt.toNat).toInt a.toInt l4.toInt.toNat ≤ l4.toInt.toNat := rnk_le
      refine qm_seg_ok (C := qc_42) (rt := some .int) rfl rfl (cuts := [(4, [0, 1, 2, 3]), (15, [0, 1, 2, 3, 4])]) 400 _ _ _ _ ?_
      show (5 ≤ l4.toInt → (qm_PA X 42 4 [(0, .ref 1), (1, .int a), (2, .int l2), (3, .int (l3 + 1))] [] h Q)) ∧ (l4.toInt < 5 → (qm_PW X 37 [.ref 1, .int ((10 * l3) + l4)] h _))
      refine ⟨fun c1 => ?_, fun c2 => ?_⟩
      · exact ih.1 l2 (l3 + 1) (by have := ti_addK l3 (1 : Int32) 1 rfl; have h5 : l4.toInt.toNat = 5 := (by omega); have hi2 := hi.2; rw [h5] at hi2; exact ⟨by omega, by rw [show (l3 + 1).toInt.toNat = l3.toInt.toNat + 1 by omega]; show _ = ((fgA (h 2) a.toInt l3.toInt.toNat + fgH (h 2 l3.toInt.toNat).toInt a.toInt 5 : Nat) : Int); omega⟩) (by have := ti_addK l3 (1 : Int32) 1 rfl; omega)
      · refine ty_37 X h ((10 * l3) + l4) hm1 _ (fun r3 p4 => ?_)
        have o5 : (((0 ≤ ((10 * l3) + l4).toInt ∧ ((10 * l3) + l4).toInt / 10 < (h 1 6).toInt ∧ ((10 * l3) + l4).toInt % 10 < 5) ∧ r3.toInt = rmC (h 2 (((10 * l3) + l4).toInt / 10).toNat).toInt (((10 * l3) + l4).toInt % 10)) ∨ (¬ (0 ≤ ((10 * l3) + l4).toInt ∧ ((10 * l3) + l4).toInt / 10 < (h 1 6).toInt ∧ ((10 * l3) + l4).toInt % 10 < 5) ∧ r3.toInt = 0)) ∧ (0 ≤ r3.toInt ∧ r3.toInt ≤ 3) := p4
        clear p4
        show (¬ r3 = a → (qm_PA X 42 15 [(0, .ref 1), (1, .int a), (2, .int l2), (3, .int l3), (4, .int (l4 + 1))] [] h Q)) ∧ (r3 = a → (qm_PA X 42 15 [(0, .ref 1), (1, .int a), (2, .int (l2 + 1)), (3, .int l3), (4, .int (l4 + 1))] [] h Q))
        refine ⟨fun c6 => ?_, fun c7 => ?_⟩
        · exact ih.2 l2 l3 (l4 + 1) (by have := ti_addK l4 (1 : Int32) 1 rfl; have := ti_mulL (10 : Int32) 10 rfl l3; have := ti_add (10 * l3) l4; have q1 := ti_mulL (10 : Int32) 10 rfl l3; have q2 := ti_add (10 * l3) l4; have q3 : ((10 * l3) + l4).toInt = 10 * l3.toInt + l4.toInt := (by omega); rw [q3, show (10 * l3.toInt + l4.toInt) / 10 = l3.toInt by omega, show (10 * l3.toInt + l4.toInt) % 10 = ((l4.toInt.toNat : Nat) : Int) by omega] at o5; have e9 : (l4 + 1).toInt.toNat = l4.toInt.toNat + 1 := (by omega); have hs := rnk_f (p := (fun f => decide (rmC (h 2 l3.toInt.toNat).toInt ((f : Nat) : Int) = a.toInt))) (n := l4.toInt.toNat) (fun w => absurd (Int32.toInt_inj.mp (show r3.toInt = a.toInt by have w := of_decide_eq_true w; omega)) (by assumption)); exact ⟨by omega, by rw [e9, show fgH (h 2 l3.toInt.toNat).toInt a.toInt (l4.toInt.toNat + 1) = _ from hs]; have hz : fgH (h 2 l3.toInt.toNat).toInt a.toInt l4.toInt.toNat = rnk (fun f => decide (rmC (h 2 l3.toInt.toNat).toInt ((f : Nat) : Int) = a.toInt)) l4.toInt.toNat := rfl; omega⟩) (by have := ti_addK l4 (1 : Int32) 1 rfl; have := ti_mulL (10 : Int32) 10 rfl l3; have := ti_add (10 * l3) l4; omega)
        · exact ih.2 (l2 + 1) l3 (l4 + 1) (by have := ti_addK l4 (1 : Int32) 1 rfl; have := ti_addK l2 (1 : Int32) 1 rfl; have := ti_mulL (10 : Int32) 10 rfl l3; have := ti_add (10 * l3) l4; have q1 := ti_mulL (10 : Int32) 10 rfl l3; have q2 := ti_add (10 * l3) l4; have q3 : ((10 * l3) + l4).toInt = 10 * l3.toInt + l4.toInt := (by omega); rw [q3, show (10 * l3.toInt + l4.toInt) / 10 = l3.toInt by omega, show (10 * l3.toInt + l4.toInt) % 10 = ((l4.toInt.toNat : Nat) : Int) by omega] at o5; have e9 : (l4 + 1).toInt.toNat = l4.toInt.toNat + 1 := (by omega); have hc := congrArg Int32.toInt (show r3 = a from by assumption); have hs := rnk_t (p := (fun f => decide (rmC (h 2 l3.toInt.toNat).toInt ((f : Nat) : Int) = a.toInt))) (n := l4.toInt.toNat) (decide_eq_true (by omega)); exact ⟨by omega, by rw [e9, show fgH (h 2 l3.toInt.toNat).toInt a.toInt (l4.toInt.toNat + 1) = _ from hs]; have hz : fgH (h 2 l3.toInt.toNat).toInt a.toInt l4.toInt.toNat = rnk (fun f => decide (rmC (h 2 l3.toInt.toNat).toInt ((f : Nat) : Int) = a.toInt)) l4.toInt.toNat := rfl; omega⟩) (by have := ti_addK l4 (1 : Int32) 1 rfl; have := ti_mulL (10 : Int32) 10 rfl l3; have := ti_add (10 * l3) l4; omega)
set_option maxRecDepth 100000 in
set_option maxHeartbeats 4000000 in
theorem ty_42 (X : qm_X) (h : qm_H) (a : Int32) (hp : mq 1 h) (Q : qm_Q) (hq : ∀ r : Int32, (r.toInt = ((fgA (h 2) a.toInt (h 1 6).toInt.toNat : Nat) : Int) ∧ (0 ≤ r.toInt ∧ r.toInt ≤ 20)) → Q (some (.int r)) h) : qm_PW X 42 [.ref 1, .int a] h Q := by
  have hm1 : mq 1 h := hp
  have ⟨⟨_, _⟩, ⟨_, _⟩, _, _⟩ := hm1
  refine qm_seg_ok (C := qc_42) (rt := some .int) rfl rfl (cuts := [(4, [0, 1, 2, 3]), (15, [0, 1, 2, 3, 4])]) 400 _ _ _ _ ?_
  show qm_PA X 42 4 [(0, .ref 1), (1, .int a), (2, .int 0), (3, .int 0)] [] h Q
  exact (ty_42_c X h a hp Q hq _).1 (0 : Int32) (0 : Int32) (by have : (0 : Int32).toInt = 0 := rfl; exact ⟨by have : (0 : Int32).toInt = 0 := rfl; omega, rfl⟩) (Nat.lt_succ_self _)
-- ThreadBank.fewest()I
set_option maxRecDepth 100000 in
set_option maxHeartbeats 4000000 in
theorem ty_110_c (X : qm_X) (h : qm_H) (hp : mq 1 h) (Q : qm_Q) (hq : ∀ r : Int32, (r.toInt = qFewest (mC h)) → Q (some (.int r)) h) : ∀ n : Nat, (∀ (l1 : Int32) (l2 : Int32) (l3 : Int32), ((0 ≤ l3.toInt ∧ l3.toInt ≤ 3) ∧ (l2.toInt, l1.toInt) = fewS (h 2) (h 1 6).toInt.toNat (h 1 7).toInt (3 - l3.toInt).toNat) → (l3.toInt * 8589934592 + 4294967296).toNat < n → qm_PA X 110 12 [(0, .ref 0), (1, .int l1), (2, .int l2), (3, .int l3)] [] h Q) ∧ (∀ (l1 : Int32) (l2 : Int32) (l3 : Int32) (l4 : Int32), ((1 ≤ l3.toInt ∧ l3.toInt ≤ 3) ∧ fwI (h 2) (h 1 6).toInt.toNat (h 1 7).toInt l3.toInt l4.toInt l2.toInt l1.toInt) → (l3.toInt * 8589934592 + l4.toInt).toNat < n → qm_PA X 110 27 [(0, .ref 0), (1, .int l1), (2, .int l2), (3, .int l3), (4, .int l4)] [] h Q) := by
  have hm1 : mq 1 h := hp
  have ⟨⟨_, _⟩, ⟨_, _⟩, _, _⟩ := hm1
  intro n
  induction n with
  | zero => exact ⟨fun _ _ _ _ h0 => absurd h0 (Nat.not_lt_zero _), fun _ _ _ _ _ h0 => absurd h0 (Nat.not_lt_zero _)⟩
  | succ n ih =>
    refine ⟨?_, ?_⟩
    · intro l1 l2 l3 hi hr
      refine qm_seg_ok (C := qc_110) (rt := some .int) rfl rfl (cuts := [(12, [0, 1, 2, 3]), (27, [0, 1, 2, 3, 4])]) 400 _ _ _ _ ?_
      show (l3.toInt < 1 → (Q (some (.int l1)) h)) ∧ (1 ≤ l3.toInt → (qm_PW X 42 [.ref 1, .int l3] h _))
      refine ⟨fun c1 => ?_, fun c2 => ?_⟩
      · exact hq l1 (by show l1.toInt = qFewest (mC h); have hz := congrArg (fun s : Int × Int => s.2) hi.2; rw [show (3 - l3.toInt).toNat = 3 by omega] at hz; exact (show l1.toInt = _ from hz).trans (show qFewest (mC h) = _ from fewest_mk).symm)
      · refine ty_42 X h l3 hm1 _ (fun r3 p4 => ?_)
        have o5 : r3.toInt = ((fgA (h 2) l3.toInt (h 1 6).toInt.toNat : Nat) : Int) ∧ (0 ≤ r3.toInt ∧ r3.toInt ≤ 20) := p4
        clear p4
        show qm_PA X 110 27 [(0, .ref 0), (1, .int l1), (2, .int l2), (3, .int l3), (4, .int r3)] [] h Q
        have := ti_rng r3
        exact ih.2 l1 l2 l3 r3 (by exact ⟨by omega, fwI_0 o5.1 hi.2⟩) (by omega)
    · intro l1 l2 l3 l4 hi hr
      have ti_l4 := ti_rng l4
      have hfr := fwI_rng hi.2 (by omega) (by omega) (by omega)
      refine qm_seg_ok (C := qc_110) (rt := some .int) rfl rfl (cuts := [(12, [0, 1, 2, 3]), (27, [0, 1, 2, 3, 4])]) 400 _ _ _ _ ?_
      show (l4.toInt ≤ 0 → (qm_PA X 110 12 [(0, .ref 0), (1, .int l1), (2, .int l2), (3, .int (l3 + (-1 : Int32)))] [] h Q)) ∧ (0 < l4.toInt → ((l2.toInt ≤ 0 → (qm_PA X 110 12 [(0, .ref 0), (1, .int l1), (2, .int l2), (3, .int (l3 + (-1 : Int32)))] [] h Q)) ∧ (0 < l2.toInt → (qm_PA X 110 27 [(0, .ref 0), (1, .int (l1 + 1)), (2, .int (l2 - l3)), (3, .int l3), (4, .int (l4 + (-1 : Int32)))] [] h Q))))
      refine ⟨fun c1 => ?_, fun c2 => ?_⟩
      · have hz3 := ti_addK l3 (-1 : Int32) (-1) ti_n1 (by have := ti_rng l3; omega)
        revert hz3
        generalize l3 + (-1 : Int32) = z3
        intro hz3
        exact ih.1 l1 l2 z3 (by exact ⟨by omega, fwI_e hi.2 (by omega) (by omega) (by omega)⟩) (by omega)
      · refine ⟨fun c4 => ?_, fun c5 => ?_⟩
        · have hz6 := ti_addK l3 (-1 : Int32) (-1) ti_n1 (by have := ti_rng l3; omega)
          revert hz6
          generalize l3 + (-1 : Int32) = z6
          intro hz6
          exact ih.1 l1 l2 z6 (by exact ⟨by omega, fwI_e hi.2 (by omega) (by omega) (by omega)⟩) (by omega)
        · have hz7 := ti_addK l4 (-1 : Int32) (-1) ti_n1 (by have := ti_rng l4; omega)
          revert hz7
          generalize l4 + (-1 : Int32) = z7
          intro hz7
          have := ti_rng z7
          exact ih.2 (l1 + 1) (l2 - l3) l3 z7 (by have := ti_sub l2 l3; have := ti_addK l1 (1 : Int32) 1 rfl; exact ⟨by omega, fwI_s hi.2 (by omega) (by omega) (by omega) (by omega) (by omega)⟩) (by omega)
set_option maxRecDepth 100000 in
set_option maxHeartbeats 4000000 in
theorem ty_110 (X : qm_X) (h : qm_H) (hp : mq 1 h) (Q : qm_Q) (hq : ∀ r : Int32, (r.toInt = qFewest (mC h)) → Q (some (.int r)) h) : qm_PW X 110 [.ref 0] h Q := by
  have hm1 : mq 1 h := hp
  have ⟨⟨_, _⟩, ⟨_, _⟩, _, _⟩ := hm1
  refine qm_seg_ok (C := qc_110) (rt := some .int) rfl rfl (cuts := [(12, [0, 1, 2, 3]), (27, [0, 1, 2, 3, 4])]) 400 _ _ _ _ ?_
  show qm_PA X 110 12 [(0, .ref 0), (1, .int 0), (2, .int (h 1 7)), (3, .int 3)] [] h Q
  exact (ty_110_c X h hp Q hq _).1 (0 : Int32) (h 1 7) (3 : Int32) (by have : (3 : Int32).toInt = 3 := rfl; have : (0 : Int32).toInt = 0 := rfl; exact ⟨by have : (3 : Int32).toInt = 3 := rfl; omega, rfl⟩) (Nat.lt_succ_self _)
