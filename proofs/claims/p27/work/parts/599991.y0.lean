/-! ===== what is owed ===== -/
noncomputable def wc (h : qm_H) : Prop := wfM (mC h)
noncomputable def wr (h : qm_H) : Prop := wfM (mR h)
theorem wf_tr2 {M N : Mem} (h : wfM M) (e : N = M) : wfM N := e ▸ h
/-! ===== quarrels ===== -/
noncomputable def qrF (pl pa kn : Nat → Int32) (t u : Nat) : Prop := ¬ (pl t / 10).toInt = (pl u / 10).toInt ∧ (pa t).toInt = (pa u).toInt ∧ (kn t - kn t / 10 * 10).toInt = (kn u - kn u / 10 * 10).toInt ∧ ¬ (kn t / 10).toInt = (kn u / 10).toInt
noncomputable def qst (p : Prop) (v : Int) (s : Int × Int) : Int × Int := @ite _ p (Classical.propDecidable _) (s.1 + 1, if s.1 = 0 then v else s.2) s
theorem qst_t {p : Prop} {v : Int} {s : Int × Int} (h : p) : qst p v s = (s.1 + 1, if s.1 = 0 then v else s.2) := if_pos h
theorem qst_f {p : Prop} {v : Int} {s : Int × Int} (h : ¬ p) : qst p v s = s := if_neg h
noncomputable def qfI (Q : Nat → Nat → Prop) (t : Nat) : Nat → Int × Int → Int × Int
  | 0, s => s
  | u + 1, s => qst (t < u ∧ Q t u) (10 * (t : Int) + (u : Int)) (qfI Q t u s)
noncomputable def qfO (Q : Nat → Nat → Prop) (n : Nat) : Nat → Int × Int
  | 0 => (0, -4)
  | t + 1 => qfI Q t n (qfO Q n t)
theorem qfI_lo {Q : Nat → Nat → Prop} {t : Nat} {s : Int × Int} : ∀ {k : Nat}, k ≤ t + 1 → qfI Q t k s = s
  | 0, _ => rfl
  | k + 1, h => by
    show qst (t < k ∧ Q t k) _ (qfI Q t k s) = s
    rw [qfI_lo (by omega), qst_f (fun w => by have := w.1; omega)]
theorem qfI_eq {Q R : Nat → Nat → Prop} {t n : Nat} {s : Int × Int} (h : ∀ u : Nat, u < n → (Q t u ↔ R t u)) : ∀ {k : Nat}, k ≤ n → qfI Q t k s = qfI R t k s
  | 0, _ => rfl
  | k + 1, q => by
    show qst (t < k ∧ Q t k) _ (qfI Q t k s) = qst (t < k ∧ R t k) _ (qfI R t k s)
    rw [qfI_eq h (by omega), show (t < k ∧ Q t k) = (t < k ∧ R t k) from propext ⟨fun w => ⟨w.1, (h k (by omega)).mp w.2⟩, fun w => ⟨w.1, (h k (by omega)).mpr w.2⟩⟩]
theorem qfO_eq {Q R : Nat → Nat → Prop} {n : Nat} (h : ∀ t u : Nat, t < n → u < n → (Q t u ↔ R t u)) : ∀ {k : Nat}, k ≤ n → qfO Q n k = qfO R n k
  | 0, _ => rfl
  | k + 1, q => by
    show qfI Q k n (qfO Q n k) = qfI R k n (qfO R n k)
    rw [qfO_eq h (by omega), qfI_eq (fun u w => h k u (by omega) w) (Nat.le_refl _)]
theorem qst_rng {p : Prop} {v m : Int} {s : Int × Int} (h : 0 ≤ s.1 ∧ s.1 ≤ m) : 0 ≤ (qst p v s).1 ∧ (qst p v s).1 ≤ m + 1 := by
  by_cases q : p
  · rw [qst_t q]
    show 0 ≤ s.1 + 1 ∧ s.1 + 1 ≤ m + 1
    omega
  · rw [qst_f q]; omega
theorem qfI_rng {Q : Nat → Nat → Prop} {t : Nat} {m : Int} {s : Int × Int} (h : 0 ≤ s.1 ∧ s.1 ≤ m) : ∀ n : Nat, 0 ≤ (qfI Q t n s).1 ∧ (qfI Q t n s).1 ≤ m + (n : Int)
  | 0 => ⟨h.1, by show s.1 ≤ m + 0; omega⟩
  | n + 1 => by
    have i := qfI_rng (Q := Q) (t := t) h n
    have j := qst_rng (p := t < n ∧ Q t n) (v := 10 * (t : Int) + (n : Int)) i
    show 0 ≤ (qst (t < n ∧ Q t n) (10 * (t : Int) + (n : Int)) (qfI Q t n s)).1 ∧ (qst (t < n ∧ Q t n) (10 * (t : Int) + (n : Int)) (qfI Q t n s)).1 ≤ m + ((n + 1 : Nat) : Int)
    omega
theorem qfO_rng {Q : Nat → Nat → Prop} {n : Nat} (hn : n ≤ 10) : ∀ k : Nat, 0 ≤ (qfO Q n k).1 ∧ (qfO Q n k).1 ≤ 10 * (k : Int)
  | 0 => ⟨Int.le_refl _, Int.le_refl _⟩
  | k + 1 => by
    have i := qfO_rng (Q := Q) hn k
    have j := qfI_rng (Q := Q) (t := k) i n
    show 0 ≤ (qfI Q k n (qfO Q n k)).1 ∧ (qfI Q k n (qfO Q n k)).1 ≤ 10 * ((k + 1 : Nat) : Int)
    omega
noncomputable def qQuarrel (a : Int) (M : Mem) : Int := if ¬ (0 ≤ a ∧ a ≤ 1) then -1 else if a = 0 then (qfO (qrF (plM M) (paM M) (knM M)) (thM M).toInt.toNat (thM M).toInt.toNat).1 else (qfO (qrF (plM M) (paM M) (knM M)) (thM M).toInt.toNat (thM M).toInt.toNat).2
theorem qrF_eq {pl pa kn pl2 pa2 kn2 : Nat → Int32} {n t u : Nat} (h : ∀ j : Nat, j < n → pl j = pl2 j ∧ pa j = pa2 j ∧ kn j = kn2 j) (ht : t < n) (hu : u < n) : qrF pl pa kn t u ↔ qrF pl2 pa2 kn2 t u := by
  unfold qrF
  rw [(h t ht).1, (h t ht).2.1, (h t ht).2.2, (h u hu).1, (h u hu).2.1, (h u hu).2.2]
theorem quarrel_no {a : Int} {M : Mem} (h : ¬ (0 ≤ a ∧ a ≤ 1)) : qQuarrel a M = -1 := if_pos h
theorem quarrel_ok {a x y r : Int} {cl th dy sn : Int32} {kd pl pa kn sp ss : Nat → Int32} (h : 0 ≤ a ∧ a ≤ 1) (e : (x, y) = qfO (qrF pl pa kn) th.toInt.toNat th.toInt.toNat) (hr : (a = 0 ∧ r = x) ∨ (¬ a = 0 ∧ r = y)) : r = qQuarrel a (mkM cl th dy sn kd pl pa kn sp ss) := by
  have z : qfO (qrF (plM (mkM cl th dy sn kd pl pa kn sp ss)) (paM (mkM cl th dy sn kd pl pa kn sp ss)) (knM (mkM cl th dy sn kd pl pa kn sp ss))) th.toInt.toNat th.toInt.toNat = (x, y) := (qfO_eq (fun t u ht hu => qrF_eq (n := th.toInt.toNat) (fun j q => ⟨msk_in (by omega), msk_in (by omega), msk_in (by omega)⟩) ht hu) (Nat.le_refl _)).trans e.symm
  unfold qQuarrel
  rw [if_neg (fun w => w h)]
  show r = if a = 0 then (qfO (qrF (plM (mkM cl th dy sn kd pl pa kn sp ss)) (paM (mkM cl th dy sn kd pl pa kn sp ss)) (knM (mkM cl th dy sn kd pl pa kn sp ss))) th.toInt.toNat th.toInt.toNat).1 else (qfO (qrF (plM (mkM cl th dy sn kd pl pa kn sp ss)) (paM (mkM cl th dy sn kd pl pa kn sp ss)) (knM (mkM cl th dy sn kd pl pa kn sp ss))) th.toInt.toNat th.toInt.toNat).2
  rw [z]
  obtain q | q := hr
  · rw [if_pos q.1]; exact q.2
  · rw [if_neg q.1]; exact q.2
theorem qfI_y {Q : Nat → Nat → Prop} {t u : Nat} {s : Int × Int} {x y x2 y2 : Int} (e : (x, y) = qfI Q t u s) (hq : t < u ∧ Q t u) (h1 : x2 = x + 1) (h2 : (x = 0 ∧ y2 = 10 * (t : Int) + (u : Int)) ∨ (¬ x = 0 ∧ y2 = y)) : (x2, y2) = qfI Q t (u + 1) s := by
  show _ = qst (t < u ∧ Q t u) (10 * (t : Int) + (u : Int)) (qfI Q t u s)
  rw [← e, qst_t hq, h1]
  obtain q | q := h2
  · rw [if_pos q.1, q.2]
  · rw [if_neg q.1, q.2]
theorem qfI_n {Q : Nat → Nat → Prop} {t u : Nat} {s : Int × Int} {x y x2 y2 : Int} (e : (x, y) = qfI Q t u s) (hq : ¬ (t < u ∧ Q t u)) (h1 : x2 = x) (h2 : y2 = y) : (x2, y2) = qfI Q t (u + 1) s := by
  show _ = qst (t < u ∧ Q t u) (10 * (t : Int) + (u : Int)) (qfI Q t u s)
  rw [← e, qst_f hq, h1, h2]
theorem qr_kn {x y : Int32} (w : (x / 10).toInt = (y / 10).toInt) (v : (x - x / 10 * 10).toInt = (y - y / 10 * 10).toInt) (hx : 0 ≤ x.toInt ∧ x.toInt ≤ 99) (hy : 0 ≤ y.toInt ∧ y.toInt ≤ 99) : x = y := by
  have a := ti_div (10 : Int32) 10 rfl x (by decide) hx.1
  have b := ti_div (10 : Int32) 10 rfl y (by decide) hy.1
  have c := ti_rem (10 : Int32) 10 rfl x (by decide) hx.1
  have d := ti_rem (10 : Int32) 10 rfl y (by decide) hy.1
  exact Int32.toInt_inj.mp (by omega)
noncomputable def c20 : Nat → Int := fun _ => 20
/-! the reference's codes: which are rings, which ring each is -/
noncomputable def vR (cl : Int) (n c m : Nat) : Prop := ∀ i : Nat, i < m → ((dg n c i : Nat) : Int) < cl ∧ (0 < i → dg n c 0 < dg n c i) ∧ ∀ k : Nat, 0 < k → k < i → ¬ dg n c i = dg n c k
noncomputable def v4 (n c : Nat) : Bool := decide (∀ i : Nat, i < n → (0 < i → dg n c 0 < dg n c i) ∧ ∀ k : Nat, k < i → 0 < k → ¬ dg n c i = dg n c k)
