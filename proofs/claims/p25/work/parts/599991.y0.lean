/-! ===== what is owed ===== -/
def wc (h : qm_H) : Prop := wfM (mC h)
def wr (h : qm_H) : Prop := wfM (mR h)
noncomputable def owT (pl pa kn : Nat → Int32) (p d : Int) (t : Nat) : Int := ifP ((pa t).toInt = p ∧ (kn t).toInt % 10 ≤ d ∧ ¬ icA pl pa kn t) ((kn t).toInt / 10) 0
noncomputable def owS (pl pa kn : Nat → Int32) (p d : Int) : Nat → Int := sumI (owT pl pa kn p d)
theorem owT_rng {pl pa kn : Nat → Int32} {p d : Int} {t : Nat} (h : 0 ≤ (kn t).toInt ∧ (kn t).toInt ≤ 99) : 0 ≤ owT pl pa kn p d t ∧ owT pl pa kn p d t ≤ 9 := by
  by_cases q : (pa t).toInt = p ∧ (kn t).toInt % 10 ≤ d ∧ ¬ icA pl pa kn t
  · rw [show owT pl pa kn p d t = (kn t).toInt / 10 from ifP_t q]; omega
  · rw [show owT pl pa kn p d t = 0 from ifP_f q]; omega
theorem owS_rng {pl pa kn : Nat → Int32} {p d : Int} : ∀ {n : Nat}, (∀ j : Nat, j < n → 0 ≤ (kn j).toInt ∧ (kn j).toInt ≤ 99) → 0 ≤ owS pl pa kn p d n ∧ owS pl pa kn p d n ≤ 9 * (n : Int)
  | 0, _ => ⟨Int.le_refl _, Int.le_refl _⟩
  | n + 1, h => by
    have a := owS_rng (pl := pl) (pa := pa) (kn := kn) (p := p) (d := d) (n := n) (fun j q => h j (by omega))
    have b := owT_rng (pl := pl) (pa := pa) (p := p) (d := d) (h n (Nat.lt_succ_self _))
    show 0 ≤ owS pl pa kn p d n + owT pl pa kn p d n ∧ owS pl pa kn p d n + owT pl pa kn p d n ≤ 9 * ((n + 1 : Nat) : Int)
    omega
theorem owT_eq {pl pa kn pl2 pa2 kn2 : Nat → Int32} {p d : Int} {t n : Nat} (h : ∀ j : Nat, j < n → pl j = pl2 j ∧ pa j = pa2 j ∧ kn j = kn2 j) (ht : t < n) : owT pl pa kn p d t = owT pl2 pa2 kn2 p d t := by
  have e := icA_eq h ht
  by_cases q : (pa t).toInt = p ∧ (kn t).toInt % 10 ≤ d ∧ ¬ icA pl pa kn t
  · rw [show owT pl pa kn p d t = (kn t).toInt / 10 from ifP_t q]
    rw [(h t ht).2.1, (h t ht).2.2] at q
    rw [show owT pl2 pa2 kn2 p d t = (kn2 t).toInt / 10 from ifP_t ⟨q.1, q.2.1, fun z => q.2.2 (e.mpr z)⟩, (h t ht).2.2]
  · rw [show owT pl pa kn p d t = 0 from ifP_f q]
    rw [(h t ht).2.1, (h t ht).2.2] at q
    exact (ifP_f (fun z => q ⟨z.1, z.2.1, fun w => z.2.2 (e.mp w)⟩)).symm
theorem owS_eq {pl pa kn pl2 pa2 kn2 : Nat → Int32} {p d : Int} {n : Nat} (h : ∀ j : Nat, j < n → pl j = pl2 j ∧ pa j = pa2 j ∧ kn j = kn2 j) : owS pl pa kn p d n = owS pl2 pa2 kn2 p d n := sumI_eq (fun j q => owT_eq h q)
noncomputable def owM (M : Mem) (p d : Int) : Int := owS (plM M) (paM M) (knM M) p d (thM M).toInt.toNat
theorem owM_mk {cl th dy sn : Int32} {kd pl pa kn sp ss : Nat → Int32} {p d : Int} : owM (mkM cl th dy sn kd pl pa kn sp ss) p d = owS pl pa kn p d th.toInt.toNat := owS_eq (fun j q => ⟨msk_in (by have q : j < th.toInt.toNat := q; omega), msk_in (by have q : j < th.toInt.toNat := q; omega), msk_in (by have q : j < th.toInt.toNat := q; omega)⟩)
/-- the knots of a Memory that is well kept -/
theorem wf_kn {cl th dy sn : Int32} {kd pl pa kn sp ss : Nat → Int32} (h : wfM (mkM cl th dy sn kd pl pa kn sp ss)) : ∀ j : Nat, (j : Int) < th.toInt → 0 ≤ (kn j).toInt ∧ (kn j).toInt ≤ 99 := fun j q => by
  have := ((wf_raw h).2.2.1 j q).2.2
  omega
noncomputable def qOwed (a b : Int) (M : Mem) : Int := if ¬ ((0 ≤ a ∧ a / 10 < (clM M).toInt ∧ a % 10 < (clM M).toInt ∧ ¬ a / 10 = a % 10) ∧ 0 ≤ b ∧ b ≤ 1) then -1 else owM M a (if b = 0 then 9 else (dyM M).toInt)
theorem owed_no {a b : Int} {cl th dy sn : Int32} {kd pl pa kn sp ss : Nat → Int32} (h : ¬ ((0 ≤ a ∧ a / 10 < cl.toInt ∧ a % 10 < cl.toInt ∧ ¬ a / 10 = a % 10) ∧ 0 ≤ b ∧ b ≤ 1)) : qOwed a b (mkM cl th dy sn kd pl pa kn sp ss) = -1 := if_pos h
theorem owed_ok {a b d : Int} {cl th dy sn : Int32} {kd pl pa kn sp ss : Nat → Int32} (h : (0 ≤ a ∧ a / 10 < cl.toInt ∧ a % 10 < cl.toInt ∧ ¬ a / 10 = a % 10) ∧ 0 ≤ b ∧ b ≤ 1) (hd : (b = 0 ∧ d = 9) ∨ (¬ b = 0 ∧ d = dy.toInt)) : qOwed a b (mkM cl th dy sn kd pl pa kn sp ss) = owS pl pa kn a d th.toInt.toNat := by
  unfold qOwed
  rw [if_neg (fun z => z h), owM_mk]
  obtain q | q := hd
  · rw [if_pos q.1, q.2]
  · rw [if_neg q.1, q.2]; rfl
theorem wf_tr2 {M N : Mem} (h : wfM M) (e : N = M) : wfM N := e ▸ h
/-- the reference's sums by fours -/
def owI (pl pa kn : Nat → Int32) (d : Int) (n : Nat) (f : Nat → Int32) : Prop := ∀ x y : Nat, x < 4 → y < 4 → (f (4 * x + y)).toInt = owS pl pa kn (10 * (x : Int) + (y : Int)) d n
theorem owI_0 {pl pa kn : Nat → Int32} {d m : Int} {f : Nat → Int32} {n : Nat} (h : owz f m) (hm : 16 ≤ m) (hn : n = 0) : owI pl pa kn d n f := fun x y hx hy => by
  rw [h (4 * x + y) (by omega), hn]; rfl
theorem owI_s {pl pa kn : Nat → Int32} {d : Int} {n ix : Nat} {f g : Nat → Int32} {v : Int32} (h : owI pl pa kn d n f) (hk : ∀ j : Nat, j < 10 → 0 ≤ (kn j).toInt ∧ (kn j).toInt ≤ 99) (hp : 0 ≤ (pa n).toInt ∧ (pa n).toInt / 10 ≤ 3 ∧ (pa n).toInt % 10 ≤ 3) (hn : n ≤ 9) (hx : (ix : Int) = 4 * ((pa n).toInt / 10) + (pa n).toInt % 10) (hv : v.toInt = owT pl pa kn (pa n).toInt d n) (e : g = upd f ix (f ix + v)) : owI pl pa kn d (n + 1) g := by
  intro x y h1 h2
  have a := h x y h1 h2
  rw [e]
  show _ = owS pl pa kn (10 * (x : Int) + (y : Int)) d n + owT pl pa kn (10 * (x : Int) + (y : Int)) d n
  by_cases q : 4 * x + y = ix
  · have ep : 10 * (x : Int) + (y : Int) = (pa n).toInt := by omega
    rw [q, upd_same]
    rw [q] at a
    have r1 := owS_rng (pl := pl) (pa := pa) (kn := kn) (p := 10 * (x : Int) + (y : Int)) (d := d) (n := n) (fun j w => hk j (by omega))
    have r2 := owT_rng (pl := pl) (pa := pa) (kn := kn) (p := (pa n).toInt) (d := d) (t := n) (hk n (by omega))
    have s := ti_add (f ix) v (by omega)
    rw [ep] at a r1 ⊢
    omega
  · rw [upd_ne q, a, show owT pl pa kn (10 * (x : Int) + (y : Int)) d n = 0 from ifP_f (fun w => by have w1 := w.1; omega), Int.add_zero]
theorem ow_41 {h g : qm_H} {p d : Int} {n : Nat} (s : ∀ j : Nat, j < 49 → g 41 j = h 40 j) (hn : n ≤ 10) : owS (fun t => g 41 (6 + 3 * t)) (fun t => g 41 (7 + 3 * t)) (fun t => g 41 (8 + 3 * t)) p d n = owS (fun t => h 40 (6 + 3 * t)) (fun t => h 40 (7 + 3 * t)) (fun t => h 40 (8 + 3 * t)) p d n := owS_eq (fun j q => ⟨s _ (by omega), s _ (by omega), s _ (by omega)⟩)
