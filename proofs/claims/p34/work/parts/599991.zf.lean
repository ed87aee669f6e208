/-! ===== by a seed ===== -/
def drB0 (x : Int32) : Int32 := (1 <<< (x &&& 31)) - 1
def drS (x : Int32) : Int32 := (x * 1103515245) + 12345
def drX (x : Int32) : Int32 := (x >>> (16 &&& 31)) &&& 32767
def drQ (x : Int32) : Int := (drX x - drX x / 20 * 20).toInt
def drC (y : Int32) (t : Nat) : Int32 := y &&& ((1 <<< (nI t &&& 31)) ^^^ (-1 : Int32))
def drT (sl : Nat → Int) (p : Int32 × Int32) (t : Nat) : Int32 × Int32 := if bP p.2 t = true then p else if drQ (drS p.1) < sl t then (drS p.1, drC p.2 t) else (drS p.1, p.2)
def drI (sl : Nat → Int) (p : Int32 × Int32) : Nat → Int32 × Int32
  | 0 => p
  | n + 1 => drT sl (drI sl p n) n
def drN (sl : Nat → Int) (th : Nat) (p : Int32 × Int32) : Nat → Int32 × Int32
  | 0 => p
  | k + 1 => drI sl (drN sl th p k) th
theorem drI_z {sl : Nat → Int} {p : Int32 × Int32} {x y : Int32} {t : Nat} (e : (x, y) = drI sl p t) (hb : bP y t = true) : (x, y) = drI sl p (t + 1) := by
  show (x, y) = drT sl (drI sl p t) t
  rw [← e]
  exact (if_pos hb).symm
theorem drI_y {sl : Nat → Int} {p : Int32 × Int32} {x y x2 y2 : Int32} {t : Nat} (e : (x, y) = drI sl p t) (hb : ¬ bP y t = true) (hq : drQ (drS x) < sl t) (h1 : x2 = drS x) (h2 : y2 = drC y t) : (x2, y2) = drI sl p (t + 1) := by
  show (x2, y2) = drT sl (drI sl p t) t
  rw [← e, h1, h2]
  show (drS x, drC y t) = if bP y t = true then (x, y) else if drQ (drS x) < sl t then (drS x, drC y t) else (drS x, y)
  rw [if_neg hb, if_pos hq]
theorem drI_n {sl : Nat → Int} {p : Int32 × Int32} {x y x2 y2 : Int32} {t : Nat} (e : (x, y) = drI sl p t) (hb : ¬ bP y t = true) (hq : ¬ drQ (drS x) < sl t) (h1 : x2 = drS x) (h2 : y2 = y) : (x2, y2) = drI sl p (t + 1) := by
  show (x2, y2) = drT sl (drI sl p t) t
  rw [← e, h1, h2]
  show (drS x, y) = if bP y t = true then (x, y) else if drQ (drS x) < sl t then (drS x, drC y t) else (drS x, y)
  rw [if_neg hb, if_neg hq]
theorem drI_eq {f g : Nat → Int} {p : Int32 × Int32} : ∀ {n : Nat}, (∀ j : Nat, j < n → f j = g j) → drI f p n = drI g p n
  | 0, _ => rfl
  | n + 1, h => by
    show drT f (drI f p n) n = drT g (drI g p n) n
    rw [drI_eq (fun j q => h j (by omega))]
    unfold drT
    rw [h n (Nat.lt_succ_self _)]
theorem drN_eq {f g : Nat → Int} {th : Nat} {p : Int32 × Int32} (h : ∀ j : Nat, j < th → f j = g j) : ∀ {k : Nat}, drN f th p k = drN g th p k
  | 0 => rfl
  | k + 1 => by
    show drI f (drN f th p k) th = drI g (drN g th p k) th
    rw [drN_eq h, drI_eq h]
theorem drX_C {x : Int32} : ((((Int32.toUInt32 x) >>> ((Int32.toUInt32 16) &&& Int32.toUInt32 31)).toInt32) &&& 32767) = drX x := by
  apply Int32.toBitVec_inj.mp
  apply BitVec.eq_of_getLsbD_eq
  intro i hi
  show ((x.toBitVec >>> (16 : Nat)) &&& 32767#32).getLsbD i = (x.toBitVec.sshiftRight 16 &&& 32767#32).getLsbD i
  rw [BitVec.getLsbD_and, BitVec.getLsbD_and, BitVec.getLsbD_ushiftRight, BitVec.getLsbD_sshiftRight]
  by_cases h : i < 15
  · rw [if_pos (show 16 + i < 32 by omega), decide_eq_false (show ¬ 32 ≤ i by omega)]
    rfl
  · have z : ∀ j : Fin 32, 15 ≤ j.val → (32767#32).getLsbD j.val = false := by decide
    rw [z ⟨i, hi⟩ (by show 15 ≤ i; omega), Bool.and_false, Bool.and_false]
theorem bi_and {x y : Int32} {u : Nat} : bi (x &&& y) u = (bi x u && bi y u) := by
  show (x.toBitVec &&& y.toBitVec).getLsbD u = _
  rw [BitVec.getLsbD_and]
  rfl
theorem bi_msk : ∀ t : Fin 10, ∀ u : Fin 10, bi ((1 <<< (nI t.val &&& 31)) ^^^ (-1 : Int32)) u.val = decide (¬ u.val = t.val) := by decide +kernel
theorem bP_clr {y : Int32} {t u : Nat} (ht : t < 10) (hu : u < 10) (hne : ¬ u = t) : bP (drC y t) u = bP y u := by
  unfold drC
  rw [bP_i hu, bP_i hu, bi_and, bi_msk ⟨t, ht⟩ ⟨u, hu⟩]
  show (!(bi y u && decide (¬ u = t))) = _
  rw [decide_eq_true hne, Bool.and_true]
theorem drC_l {y l : Int32} {n : Nat} (h : l = nI n) : (y &&& ((1 <<< (l &&& 31)) ^^^ (-1 : Int32))) = drC y n := by
  rw [h]
  rfl
theorem and_n1 {y : Int32} : (y &&& (-1 : Int32)) = y := by
  apply Int32.toBitVec_inj.mp
  apply BitVec.eq_of_getLsbD_eq
  intro i hi
  show (y.toBitVec &&& (-1 : Int32).toBitVec).getLsbD i = _
  have z : ∀ j : Fin 32, (-1 : Int32).toBitVec.getLsbD j.val = true := by decide
  rw [BitVec.getLsbD_and, z ⟨i, hi⟩, Bool.and_true]
/-- a bit is there -/
def hbQ (a b : Int32) : Prop := ¬ ((a >>> (b &&& 31)) &&& 1) = 0
theorem hb_no {a l : Int32} {n : Nat} (hl : l = nI n) (h : hbQ a l) : ¬ bP a n = true := bP_no hl h
theorem hb_yes {a l : Int32} {n : Nat} (hl : l = nI n) (h : ¬ hbQ a l) : bP a n = true := bP_yes hl (Decidable.of_not_not h)
theorem an1 {y : Int32} : (y &&& 1) = 0 ∨ (y &&& 1) = 1 := by
  have a := and_le (1 : Int32) y (by decide)
  have h1 : (1 : Int32).toInt = 1 := rfl
  have e : (1 &&& y) = (y &&& 1) := Int32.and_comm 1 y
  rw [e] at a
  have q : (y &&& 1).toInt = 0 ∨ (y &&& 1).toInt = 1 := by omega
  obtain q | q := q
  · exact Or.inl (Int32.toInt_inj.mp (q.trans rfl))
  · exact Or.inr (Int32.toInt_inj.mp (q.trans rfl))
theorem an10 {y : Int32} (h : y = 1) : ¬ y = 0 := fun w => absurd (h.symm.trans w) (by decide)
def drW (y z : Int32) (t : Nat) : Prop := ∀ u : Nat, t ≤ u → u < 10 → bP y u = bP z u
theorem drW_0 {y : Int32} {t : Nat} : drW y y t := fun _ _ _ => rfl
theorem drW_k {y z : Int32} {t : Nat} (h : drW y z t) : drW y z (t + 1) := fun u a b => h u (by omega) b
theorem drW_c {y z : Int32} {t : Nat} (h : drW y z t) (ht : t < 10) : drW (drC y t) z (t + 1) := fun u a b => (bP_clr ht b (by omega)).trans (h u (by omega) b)
noncomputable def qDrift (a : Int32) (n v : Int) (M : Mem) : Int := ifP ((1 ≤ n ∧ n ≤ 20) ∧ 0 ≤ v ∧ v ≤ 10) ((drN (slO (kdM M) (plM M) v) (thM M).toInt.toNat (a, drB0 (thM M)) n.toNat).2.toInt) (-1)
theorem drift_no {a : Int32} {n v : Int} {M : Mem} (h : ¬ ((1 ≤ n ∧ n ≤ 20) ∧ 0 ≤ v ∧ v ≤ 10)) : qDrift a n v M = -1 := ifP_f h
theorem drift_ok {a x y : Int32} {n v : Int} {k : Nat} {cl th dy sn : Int32} {kd pl pa kn sp ss : Nat → Int32} (wf : wfM (mkM cl th dy sn kd pl pa kn sp ss)) (h : (1 ≤ n ∧ n ≤ 20) ∧ 0 ≤ v ∧ v ≤ 10) (hk : k = n.toNat) (e : (x, y) = drN (slO kd pl v) th.toInt.toNat (a, drB0 th) k) : y.toInt = qDrift a n v (mkM cl th dy sn kd pl pa kn sp ss) := by
  have q : drN (slO (msk cl kd) (msk th pl) v) th.toInt.toNat (a, drB0 th) n.toNat = drN (slO kd pl v) th.toInt.toNat (a, drB0 th) n.toNat := drN_eq (fun j w => slO_mk wf w)
  refine Eq.symm ((ifP_t h).trans ?_)
  show (drN (slO (msk cl kd) (msk th pl) v) th.toInt.toNat (a, drB0 th) n.toNat).2.toInt = _
  rw [q, ← hk, ← e]
