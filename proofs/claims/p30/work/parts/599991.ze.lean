/-! ===== laundry: odds, products, fractions in lowest terms ===== -/
noncomputable def slO (kd pl : Nat → Int32) (v : Int) (t : Nat) : Int := ifP ((kd (pl t / 10).toInt.toNat).toInt = 2) v (ifP ((kd (pl t / 10).toInt.toNat).toInt = 3) 0 (2 * v))
theorem slO_2 {kd pl : Nat → Int32} {v k : Int} {t : Nat} (e : k = (kd (pl t / 10).toInt.toNat).toInt) (h : k = 2) : slO kd pl v t = v := ifP_t (by omega)
theorem slO_3 {kd pl : Nat → Int32} {v k : Int} {t : Nat} (e : k = (kd (pl t / 10).toInt.toNat).toInt) (h : k = 3) : slO kd pl v t = 0 := (ifP_f (by omega)).trans (ifP_t (by omega))
theorem slO_d {kd pl : Nat → Int32} {v k : Int} {t : Nat} (e : k = (kd (pl t / 10).toInt.toNat).toInt) (h2 : ¬ k = 2) (h3 : ¬ k = 3) : slO kd pl v t = 2 * v := (ifP_f (by omega)).trans (ifP_f (by omega))
theorem slO_rng {kd pl : Nat → Int32} {v : Int} {t : Nat} (hv : 0 ≤ v ∧ v ≤ 10) : 0 ≤ slO kd pl v t ∧ slO kd pl v t ≤ 20 := by
  by_cases h2 : (kd (pl t / 10).toInt.toNat).toInt = 2
  · rw [slO_2 rfl h2]; omega
  · by_cases h3 : (kd (pl t / 10).toInt.toNat).toInt = 3
    · rw [slO_3 rfl h3]; omega
    · rw [slO_d rfl h2 h3]; omega
theorem slO_eq {kd pl kd2 pl2 : Nat → Int32} {v : Int} {t : Nat} (e1 : pl t = pl2 t) (e2 : kd (pl2 t / 10).toInt.toNat = kd2 (pl2 t / 10).toInt.toNat) : slO kd pl v t = slO kd2 pl2 v t := by
  unfold slO
  rw [e1, e2]
/-- a THREAD's hand is a CLERK's -/
theorem wf_hd {cl th dy sn : Int32} {kd pl pa kn sp ss : Nat → Int32} (h : wfM (mkM cl th dy sn kd pl pa kn sp ss)) {j : Nat} (hj : (j : Int) < th.toInt) : 0 ≤ (pl j / 10).toInt ∧ (pl j / 10).toInt < cl.toInt ∧ cl.toInt ≤ 4 := by
  have a := ((wf_raw h).2.2.1 j hj).1
  unfold okPl at a
  have b := (wf_raw h).1.1
  have e := ti_div (10 : Int32) 10 rfl (pl j) (by decide) (by omega)
  omega
theorem slO_mk {cl th dy sn : Int32} {kd pl pa kn sp ss : Nat → Int32} (w : wfM (mkM cl th dy sn kd pl pa kn sp ss)) {v : Int} {j : Nat} (hj : j < th.toInt.toNat) : slO (msk cl kd) (msk th pl) v j = slO kd pl v j := by
  have a := wf_hd w (j := j) (by omega)
  exact slO_eq (msk_in (by omega)) (msk_in (by omega))
theorem slO_41 {h g : qm_H} {v : Int} {t : Nat} (s : ∀ j : Nat, j < 49 → g 41 j = h 40 j) (ht : t < 10) (hh : 0 ≤ (h 40 (6 + 3 * t) / 10).toInt ∧ (h 40 (6 + 3 * t) / 10).toInt < 49) : slO (g 41) (fun t => g 41 (6 + 3 * t)) v t = slO (h 40) (fun t => h 40 (6 + 3 * t)) v t := slO_eq (s _ (by omega)) (s _ (by omega))
noncomputable def stO (kd pl : Nat → Int32) (v : Int) (t : Nat) : Int := 20 - slO kd pl v t
theorem stO_rng {kd pl : Nat → Int32} {v : Int} {t : Nat} (hv : 0 ≤ v ∧ v ≤ 10) : 0 ≤ stO kd pl v t ∧ stO kd pl v t ≤ 20 := by
  have a := slO_rng (kd := kd) (pl := pl) (t := t) hv
  unfold stO
  omega
theorem stO_mk {cl th dy sn : Int32} {kd pl pa kn sp ss : Nat → Int32} (w : wfM (mkM cl th dy sn kd pl pa kn sp ss)) {v : Int} {j : Nat} (hj : j < th.toInt.toNat) : stO (msk cl kd) (msk th pl) v j = stO kd pl v j := by
  unfold stO
  rw [slO_mk w hj]
noncomputable def c20 : Nat → Int := fun _ => 20
/-! products -/
noncomputable def pdI (f : Nat → Int) : Nat → Int
  | 0 => 1
  | n + 1 => pdI f n * f n
theorem pdI_s {f : Nat → Int} {n : Nat} : pdI f (n + 1) = pdI f n * f n := rfl
theorem pdI_eq {f g : Nat → Int} : ∀ {n : Nat}, (∀ j : Nat, j < n → f j = g j) → pdI f n = pdI g n
  | 0, _ => rfl
  | n + 1, h => by rw [pdI_s, pdI_s, pdI_eq (fun j q => h j (by omega)), h n (Nat.lt_succ_self _)]
theorem pdI_rng {f : Nat → Int} (h : ∀ j : Nat, 0 ≤ f j ∧ f j ≤ 20) : ∀ n : Nat, 0 ≤ pdI f n ∧ pdI f n ≤ ((20 ^ n : Nat) : Int)
  | 0 => ⟨by show (0 : Int) ≤ 1; decide, by show (1 : Int) ≤ ((1 : Nat) : Int); decide⟩
  | n + 1 => by
    have a := pdI_rng h n
    have b := h n
    refine ⟨Int.mul_nonneg a.1 b.1, ?_⟩
    have e := Int.mul_le_mul a.2 b.2 b.1 (Int.natCast_nonneg _)
    have q : ((20 ^ (n + 1) : Nat) : Int) = ((20 ^ n : Nat) : Int) * 20 := by rw [Nat.pow_succ]; exact Int.natCast_mul _ _
    rw [pdI_s, q]
    exact e
theorem pdI_top {f : Nat → Int} (h : ∀ j : Nat, 0 ≤ f j ∧ f j ≤ 20) {n : Nat} (hn : n ≤ 10) : 0 ≤ pdI f n ∧ pdI f n ≤ 10240000000000 := by
  have a := pdI_rng h n
  have b := k20_top n hn
  generalize (20 ^ n : Nat) = p at a b
  omega
theorem pdI_9 {f : Nat → Int} (h : ∀ j : Nat, 0 ≤ f j ∧ f j ≤ 20) {n : Nat} (hn : n ≤ 9) : 0 ≤ pdI f n ∧ pdI f n ≤ 512000000000 := by
  have a := pdI_rng h n
  have b : (20 ^ n : Nat) ≤ 20 ^ 9 := Nat.pow_le_pow_right (by decide) hn
  have c : (20 ^ 9 : Nat) = 512000000000 := by decide
  generalize (20 ^ n : Nat) = p at a b
  omega
theorem pdI_pos {f : Nat → Int} (h : ∀ j : Nat, 1 ≤ f j) : ∀ n : Nat, 1 ≤ pdI f n
  | 0 => by show (1 : Int) ≤ 1; decide
  | n + 1 => by
    have a := pdI_pos h n
    have e := Int.mul_le_mul a (h n) (by decide) (by omega)
    rw [Int.mul_one] at e
    exact e
theorem pdI_le {f g : Nat → Int} (h : ∀ j : Nat, 0 ≤ f j ∧ f j ≤ g j) : ∀ n : Nat, 0 ≤ pdI f n ∧ pdI f n ≤ pdI g n
  | 0 => ⟨by show (0 : Int) ≤ 1; decide, Int.le_refl _⟩
  | n + 1 => by
    have a := pdI_le h n
    have b := h n
    exact ⟨Int.mul_nonneg a.1 b.1, Int.mul_le_mul a.2 b.2 b.1 (by omega)⟩
/-! Int64 -/
theorem l_mulI {x : Int64} {y : Int32} {p q : Int} (hx : x.toInt = p) (hp : 0 ≤ p ∧ p ≤ 512000000000) (hy : y.toInt = q) (hq : 0 ≤ q ∧ q ≤ 20) : (x * y.toInt64).toInt = p * q := by
  have b := Int.mul_le_mul hp.2 hq.2 hq.1 (by decide)
  have c := Int.mul_nonneg hp.1 hq.1
  rw [Int64.toInt_mul, i64, hx, hy]
  refine Int.bmod_eq_of_le ?_ ?_ <;> omega
theorem l_quo {x y : Int64} (hx : 0 ≤ x.toInt) (hy : 0 < y.toInt) : (x / y).toInt = x.toInt / y.toInt := by
  have h1 := x.toInt_lt
  have a := Int.ediv_nonneg hx (Int.le_of_lt hy)
  have b := Int.ediv_le_self y.toInt hx
  rw [Int64.toInt_div, Int.tdiv_eq_ediv_of_nonneg hx]
  refine Int.bmod_eq_of_le ?_ ?_ <;> omega
theorem l_mod {x y : Int64} (hx : 0 ≤ x.toInt) (hy : 0 < y.toInt) : (x - x / y * y).toInt = x.toInt % y.toInt := by
  have h1 := y.toInt_lt
  have a := Int.emod_nonneg x.toInt (show y.toInt ≠ 0 by omega)
  have b := Int.emod_lt_of_pos x.toInt hy
  have e : x.toInt - x.toInt / y.toInt * y.toInt = x.toInt % y.toInt := by
    have := Int.emod_add_mul_ediv x.toInt y.toInt
    rw [Int.mul_comm] at this
    omega
  rw [Int64.toInt_sub, Int64.toInt_mul, Int64.toInt_div, Int.tdiv_eq_ediv_of_nonneg hx, Int.bmod_mul_bmod, Int.sub_bmod_bmod, e]
  refine Int.bmod_eq_of_le ?_ ?_ <;> omega
theorem lg_same {x y : Int64} (h : x = y) : lg_cmp x y = 0 := by
  subst h
  simp [lg_cmp]
theorem lg_0 {y : Int64} (h : lg_cmp y 0 = 0) : y.toInt = 0 := by rw [lg_eq0 h]; rfl
theorem lg_n0 {y : Int64} (h : ¬ lg_cmp y 0 = 0) : ¬ y.toInt = 0 := fun e => lg_ne h (Int64.toInt_inj.mp (e.trans rfl))
/-! a long number is so much -/
noncomputable def lgE (x : Int64) (p : Int) : Prop := x.toInt = p
noncomputable def lgR (x : Int64) : Prop := 0 ≤ x.toInt ∧ x.toInt ≤ 17592186044416
noncomputable def lgP (x : Int64) : Prop := 1 ≤ x.toInt ∧ x.toInt ≤ 17592186044416
theorem lgE_20 : lgE 20 20 := rfl
theorem lgE_n1 : (-1 : Int64).toInt = -1 := by decide
theorem lgR_of {x : Int64} {p : Int} (e : lgE x p) (h : 0 ≤ p ∧ p ≤ 17592186044416) : lgR x := by
  have e : x.toInt = p := e
  unfold lgR
  omega
theorem lgP_of {x : Int64} {p : Int} (e : lgE x p) (h : 1 ≤ p ∧ p ≤ 17592186044416) : lgP x := by
  have e : x.toInt = p := e
  unfold lgP
  omega
theorem lgE_add {x : Int64} {y : Int32} {p q : Int} (hx : lgE x p) (hy : y.toInt = q) (hp : 0 ≤ p ∧ p ≤ 1000) (hq : 0 ≤ q ∧ q ≤ 20) : lgE (x + y.toInt64) (p + q) := by
  have e : x.toInt = p := hx
  have a := i64 y
  have b := l_add x y.toInt64 (by omega)
  show (x + y.toInt64).toInt = p + q
  omega
theorem lgE_mul {x : Int64} {y : Int32} {p q : Int} (hx : lgE x p) (hp : 0 ≤ p ∧ p ≤ 512000000000) (hy : y.toInt = q) (hq : 0 ≤ q ∧ q ≤ 20) : lgE (x * y.toInt64) (p * q) := l_mulI hx hp hy hq
theorem lgE_m20 {x : Int64} {p : Int} (hx : lgE x p) (hp : 0 ≤ p ∧ p ≤ 512000000000) : lgE (x * 20) (p * 20) := by
  have e : x.toInt = p := hx
  have a := l_mul20 x (by omega) (by omega)
  show (x * 20).toInt = p * 20
  omega
theorem lgE_m1 {x : Int64} {p : Int} (hx : lgE x p) : lgE (x * 1) p := (l_mul1 x).trans hx
theorem lgE_sub {x y : Int64} {p q : Int} (hx : lgE x p) (hy : lgE y q) (h : 0 ≤ q ∧ q ≤ p ∧ p ≤ 17592186044416) : lgE (x - y) (p - q) := by
  have e1 : x.toInt = p := hx
  have e2 : y.toInt = q := hy
  show (x - y).toInt = p - q
  rw [Int64.toInt_sub, e1, e2]
  refine Int.bmod_eq_of_le ?_ ?_ <;> omega
/-! the greatest that is shared -/
noncomputable def gsI (a b x y s : Nat) : Prop := Nat.gcd x y = Nat.gcd a b ∧ (s = 0 ∨ y < x) ∧ x * y * 2 ^ (s - 1) ≤ 2 ^ 88
theorem gsI_0 {a b : Nat} (ha : a ≤ 17592186044416) (hb : b ≤ 17592186044416) : gsI a b a b 0 := by
  refine ⟨rfl, Or.inl rfl, ?_⟩
  have e := Nat.mul_le_mul ha hb
  rw [show (0 - 1 : Nat) = 0 from rfl, Nat.pow_zero, Nat.mul_one]
  exact Nat.le_trans e (by decide)
theorem gcd_st {x y : Nat} : Nat.gcd y (x % y) = Nat.gcd x y := by
  rw [Nat.gcd_comm x y, Nat.gcd_rec y x, Nat.gcd_comm]
theorem gsI_s {a b x y s : Nat} (h : gsI a b x y s) (hy : 0 < y) : gsI a b y (x % y) (s + 1) := by
  obtain ⟨h1, h2, h3⟩ := h
  refine ⟨gcd_st.trans h1, Or.inr (Nat.mod_lt x hy), ?_⟩
  rw [Nat.add_sub_cancel]
  have hm := Nat.mod_lt x hy
  by_cases hs : s = 0
  · subst hs
    rw [show (0 - 1 : Nat) = 0 from rfl, Nat.pow_zero, Nat.mul_one] at h3
    rw [Nat.pow_zero, Nat.mul_one, Nat.mul_comm]
    exact Nat.le_trans (Nat.mul_le_mul_right y (Nat.mod_le x y)) h3
  · obtain ⟨k, rfl⟩ : ∃ k, s = k + 1 := ⟨s - 1, by omega⟩
    have hlt := h2.resolve_left hs
    rw [Nat.add_sub_cancel] at h3
    have e0 := Nat.mod_add_div x y
    have e1 : y * 1 ≤ y * (x / y) := Nat.mul_le_mul_left y (Nat.div_pos (Nat.le_of_lt hlt) hy)
    have e2 : 2 * (x % y) ≤ x := by omega
    have e3 := Nat.mul_le_mul_right (y * 2 ^ k) e2
    have e4 : y * (x % y) * 2 ^ (k + 1) = 2 * (x % y) * (y * 2 ^ k) := by
      rw [Nat.pow_succ]
      simp only [Nat.mul_comm, Nat.mul_left_comm, Nat.mul_assoc]
    rw [e4]
    rw [Nat.mul_assoc] at h3
    exact Nat.le_trans e3 h3
theorem gsI_e {a b x y s : Nat} (h : gsI a b x y s) (e : y = 0 ∨ 100 ≤ s) : x = Nat.gcd a b := by
  obtain ⟨h1, h2, h3⟩ := h
  by_cases hy : y = 0
  · rw [hy, Nat.gcd_zero_right] at h1
    exact h1
  · have hs := e.resolve_left hy
    have hlt := h2.resolve_left (by omega)
    have p1 : 2 ^ 99 ≤ 2 ^ (s - 1) := Nat.pow_le_pow_right (by decide) (by omega)
    have p2 : 1 ≤ x * y := Nat.mul_pos (by omega) (by omega)
    have p3 := Nat.le_trans (Nat.mul_le_mul p2 p1) h3
    exact absurd p3 (by decide)
noncomputable def gcL (a b : Int64) : Int := ((Int.gcd a.toInt b.toInt : Nat) : Int)
theorem gcL_nat {a b : Int64} (ha : 0 ≤ a.toInt) (hb : 0 ≤ b.toInt) : gcL a b = ((Nat.gcd a.toInt.toNat b.toInt.toNat : Nat) : Int) := by
  unfold gcL Int.gcd
  rw [show a.toInt.natAbs = a.toInt.toNat by omega, show b.toInt.natAbs = b.toInt.toNat by omega]
noncomputable def gsL (a b x y : Int64) (s : Int32) : Prop := (0 ≤ a.toInt ∧ 0 ≤ b.toInt ∧ 0 ≤ x.toInt ∧ 0 ≤ y.toInt) ∧ gsI a.toInt.toNat b.toInt.toNat x.toInt.toNat y.toInt.toNat s.toInt.toNat
theorem gsL_0 {a b : Int64} {s : Int32} (ha : lgR a) (hb : lgR b) (hs : s.toInt = 0) : gsL a b a b s := by
  have h1 : 0 ≤ a.toInt ∧ a.toInt ≤ 17592186044416 := ha
  have h2 : 0 ≤ b.toInt ∧ b.toInt ≤ 17592186044416 := hb
  refine ⟨by omega, ?_⟩
  rw [show s.toInt.toNat = 0 by omega]
  exact gsI_0 (by omega) (by omega)
theorem gsL_s {a b x y : Int64} {s s2 : Int32} (h : gsL a b x y s) (hy : ¬ lg_cmp y 0 = 0) (hs : s2.toInt.toNat = s.toInt.toNat + 1) : gsL a b y (x - x / y * y) s2 := by
  obtain ⟨⟨q1, q2, q3, q4⟩, g⟩ := h
  have n0 := lg_n0 hy
  have e := l_mod q3 (show 0 < y.toInt by omega)
  have m := Int.emod_nonneg x.toInt (show y.toInt ≠ 0 from n0)
  refine ⟨by omega, ?_⟩
  rw [e, hs, Int.toNat_emod q3 q4]
  exact gsI_s g (by omega)
theorem gsL_e {a b x y : Int64} {s : Int32} (h : gsL a b x y s) (e : lg_cmp y 0 = 0 ∨ 100 ≤ s.toInt) : lgE x (gcL a b) := by
  obtain ⟨⟨q1, q2, q3, q4⟩, g⟩ := h
  show x.toInt = gcL a b
  rw [gcL_nat q1 q2, ← gsI_e g (by
    obtain w | w := e
    · have := lg_0 w; exact Or.inl (by omega)
    · exact Or.inr (by omega))]
  omega
noncomputable def cmL (a b x y : Int64) : Prop := (0 ≤ a.toInt ∧ 0 ≤ b.toInt ∧ 0 ≤ x.toInt ∧ 0 ≤ y.toInt) ∧ Nat.gcd x.toInt.toNat y.toInt.toNat = Nat.gcd a.toInt.toNat b.toInt.toNat
theorem cmL_0 {a b : Int64} (ha : lgP a) (hb : lgR b) : cmL a b a b := by
  have h1 : 1 ≤ a.toInt ∧ a.toInt ≤ 17592186044416 := ha
  have h2 : 0 ≤ b.toInt ∧ b.toInt ≤ 17592186044416 := hb
  exact ⟨by omega, rfl⟩
theorem cmL_s {a b x y : Int64} (h : cmL a b x y) (hy : ¬ lg_cmp y 0 = 0) : cmL a b y (x - x / y * y) := by
  obtain ⟨⟨q1, q2, q3, q4⟩, g⟩ := h
  have n0 := lg_n0 hy
  have e := l_mod q3 (show 0 < y.toInt by omega)
  have m := Int.emod_nonneg x.toInt (show y.toInt ≠ 0 from n0)
  refine ⟨by omega, ?_⟩
  rw [e, Int.toNat_emod q3 q4]
  exact gcd_st.trans g
theorem cmL_e {a b x y : Int64} (h : cmL a b x y) (e : lg_cmp y 0 = 0) : lgE x (gcL a b) := by
  obtain ⟨⟨q1, q2, q3, q4⟩, g⟩ := h
  have z := lg_0 e
  show x.toInt = gcL a b
  rw [gcL_nat q1 q2, ← g, show y.toInt.toNat = 0 by omega, Nat.gcd_zero_right]
  omega
/-! fractions in lowest terms -/
noncomputable def tgF (a b c : Int) : Int := ifP (c = 0) (a / ((Int.gcd a b : Nat) : Int)) (b / ((Int.gcd a b : Nat) : Int))
noncomputable def tgL (a b : Int64) (c : Int32) (r : Int64) : Prop := r.toInt = tgF a.toInt b.toInt c.toInt
theorem gcL_pos {a b : Int64} (h : lgP b) : 0 < gcL a b := by
  have h1 : 1 ≤ b.toInt ∧ b.toInt ≤ 17592186044416 := h
  have e : 0 < Int.gcd a.toInt b.toInt := Int.gcd_pos_of_ne_zero_right _ (by omega)
  unfold gcL
  omega
theorem tgL_z {a b r : Int64} {p : Prop} (hb : lgP b) (o : lgE r (gcL a b)) (h : lg_cmp r 0 = 0) : p := by
  have e : r.toInt = gcL a b := o
  have z := lg_0 h
  have q := gcL_pos (a := a) hb
  exfalso
  omega
theorem tgL_0 {a b r : Int64} {c : Int32} (ha : lgR a) (hb : lgP b) (o : lgE r (gcL a b)) (hc : c = 0) : tgL a b c (a / r) := by
  have e : r.toInt = gcL a b := o
  have q := gcL_pos (a := a) hb
  have c0 : c.toInt = 0 := by rw [hc]; rfl
  show (a / r).toInt = tgF a.toInt b.toInt c.toInt
  rw [l_quo ha.1 (by omega), e]
  exact (ifP_t c0).symm
theorem tgL_1 {a b r : Int64} {c : Int32} (hb : lgP b) (o : lgE r (gcL a b)) (hc : ¬ c = 0) : tgL a b c (b / r) := by
  have e : r.toInt = gcL a b := o
  have q := gcL_pos (a := a) hb
  have h1 : 1 ≤ b.toInt ∧ b.toInt ≤ 17592186044416 := hb
  have c0 : ¬ c.toInt = 0 := fun w => hc (Int32.toInt_inj.mp (w.trans rfl))
  show (b / r).toInt = tgF a.toInt b.toInt c.toInt
  rw [l_quo (by omega) (by omega), e]
  exact (ifP_f c0).symm
theorem gcL_comm {a b : Int64} : gcL a b = gcL b a := by
  unfold gcL
  rw [Int.gcd_comm]
theorem lgE_comm {a b r : Int64} (h : lgE r (gcL a b)) : lgE r (gcL b a) := gcL_comm (a := a) ▸ h
theorem tg_of {a b r : Int64} {c : Int32} {p q : Int} (o : tgL a b c r) (ha : lgE a p) (hb : lgE b q) : r.toInt = tgF p q c.toInt := by
  have e1 : a.toInt = p := ha
  have e2 : b.toInt = q := hb
  rw [← e1, ← e2]
  exact o
/-! the questions -/
noncomputable abbrev odW (v w : Int) : Prop := (0 ≤ v ∧ v ≤ 10) ∧ 0 ≤ w ∧ w ≤ 1
noncomputable def qSlips (v w : Int) (M : Mem) : Int := ifP (odW v w) (tgF (sumI (slO (kdM M) (plM M) v) (thM M).toInt.toNat) 20 w) (-1)
noncomputable def qNone (v w : Int) (M : Mem) : Int := ifP (odW v w) (tgF (pdI (stO (kdM M) (plM M) v) (thM M).toInt.toNat) (pdI c20 (thM M).toInt.toNat) w) (-1)
theorem slips_no {v w : Int} {M : Mem} (h : ¬ odW v w) : qSlips v w M = -1 := ifP_f h
theorem none_no {v w : Int} {M : Mem} (h : ¬ odW v w) : qNone v w M = -1 := ifP_f h
theorem slips_ok {v w : Int} {cl th dy sn : Int32} {kd pl pa kn sp ss : Nat → Int32} (wf : wfM (mkM cl th dy sn kd pl pa kn sp ss)) (h : odW v w) : qSlips v w (mkM cl th dy sn kd pl pa kn sp ss) = tgF (sumI (slO kd pl v) th.toInt.toNat) 20 w := by
  have e : sumI (slO (msk cl kd) (msk th pl) v) th.toInt.toNat = sumI (slO kd pl v) th.toInt.toNat := sumI_eq (fun j q => slO_mk wf q)
  rw [← e]
  exact ifP_t h
theorem none_ok {v w : Int} {cl th dy sn : Int32} {kd pl pa kn sp ss : Nat → Int32} (wf : wfM (mkM cl th dy sn kd pl pa kn sp ss)) (h : odW v w) : qNone v w (mkM cl th dy sn kd pl pa kn sp ss) = tgF (pdI (stO kd pl v) th.toInt.toNat) (pdI c20 th.toInt.toNat) w := by
  have e : pdI (stO (msk cl kd) (msk th pl) v) th.toInt.toNat = pdI (stO kd pl v) th.toInt.toNat := pdI_eq (fun j q => stO_mk wf q)
  rw [← e]
  exact ifP_t h
/-! kept: the THREADS of one debt -/
noncomputable def sdK (pa kn : Nat → Int32) (t u : Nat) : Prop := (pa t).toInt = (pa u).toInt ∧ (kn t).toInt = (kn u).toInt
noncomputable def kpF (pa kn : Nat → Int32) (t : Nat) (f : Nat → Int) (u : Nat) : Int := ifP (sdK pa kn t u) (f u) 1
theorem kpF_t {pa kn : Nat → Int32} {t u : Nat} {f : Nat → Int} (h : sdK pa kn t u) : kpF pa kn t f u = f u := ifP_t h
theorem kpF_f {pa kn : Nat → Int32} {t u : Nat} {f : Nat → Int} (h : ¬ sdK pa kn t u) : kpF pa kn t f u = 1 := ifP_f h
theorem kpF_rng {pa kn : Nat → Int32} {t u : Nat} {f : Nat → Int} (h : ∀ j : Nat, 0 ≤ f j ∧ f j ≤ 20) : 0 ≤ kpF pa kn t f u ∧ kpF pa kn t f u ≤ 20 := by
  by_cases q : sdK pa kn t u
  · rw [kpF_t q]; exact h u
  · rw [kpF_f q]; decide
theorem kpF_le {pa kn : Nat → Int32} {t u : Nat} {f : Nat → Int} (h : ∀ j : Nat, 0 ≤ f j ∧ f j ≤ 20) : 0 ≤ kpF pa kn t f u ∧ kpF pa kn t f u ≤ kpF pa kn t c20 u := by
  by_cases q : sdK pa kn t u
  · rw [kpF_t q, kpF_t q]; exact h u
  · rw [kpF_f q, kpF_f q]; decide
theorem kpF_1 {pa kn : Nat → Int32} {t u : Nat} : 1 ≤ kpF pa kn t c20 u := by
  by_cases q : sdK pa kn t u
  · rw [kpF_t q]; show (1 : Int) ≤ 20; decide
  · rw [kpF_f q]; decide
theorem kpF_eq {pa kn pa2 kn2 : Nat → Int32} {t u : Nat} {f g : Nat → Int} (ht : pa t = pa2 t ∧ kn t = kn2 t) (hu : pa u = pa2 u ∧ kn u = kn2 u) (hf : f u = g u) : kpF pa kn t f u = kpF pa2 kn2 t g u := by
  unfold kpF sdK
  rw [ht.1, ht.2, hu.1, hu.2, hf]
noncomputable def qKept (v t w : Int) (M : Mem) : Int := ifP (odW v w ∧ 0 ≤ t ∧ t < (thM M).toInt) (tgF (pdI (kpF (paM M) (knM M) t.toNat c20) (thM M).toInt.toNat - pdI (kpF (paM M) (knM M) t.toNat (slO (kdM M) (plM M) v)) (thM M).toInt.toNat) (pdI (kpF (paM M) (knM M) t.toNat c20) (thM M).toInt.toNat) w) (-1)
theorem kept_no {v t w : Int} {M : Mem} (h : ¬ (odW v w ∧ 0 ≤ t ∧ t < (thM M).toInt)) : qKept v t w M = -1 := ifP_f h
theorem kept_ok {v t w : Int} {cl th dy sn : Int32} {kd pl pa kn sp ss : Nat → Int32} (wf : wfM (mkM cl th dy sn kd pl pa kn sp ss)) (h : odW v w ∧ 0 ≤ t ∧ t < th.toInt) : qKept v t w (mkM cl th dy sn kd pl pa kn sp ss) = tgF (pdI (kpF pa kn t.toNat c20) th.toInt.toNat - pdI (kpF pa kn t.toNat (slO kd pl v)) th.toInt.toNat) (pdI (kpF pa kn t.toNat c20) th.toInt.toNat) w := by
  have ht : msk th pa t.toNat = pa t.toNat ∧ msk th kn t.toNat = kn t.toNat := ⟨msk_in (by omega), msk_in (by omega)⟩
  have e1 : pdI (kpF (msk th pa) (msk th kn) t.toNat c20) th.toInt.toNat = pdI (kpF pa kn t.toNat c20) th.toInt.toNat := pdI_eq (fun j q => kpF_eq ht ⟨msk_in (by omega), msk_in (by omega)⟩ rfl)
  have e2 : pdI (kpF (msk th pa) (msk th kn) t.toNat (slO (msk cl kd) (msk th pl) v)) th.toInt.toNat = pdI (kpF pa kn t.toNat (slO kd pl v)) th.toInt.toNat := pdI_eq (fun j q => kpF_eq ht ⟨msk_in (by omega), msk_in (by omega)⟩ (slO_mk wf q))
  rw [← e1, ← e2]
  exact ifP_t h
/-- a step of both products -/
theorem kp_y {pa kn : Nat → Int32} {t n : Nat} {f : Nat → Int} {x : Int64} {y : Int32} (h : lgE x (pdI (kpF pa kn t f) n)) (hn : n ≤ 9) (hf : ∀ j : Nat, 0 ≤ f j ∧ f j ≤ 20) (hs : sdK pa kn t n) (hy : y.toInt = f n) : lgE (x * y.toInt64) (pdI (kpF pa kn t f) (n + 1)) := by
  rw [pdI_s, kpF_t hs]
  exact lgE_mul h (pdI_9 (fun j => kpF_rng hf) hn) hy (hf n)
theorem c20_rng (j : Nat) : 0 ≤ c20 j ∧ c20 j ≤ 20 := by
  show (0 : Int) ≤ 20 ∧ (20 : Int) ≤ 20
  decide
theorem kp_y20 {pa kn : Nat → Int32} {t n : Nat} {x : Int64} (h : lgE x (pdI (kpF pa kn t c20) n)) (hn : n ≤ 9) (hs : sdK pa kn t n) : lgE (x * 20) (pdI (kpF pa kn t c20) (n + 1)) := by
  rw [pdI_s, kpF_t hs]
  exact lgE_m20 h (pdI_9 (fun j => kpF_rng c20_rng) hn)
theorem kp_n {pa kn : Nat → Int32} {t n : Nat} {f : Nat → Int} {x : Int64} (h : lgE x (pdI (kpF pa kn t f) n)) (hs : ¬ sdK pa kn t n) : lgE x (pdI (kpF pa kn t f) (n + 1)) := by
  rw [pdI_s, kpF_f hs, Int.mul_one]
  exact h
theorem kp_end {pa kn : Nat → Int32} {t n : Nat} {f : Nat → Int} {x y : Int64} (hx : lgE x (pdI (kpF pa kn t c20) n)) (hy : lgE y (pdI (kpF pa kn t f) n)) (hn : n ≤ 10) (hf : ∀ j : Nat, 0 ≤ f j ∧ f j ≤ 20) : lgE (x - y) (pdI (kpF pa kn t c20) n - pdI (kpF pa kn t f) n) ∧ lgR (x - y) ∧ lgP x := by
  have a := pdI_top (f := kpF pa kn t c20) (fun j => kpF_rng c20_rng) hn
  have b := pdI_le (f := kpF pa kn t f) (g := kpF pa kn t c20) (fun j => kpF_le hf) n
  have c := pdI_pos (f := kpF pa kn t c20) (fun j => kpF_1) n
  have e := lgE_sub hx hy (by omega)
  exact ⟨e, lgR_of e (by omega), lgP_of hx (by omega)⟩
theorem no_end {kd pl : Nat → Int32} {v : Int} {n : Nat} {x y : Int64} (hx : lgE x (pdI (stO kd pl v) n)) (hy : lgE y (pdI c20 n)) (hn : n ≤ 10) (hv : 0 ≤ v ∧ v ≤ 10) : lgR x ∧ lgP y := by
  have a := pdI_top (f := stO kd pl v) (fun j => stO_rng hv) hn
  have b := pdI_top (f := c20) c20_rng hn
  have c := pdI_pos (f := c20) (fun j => by show (1 : Int) ≤ 20; decide) n
  exact ⟨lgR_of hx (by omega), lgP_of hy (by omega)⟩
theorem no_y {kd pl : Nat → Int32} {v : Int} {n : Nat} {x : Int64} {y : Int32} (h : lgE x (pdI (stO kd pl v) n)) (hn : n ≤ 9) (hv : 0 ≤ v ∧ v ≤ 10) (hy : y.toInt = 20 - slO kd pl v n) : lgE (x * y.toInt64) (pdI (stO kd pl v) (n + 1)) := lgE_mul h (pdI_9 (fun j => stO_rng hv) hn) hy (stO_rng hv)
theorem no_y20 {n : Nat} {x : Int64} (h : lgE x (pdI c20 n)) (hn : n ≤ 9) : lgE (x * 20) (pdI c20 (n + 1)) := lgE_m20 h (pdI_9 c20_rng hn)
theorem sl_y {kd pl : Nat → Int32} {v : Int} {n : Nat} {x : Int64} {y : Int32} (h : lgE x (sumI (slO kd pl v) n)) (hn : n ≤ 9) (hv : 0 ≤ v ∧ v ≤ 10) (hy : y.toInt = slO kd pl v n) : lgE (x + y.toInt64) (sumI (slO kd pl v) (n + 1)) := by
  have a := sumI_rng (f := slO kd pl v) (m := 20) (fun j => slO_rng hv) n
  exact lgE_add h hy (by omega) (slO_rng hv)
theorem sl_end {kd pl : Nat → Int32} {v : Int} {n : Nat} {x : Int64} (h : lgE x (sumI (slO kd pl v) n)) (hn : n ≤ 10) (hv : 0 ≤ v ∧ v ≤ 10) : lgR x := by
  have a := sumI_rng (f := slO kd pl v) (m := 20) (fun j => slO_rng hv) n
  exact lgR_of h (by omega)
theorem lgP_20 : lgP 20 := by
  unfold lgP
  decide
theorem lgR_P {x : Int64} (h : lgP x) : lgR x := by
  have h1 : 1 ≤ x.toInt ∧ x.toInt ≤ 17592186044416 := h
  unfold lgR
  omega
theorem gc_ne {a b r : Int64} (hb : lgP b) (o : lgE r (gcL b a)) : ¬ r = 0 := fun w => by
  have e : r.toInt = gcL b a := o
  have q := gcL_pos (a := a) hb
  rw [gcL_comm] at q
  have z : r.toInt = 0 := by rw [w]; rfl
  omega
