/-! ===== payments ===== -/
noncomputable def ntC (pl pa kn : Nat → Int32) (n cl c : Nat) : Int := ntS pl pa kn n c cl
noncomputable def nzF (N : Nat → Int) (c : Nat) : Prop := ¬ N c = 0
noncomputable def mtA (N : Nat → Int) (cl : Nat) : Prop := ∃ c : Nat, 1 ≤ c ∧ c < cl ∧ N 0 + N c = 0
noncomputable def pyQ (N : Nat → Int) (cl : Nat) : Int := ifP (cntP (nzF N) cl = 0) 0 (ifP (cntP (nzF N) cl = 4 ∧ mtA N cl) (cntP (nzF N) cl - 2) (cntP (nzF N) cl - 1))
noncomputable def qPays (M : Mem) : Int := pyQ (ntC (plM M) (paM M) (knM M) (thM M).toInt.toNat (clM M).toInt.toNat) (clM M).toInt.toNat
theorem pays_mk {cl th dy sn : Int32} {kd pl pa kn sp ss : Nat → Int32} : qPays (mkM cl th dy sn kd pl pa kn sp ss) = pyQ (ntC pl pa kn th.toInt.toNat cl.toInt.toNat) cl.toInt.toNat := by
  have e : ntC (msk th pl) (msk th pa) (msk th kn) th.toInt.toNat cl.toInt.toNat = ntC pl pa kn th.toInt.toNat cl.toInt.toNat := funext fun c => ntS_eq rows_in
  show pyQ (ntC (msk th pl) (msk th pa) (msk th kn) th.toInt.toNat cl.toInt.toNat) cl.toInt.toNat = _
  rw [e]
theorem py_0 {N : Nat → Int} {cl : Nat} {u : Int} (e : u = cntP (nzF N) cl) (h : u = 0) : (0 : Int) = pyQ N cl := by
  unfold pyQ
  rw [← e]
  exact (ifP_t h).symm
theorem py_2 {N : Nat → Int} {cl : Nat} {u : Int} (e : u = cntP (nzF N) cl) (h : u = 4) (m : mtA N cl) : u - 2 = pyQ N cl := by
  unfold pyQ
  rw [← e]
  exact ((ifP_f (by omega)).trans (ifP_t ⟨h, m⟩)).symm
theorem py_1 {N : Nat → Int} {cl : Nat} {u : Int} (e : u = cntP (nzF N) cl) (h : ¬ u = 0) (m : ¬ (u = 4 ∧ mtA N cl)) : u - 1 = pyQ N cl := by
  unfold pyQ
  rw [← e]
  exact ((ifP_f h).trans (ifP_f m)).symm
/-! the reference's sums over sets -/
noncomputable def nzT (N : Nat → Int) (a : Int32) (c : Nat) : Int := if bi a c = true then N c else 0
theorem nzT_t {N : Nat → Int} {a : Int32} {c : Nat} (h : bi a c = true) : nzT N a c = N c := if_pos h
theorem nzT_f {N : Nat → Int} {a : Int32} {c : Nat} (h : bi a c = false) : nzT N a c = 0 := if_neg (by rw [h]; decide)
theorem b1_t {a l : Int32} {n : Nat} (hl : l = nI n) (hn : n < 10) (h : ((a >>> (l &&& 31)) &&& 1) = 1) : bi a n = true := by
  have p := bP_k a n hn
  rw [← hl] at p
  cases w : bi a n
  · exact absurd (p.mpr w) (an10 h)
  · rfl
theorem b1_f {a l : Int32} {n : Nat} (hl : l = nI n) (hn : n < 10) (h : ¬ ((a >>> (l &&& 31)) &&& 1) = 1) : bi a n = false := by
  have p := bP_k a n hn
  rw [← hl] at p
  exact p.mp (an1.resolve_right h)
noncomputable def smN (N : Nat → Int) : Nat → Nat
  | 0 => 0
  | c + 1 => smN N c + (if N c = 0 then 0 else 2 ^ c)
theorem smN_lt {N : Nat → Int} : ∀ c : Nat, smN N c < 2 ^ c
  | 0 => by show 0 < 1; decide
  | c + 1 => by
    have a := smN_lt (N := N) c
    show smN N c + (if N c = 0 then 0 else 2 ^ c) < 2 ^ (c + 1)
    rw [Nat.pow_succ]
    split <;> omega
theorem sm_tab : ∀ c : Fin 4, ∀ k : Fin 16, ∀ f : Fin 2, k.val < 2 ^ c.val → (nI k.val ||| (nI f.val <<< (nI c.val &&& 31))) = nI (k.val + f.val * 2 ^ c.val) := by decide +kernel
theorem sm_s {N : Nat → Int} {x f l : Int32} {c : Nat} (hx : x = nI (smN N c)) (hl : l = nI c) (hc : c < 4) (hf : (N c = 0 ∧ f.toInt = 0) ∨ (¬ N c = 0 ∧ f.toInt = 1)) : (x ||| (f <<< (l &&& 31))) = nI (smN N (c + 1)) := by
  have a := smN_lt (N := N) c
  have p : 2 ^ c ≤ 2 ^ 4 := Nat.pow_le_pow_right (by decide) (by omega)
  have p4 : (2 ^ 4 : Nat) = 16 := by decide
  rw [hx, hl]
  obtain q | q := hf
  · have e : f = nI 0 := Int32.toInt_inj.mp (q.2.trans rfl)
    have t := sm_tab ⟨c, hc⟩ ⟨smN N c, by omega⟩ ⟨0, by omega⟩ a
    rw [e, show (nI (smN N c) ||| (nI 0 <<< (nI c &&& 31))) = nI (smN N c + 0 * 2 ^ c) from t]
    show _ = nI (smN N c + (if N c = 0 then 0 else 2 ^ c))
    rw [if_pos q.1, Nat.zero_mul]
  · have e : f = nI 1 := Int32.toInt_inj.mp (q.2.trans rfl)
    have t := sm_tab ⟨c, hc⟩ ⟨smN N c, by omega⟩ ⟨1, by omega⟩ a
    rw [e, show (nI (smN N c) ||| (nI 1 <<< (nI c &&& 31))) = nI (smN N c + 1 * 2 ^ c) from t]
    show _ = nI (smN N c + (if N c = 0 then 0 else 2 ^ c))
    rw [if_neg q.1, Nat.one_mul]
/-! the groups -/
noncomputable def sbN (o s : Nat) : Bool := decide ((nI o &&& (nI s ^^^ (-1 : Int32))) = 0)
theorem df_tab : ∀ o : Fin 16, ∀ s : Fin 16, sbN o.val s.val = true → o.val ≤ s.val ∧ (nI s.val &&& (nI o.val ^^^ (-1 : Int32))) = nI (s.val - o.val) := by decide +kernel
noncomputable def gpI (Z : Nat → Bool) (G : Nat → Int) (s : Nat) : Nat → Int
  | 0 => if s = 0 then 0 else -4
  | n + 1 => if (sbN (n + 1) s = true ∧ Z (n + 1) = true ∧ 0 ≤ G (s - (n + 1))) ∧ gpI Z G s n < G (s - (n + 1)) + 1 then G (s - (n + 1)) + 1 else gpI Z G s n
theorem gpI_y {Z : Nat → Bool} {G : Nat → Int} {s n : Nat} (h : (sbN (n + 1) s = true ∧ Z (n + 1) = true ∧ 0 ≤ G (s - (n + 1))) ∧ gpI Z G s n < G (s - (n + 1)) + 1) : gpI Z G s (n + 1) = G (s - (n + 1)) + 1 := if_pos h
theorem gpI_n {Z : Nat → Bool} {G : Nat → Int} {s n : Nat} (h : ¬ ((sbN (n + 1) s = true ∧ Z (n + 1) = true ∧ 0 ≤ G (s - (n + 1))) ∧ gpI Z G s n < G (s - (n + 1)) + 1)) : gpI Z G s (n + 1) = gpI Z G s n := if_neg h
noncomputable def gpT (Z : Nat → Bool) : Nat → Nat → Int
  | 0 => fun _ => 0
  | k + 1 => fun j => if j = k then gpI Z (gpT Z k) k k else gpT Z k j
theorem gpT_e {Z : Nat → Bool} {k : Nat} : gpT Z (k + 1) k = gpI Z (gpT Z k) k k := if_pos rfl
theorem gpT_n {Z : Nat → Bool} {k j : Nat} (h : ¬ j = k) : gpT Z (k + 1) j = gpT Z k j := if_neg h
theorem gpI_rng {Z : Nat → Bool} {G : Nat → Int} {s : Nat} (h : ∀ j : Nat, j < s → -4 ≤ G j ∧ G j ≤ (j : Int)) : ∀ n : Nat, n ≤ s → -4 ≤ gpI Z G s n ∧ gpI Z G s n ≤ (s : Int)
  | 0, _ => by
    show -4 ≤ (if s = 0 then (0 : Int) else -4) ∧ (if s = 0 then (0 : Int) else -4) ≤ (s : Int)
    split <;> omega
  | n + 1, hn => by
    have a := gpI_rng (Z := Z) h n (by omega)
    have b := h (s - (n + 1)) (by omega)
    by_cases w : (sbN (n + 1) s = true ∧ Z (n + 1) = true ∧ 0 ≤ G (s - (n + 1))) ∧ gpI Z G s n < G (s - (n + 1)) + 1
    · rw [gpI_y w]; omega
    · rw [gpI_n w]; exact a
theorem gpT_rng {Z : Nat → Bool} : ∀ k j : Nat, j < k → -4 ≤ gpT Z k j ∧ gpT Z k j ≤ (j : Int)
  | 0, j, h => absurd h (Nat.not_lt_zero _)
  | k + 1, j, h => by
    by_cases w : j = k
    · subst w
      rw [gpT_e]
      exact gpI_rng (fun i q => gpT_rng j i q) j (Nat.le_refl _)
    · rw [gpT_n w]
      exact gpT_rng k j (by omega)
theorem gpI_eq {Z Z2 : Nat → Bool} {G G2 : Nat → Int} {s : Nat} (hz : ∀ o : Nat, o ≤ s → Z o = Z2 o) (hg : ∀ j : Nat, G j = G2 j) : ∀ n : Nat, n ≤ s → gpI Z G s n = gpI Z2 G2 s n
  | 0, _ => rfl
  | n + 1, hn => by
    have a := gpI_eq hz hg n (by omega)
    show (if (sbN (n + 1) s = true ∧ Z (n + 1) = true ∧ 0 ≤ G (s - (n + 1))) ∧ gpI Z G s n < G (s - (n + 1)) + 1 then G (s - (n + 1)) + 1 else gpI Z G s n) = (if (sbN (n + 1) s = true ∧ Z2 (n + 1) = true ∧ 0 ≤ G2 (s - (n + 1))) ∧ gpI Z2 G2 s n < G2 (s - (n + 1)) + 1 then G2 (s - (n + 1)) + 1 else gpI Z2 G2 s n)
    rw [a, hz (n + 1) hn, hg (s - (n + 1))]
theorem gpT_eq {Z Z2 : Nat → Bool} (hz : ∀ o : Nat, o < 16 → Z o = Z2 o) : ∀ k : Nat, k ≤ 16 → ∀ j : Nat, gpT Z k j = gpT Z2 k j
  | 0, _, _ => rfl
  | k + 1, hk, j => by
    have a := gpT_eq hz k (by omega)
    by_cases w : j = k
    · rw [w, gpT_e, gpT_e]
      exact gpI_eq (fun o q => hz o (by omega)) a k (Nat.le_refl _)
    · rw [gpT_n w, gpT_n w]
      exact a j
noncomputable def gtQ (Z : Nat → Bool) (f : Nat → Int32) (k : Nat) : Prop := ∀ j : Nat, j < k → (f j).toInt = gpT Z k j
noncomputable def gtX (Z : Nat → Bool) (f : Nat → Int32) (s n : Nat) : Prop := gtQ Z f s ∧ (f s).toInt = gpI Z (gpT Z s) s n
theorem gtX_0 {Z : Nat → Bool} {f f2 : Nat → Int32} {s n : Nat} {v : Int32} (h : gtQ Z f s) (e : f2 = upd f s v) (hn : n = 0) (hv : (s = 0 ∧ v.toInt = 0) ∨ (¬ s = 0 ∧ v.toInt = -4)) : gtX Z f2 s n := by
  subst hn
  refine ⟨fun j q => by rw [e, upd_ne (by omega)]; exact h j q, ?_⟩
  rw [e, upd_same]
  show v.toInt = (if s = 0 then (0 : Int) else -4)
  split <;> omega
theorem gtX_y {Z : Nat → Bool} {f f2 : Nat → Int32} {s n m : Nat} {v : Int32} (h : gtX Z f s n) (e : f2 = upd f s v) (hm : m = n + 1) (hs : m ≤ s) (c : sbN m s = true ∧ Z m = true ∧ 0 ≤ (f (s - m)).toInt) (d : (f s).toInt < (f (s - m)).toInt + 1) (hv : v.toInt = (f (s - m)).toInt + 1) : gtX Z f2 s m := by
  subst hm
  have g := h.1 (s - (n + 1)) (by omega)
  refine ⟨fun j q => by rw [e, upd_ne (by omega)]; exact h.1 j q, ?_⟩
  rw [e, upd_same, gpI_y ⟨⟨c.1, c.2.1, by rw [← g]; exact c.2.2⟩, by rw [← g, ← h.2]; exact d⟩, ← g]
  exact hv
theorem gtX_n {Z : Nat → Bool} {f f2 : Nat → Int32} {s n m : Nat} (h : gtX Z f s n) (e : f2 = upd f s (f s)) (hm : m = n + 1) (hs : m ≤ s) (c : ¬ ((sbN m s = true ∧ Z m = true ∧ 0 ≤ (f (s - m)).toInt) ∧ (f s).toInt < (f (s - m)).toInt + 1)) : gtX Z f2 s m := by
  subst hm
  have g := h.1 (s - (n + 1)) (by omega)
  refine ⟨fun j q => by rw [e, upd_ne (by omega)]; exact h.1 j q, ?_⟩
  rw [e, upd_same, gpI_n (fun w => c ⟨⟨w.1.1, w.1.2.1, by rw [g]; exact w.1.2.2⟩, by rw [g, h.2]; exact w.2⟩)]
  exact h.2
theorem gtX_e {Z : Nat → Bool} {f : Nat → Int32} {s n : Nat} (h : gtX Z f s n) (hn : n = s) : gtQ Z f (s + 1) := fun j q => by
  subst hn
  by_cases w : j = n
  · rw [w, gpT_e]; exact h.2
  · rw [gpT_n w]; exact h.1 j (by omega)
theorem gtX_rng {Z : Nat → Bool} {f : Nat → Int32} {s n : Nat} (h : gtX Z f s n) (hn : n ≤ s) : (-4 ≤ (f s).toInt ∧ (f s).toInt ≤ (s : Int)) ∧ ∀ j : Nat, j < s → -4 ≤ (f j).toInt ∧ (f j).toInt ≤ (j : Int) := by
  have r := gpI_rng (Z := Z) (G := gpT Z s) (s := s) (fun j q => gpT_rng s j q) n hn
  rw [← h.2] at r
  refine ⟨r, fun j q => ?_⟩
  rw [h.1 j q]
  exact gpT_rng s j q
noncomputable def zpB (N : Nat → Int) (cl o : Nat) : Bool := decide (sumI (nzT N (nI o)) cl = 0)
theorem zp_t {N : Nat → Int} {cl o : Nat} {a : Int32} (ha : a = nI o) (h : sumI (nzT N a) cl = 0) : zpB N cl o = true := decide_eq_true (by rw [← ha]; exact h)
theorem zp_f {N : Nat → Int} {cl o : Nat} {a : Int32} (ha : a = nI o) (h : ¬ sumI (nzT N a) cl = 0) : ¬ zpB N cl o = true := fun w => h (by have w := of_decide_eq_true w; rw [← ha] at w; exact w)
theorem sb_t {o s : Nat} {a b : Int32} (ha : a = nI o) (hb : b = nI s) (h : (a &&& (b ^^^ (-1 : Int32))) = 0) : sbN o s = true := decide_eq_true (by rw [← ha, ← hb]; exact h)
theorem sb_f {o s : Nat} {a b : Int32} (ha : a = nI o) (hb : b = nI s) (h : ¬ (a &&& (b ^^^ (-1 : Int32))) = 0) : ¬ sbN o s = true := fun w => h (by have w := of_decide_eq_true w; rw [← ha, ← hb] at w; exact w)
theorem sb_df {o s : Nat} {a b z : Int32} (ha : a = nI o) (hb : b = nI s) (ho : o < 16) (hs : s < 16) (h : sbN o s = true) (hz : (b &&& (a ^^^ (-1 : Int32))) = z) : z.toInt = (s : Int) - (o : Int) := by
  have t := df_tab ⟨o, ho⟩ ⟨s, hs⟩ h
  have t2 : (nI s &&& (nI o ^^^ (-1 : Int32))) = nI (s - o) := t.2
  have t1 : o ≤ s := t.1
  rw [← hz, ha, hb, t2, nI_toInt (by omega)]
  omega
/-! both are one -/
noncomputable def Nx (N : Nat → Int) (cl c : Nat) : Int := if c < cl then N c else 0
theorem Nx_in {N : Nat → Int} {cl c : Nat} (h : c < cl) : Nx N cl c = N c := if_pos h
theorem Nx_out {N : Nat → Int} {cl c : Nat} (h : ¬ c < cl) : Nx N cl c = 0 := if_neg h
theorem zp_x {N : Nat → Int} {cl : Nat} (hc : cl ≤ 4) (o : Nat) : zpB N cl o = zpB (Nx N cl) 4 o := by
  have e1 : sumI (nzT N (nI o)) cl = sumI (nzT (Nx N cl) (nI o)) cl := sumI_eq (fun j q => by unfold nzT; rw [Nx_in q])
  have e2 : sumI (nzT (Nx N cl) (nI o)) 4 = sumI (nzT (Nx N cl) (nI o)) cl := sumI_cut hc (fun j a b => by unfold nzT; rw [Nx_out (by omega)]; split <;> rfl)
  unfold zpB
  rw [e1, e2]
theorem sm_eq {N N2 : Nat → Int} : ∀ {n : Nat}, (∀ c : Nat, c < n → N c = N2 c) → smN N n = smN N2 n
  | 0, _ => rfl
  | n + 1, h => by
    show smN N n + (if N n = 0 then 0 else 2 ^ n) = smN N2 n + (if N2 n = 0 then 0 else 2 ^ n)
    rw [sm_eq (fun c q => h c (by omega)), h n (Nat.lt_succ_self _)]
theorem sm_cut {N : Nat → Int} {n : Nat} : ∀ {m : Nat}, n ≤ m → (∀ j : Nat, n ≤ j → j < m → N j = 0) → smN N m = smN N n
  | 0, h, _ => by rw [show n = 0 by omega]
  | m + 1, h, z => by
    by_cases q : n = m + 1
    · rw [q]
    · show smN N m + (if N m = 0 then 0 else 2 ^ m) = smN N n
      rw [sm_cut (by omega) (fun j a b => z j a (by omega)), if_pos (z m (by omega) (Nat.lt_succ_self _)), Nat.add_zero]
theorem sm_x {N : Nat → Int} {cl : Nat} (hc : cl ≤ 4) : smN N cl = smN (Nx N cl) 4 := by
  rw [sm_eq (N := N) (N2 := Nx N cl) (fun c q => (Nx_in q).symm)]
  exact (sm_cut hc (fun j a b => Nx_out (by omega))).symm
theorem cn_x {N : Nat → Int} {cl : Nat} (hc : cl ≤ 4) : cntP (nzF N) cl = cntP (nzF (Nx N cl)) 4 := by
  rw [cntP_eq (P := nzF N) (Q := nzF (Nx N cl)) (fun j q => by unfold nzF; rw [Nx_in q])]
  exact (sumI_cut hc (fun j a b => ifP_f (fun w => w (Nx_out (by omega))))).symm
theorem nt_sum {F : Nat → Nat → Int} {n : Nat} (hn : n ≤ 4) : sumI (fun c => sumI (fun k => F k c - F c k) n) n = 0 := by
  have h : n = 0 ∨ n = 1 ∨ n = 2 ∨ n = 3 ∨ n = 4 := by omega
  obtain h | h | h | h | h := h
  all_goals
    subst h
    simp only [sumI] <;> omega

noncomputable def zv (z1 z2 z4 z8 z3 z5 z6 : Bool) (o : Nat) : Bool := [true, z1, z2, z3, z4, z5, z6, z8, z8, z6, z5, z4, z3, z2, z1, true].getD o false
theorem zs_0 {N : Nat → Int} (h : N 0 + N 1 + N 2 + N 3 = 0) : zpB N 4 0 = decide (True) := by
  have b0 : nzT N (nI 0) 0 = 0 := nzT_f (by decide)
  have b1 : nzT N (nI 0) 1 = 0 := nzT_f (by decide)
  have b2 : nzT N (nI 0) 2 = 0 := nzT_f (by decide)
  have b3 : nzT N (nI 0) 3 = 0 := nzT_f (by decide)
  have e : sumI (nzT N (nI 0)) 4 = 0 + nzT N (nI 0) 0 + nzT N (nI 0) 1 + nzT N (nI 0) 2 + nzT N (nI 0) 3 := rfl
  unfold zpB
  rw [e, b0, b1, b2, b3]
  exact (decide_eq_true (by omega)).trans (decide_eq_true trivial).symm
theorem zs_1 {N : Nat → Int} (h : N 0 + N 1 + N 2 + N 3 = 0) : zpB N 4 1 = decide (N 0 = 0) := by
  have b0 : nzT N (nI 1) 0 = N 0 := nzT_t (by decide)
  have b1 : nzT N (nI 1) 1 = 0 := nzT_f (by decide)
  have b2 : nzT N (nI 1) 2 = 0 := nzT_f (by decide)
  have b3 : nzT N (nI 1) 3 = 0 := nzT_f (by decide)
  have e : sumI (nzT N (nI 1)) 4 = 0 + nzT N (nI 1) 0 + nzT N (nI 1) 1 + nzT N (nI 1) 2 + nzT N (nI 1) 3 := rfl
  unfold zpB
  rw [e, b0, b1, b2, b3]
  exact decide_eq_decide.mpr (by omega)
theorem zs_2 {N : Nat → Int} (h : N 0 + N 1 + N 2 + N 3 = 0) : zpB N 4 2 = decide (N 1 = 0) := by
  have b0 : nzT N (nI 2) 0 = 0 := nzT_f (by decide)
  have b1 : nzT N (nI 2) 1 = N 1 := nzT_t (by decide)
  have b2 : nzT N (nI 2) 2 = 0 := nzT_f (by decide)
  have b3 : nzT N (nI 2) 3 = 0 := nzT_f (by decide)
  have e : sumI (nzT N (nI 2)) 4 = 0 + nzT N (nI 2) 0 + nzT N (nI 2) 1 + nzT N (nI 2) 2 + nzT N (nI 2) 3 := rfl
  unfold zpB
  rw [e, b0, b1, b2, b3]
  exact decide_eq_decide.mpr (by omega)
theorem zs_3 {N : Nat → Int} (h : N 0 + N 1 + N 2 + N 3 = 0) : zpB N 4 3 = decide (N 0 + N 1 = 0) := by
  have b0 : nzT N (nI 3) 0 = N 0 := nzT_t (by decide)
  have b1 : nzT N (nI 3) 1 = N 1 := nzT_t (by decide)
  have b2 : nzT N (nI 3) 2 = 0 := nzT_f (by decide)
  have b3 : nzT N (nI 3) 3 = 0 := nzT_f (by decide)
  have e : sumI (nzT N (nI 3)) 4 = 0 + nzT N (nI 3) 0 + nzT N (nI 3) 1 + nzT N (nI 3) 2 + nzT N (nI 3) 3 := rfl
  unfold zpB
  rw [e, b0, b1, b2, b3]
  exact decide_eq_decide.mpr (by omega)
theorem zs_4 {N : Nat → Int} (h : N 0 + N 1 + N 2 + N 3 = 0) : zpB N 4 4 = decide (N 2 = 0) := by
  have b0 : nzT N (nI 4) 0 = 0 := nzT_f (by decide)
  have b1 : nzT N (nI 4) 1 = 0 := nzT_f (by decide)
  have b2 : nzT N (nI 4) 2 = N 2 := nzT_t (by decide)
  have b3 : nzT N (nI 4) 3 = 0 := nzT_f (by decide)
  have e : sumI (nzT N (nI 4)) 4 = 0 + nzT N (nI 4) 0 + nzT N (nI 4) 1 + nzT N (nI 4) 2 + nzT N (nI 4) 3 := rfl
  unfold zpB
  rw [e, b0, b1, b2, b3]
  exact decide_eq_decide.mpr (by omega)
theorem zs_5 {N : Nat → Int} (h : N 0 + N 1 + N 2 + N 3 = 0) : zpB N 4 5 = decide (N 0 + N 2 = 0) := by
  have b0 : nzT N (nI 5) 0 = N 0 := nzT_t (by decide)
  have b1 : nzT N (nI 5) 1 = 0 := nzT_f (by decide)
  have b2 : nzT N (nI 5) 2 = N 2 := nzT_t (by decide)
  have b3 : nzT N (nI 5) 3 = 0 := nzT_f (by decide)
  have e : sumI (nzT N (nI 5)) 4 = 0 + nzT N (nI 5) 0 + nzT N (nI 5) 1 + nzT N (nI 5) 2 + nzT N (nI 5) 3 := rfl
  unfold zpB
  rw [e, b0, b1, b2, b3]
  exact decide_eq_decide.mpr (by omega)
theorem zs_6 {N : Nat → Int} (h : N 0 + N 1 + N 2 + N 3 = 0) : zpB N 4 6 = decide (N 1 + N 2 = 0) := by
  have b0 : nzT N (nI 6) 0 = 0 := nzT_f (by decide)
  have b1 : nzT N (nI 6) 1 = N 1 := nzT_t (by decide)
  have b2 : nzT N (nI 6) 2 = N 2 := nzT_t (by decide)
  have b3 : nzT N (nI 6) 3 = 0 := nzT_f (by decide)
  have e : sumI (nzT N (nI 6)) 4 = 0 + nzT N (nI 6) 0 + nzT N (nI 6) 1 + nzT N (nI 6) 2 + nzT N (nI 6) 3 := rfl
  unfold zpB
  rw [e, b0, b1, b2, b3]
  exact decide_eq_decide.mpr (by omega)
theorem zs_7 {N : Nat → Int} (h : N 0 + N 1 + N 2 + N 3 = 0) : zpB N 4 7 = decide (N 3 = 0) := by
  have b0 : nzT N (nI 7) 0 = N 0 := nzT_t (by decide)
  have b1 : nzT N (nI 7) 1 = N 1 := nzT_t (by decide)
  have b2 : nzT N (nI 7) 2 = N 2 := nzT_t (by decide)
  have b3 : nzT N (nI 7) 3 = 0 := nzT_f (by decide)
  have e : sumI (nzT N (nI 7)) 4 = 0 + nzT N (nI 7) 0 + nzT N (nI 7) 1 + nzT N (nI 7) 2 + nzT N (nI 7) 3 := rfl
  unfold zpB
  rw [e, b0, b1, b2, b3]
  exact decide_eq_decide.mpr (by omega)
theorem zs_8 {N : Nat → Int} (h : N 0 + N 1 + N 2 + N 3 = 0) : zpB N 4 8 = decide (N 3 = 0) := by
  have b0 : nzT N (nI 8) 0 = 0 := nzT_f (by decide)
  have b1 : nzT N (nI 8) 1 = 0 := nzT_f (by decide)
  have b2 : nzT N (nI 8) 2 = 0 := nzT_f (by decide)
  have b3 : nzT N (nI 8) 3 = N 3 := nzT_t (by decide)
  have e : sumI (nzT N (nI 8)) 4 = 0 + nzT N (nI 8) 0 + nzT N (nI 8) 1 + nzT N (nI 8) 2 + nzT N (nI 8) 3 := rfl
  unfold zpB
  rw [e, b0, b1, b2, b3]
  exact decide_eq_decide.mpr (by omega)
theorem zs_9 {N : Nat → Int} (h : N 0 + N 1 + N 2 + N 3 = 0) : zpB N 4 9 = decide (N 1 + N 2 = 0) := by
  have b0 : nzT N (nI 9) 0 = N 0 := nzT_t (by decide)
  have b1 : nzT N (nI 9) 1 = 0 := nzT_f (by decide)
  have b2 : nzT N (nI 9) 2 = 0 := nzT_f (by decide)
  have b3 : nzT N (nI 9) 3 = N 3 := nzT_t (by decide)
  have e : sumI (nzT N (nI 9)) 4 = 0 + nzT N (nI 9) 0 + nzT N (nI 9) 1 + nzT N (nI 9) 2 + nzT N (nI 9) 3 := rfl
  unfold zpB
  rw [e, b0, b1, b2, b3]
  exact decide_eq_decide.mpr (by omega)
theorem zs_10 {N : Nat → Int} (h : N 0 + N 1 + N 2 + N 3 = 0) : zpB N 4 10 = decide (N 0 + N 2 = 0) := by
  have b0 : nzT N (nI 10) 0 = 0 := nzT_f (by decide)
  have b1 : nzT N (nI 10) 1 = N 1 := nzT_t (by decide)
  have b2 : nzT N (nI 10) 2 = 0 := nzT_f (by decide)
  have b3 : nzT N (nI 10) 3 = N 3 := nzT_t (by decide)
  have e : sumI (nzT N (nI 10)) 4 = 0 + nzT N (nI 10) 0 + nzT N (nI 10) 1 + nzT N (nI 10) 2 + nzT N (nI 10) 3 := rfl
  unfold zpB
  rw [e, b0, b1, b2, b3]
  exact decide_eq_decide.mpr (by omega)
theorem zs_11 {N : Nat → Int} (h : N 0 + N 1 + N 2 + N 3 = 0) : zpB N 4 11 = decide (N 2 = 0) := by
  have b0 : nzT N (nI 11) 0 = N 0 := nzT_t (by decide)
  have b1 : nzT N (nI 11) 1 = N 1 := nzT_t (by decide)
  have b2 : nzT N (nI 11) 2 = 0 := nzT_f (by decide)
  have b3 : nzT N (nI 11) 3 = N 3 := nzT_t (by decide)
  have e : sumI (nzT N (nI 11)) 4 = 0 + nzT N (nI 11) 0 + nzT N (nI 11) 1 + nzT N (nI 11) 2 + nzT N (nI 11) 3 := rfl
  unfold zpB
  rw [e, b0, b1, b2, b3]
  exact decide_eq_decide.mpr (by omega)
theorem zs_12 {N : Nat → Int} (h : N 0 + N 1 + N 2 + N 3 = 0) : zpB N 4 12 = decide (N 0 + N 1 = 0) := by
  have b0 : nzT N (nI 12) 0 = 0 := nzT_f (by decide)
  have b1 : nzT N (nI 12) 1 = 0 := nzT_f (by decide)
  have b2 : nzT N (nI 12) 2 = N 2 := nzT_t (by decide)
  have b3 : nzT N (nI 12) 3 = N 3 := nzT_t (by decide)
  have e : sumI (nzT N (nI 12)) 4 = 0 + nzT N (nI 12) 0 + nzT N (nI 12) 1 + nzT N (nI 12) 2 + nzT N (nI 12) 3 := rfl
  unfold zpB
  rw [e, b0, b1, b2, b3]
  exact decide_eq_decide.mpr (by omega)
theorem zs_13 {N : Nat → Int} (h : N 0 + N 1 + N 2 + N 3 = 0) : zpB N 4 13 = decide (N 1 = 0) := by
  have b0 : nzT N (nI 13) 0 = N 0 := nzT_t (by decide)
  have b1 : nzT N (nI 13) 1 = 0 := nzT_f (by decide)
  have b2 : nzT N (nI 13) 2 = N 2 := nzT_t (by decide)
  have b3 : nzT N (nI 13) 3 = N 3 := nzT_t (by decide)
  have e : sumI (nzT N (nI 13)) 4 = 0 + nzT N (nI 13) 0 + nzT N (nI 13) 1 + nzT N (nI 13) 2 + nzT N (nI 13) 3 := rfl
  unfold zpB
  rw [e, b0, b1, b2, b3]
  exact decide_eq_decide.mpr (by omega)
theorem zs_14 {N : Nat → Int} (h : N 0 + N 1 + N 2 + N 3 = 0) : zpB N 4 14 = decide (N 0 = 0) := by
  have b0 : nzT N (nI 14) 0 = 0 := nzT_f (by decide)
  have b1 : nzT N (nI 14) 1 = N 1 := nzT_t (by decide)
  have b2 : nzT N (nI 14) 2 = N 2 := nzT_t (by decide)
  have b3 : nzT N (nI 14) 3 = N 3 := nzT_t (by decide)
  have e : sumI (nzT N (nI 14)) 4 = 0 + nzT N (nI 14) 0 + nzT N (nI 14) 1 + nzT N (nI 14) 2 + nzT N (nI 14) 3 := rfl
  unfold zpB
  rw [e, b0, b1, b2, b3]
  exact decide_eq_decide.mpr (by omega)
theorem zs_15 {N : Nat → Int} (h : N 0 + N 1 + N 2 + N 3 = 0) : zpB N 4 15 = decide (True) := by
  have b0 : nzT N (nI 15) 0 = N 0 := nzT_t (by decide)
  have b1 : nzT N (nI 15) 1 = N 1 := nzT_t (by decide)
  have b2 : nzT N (nI 15) 2 = N 2 := nzT_t (by decide)
  have b3 : nzT N (nI 15) 3 = N 3 := nzT_t (by decide)
  have e : sumI (nzT N (nI 15)) 4 = 0 + nzT N (nI 15) 0 + nzT N (nI 15) 1 + nzT N (nI 15) 2 + nzT N (nI 15) 3 := rfl
  unfold zpB
  rw [e, b0, b1, b2, b3]
  exact (decide_eq_true (by omega)).trans (decide_eq_true trivial).symm
theorem zs_all {N : Nat → Int} (h : N 0 + N 1 + N 2 + N 3 = 0) : ∀ o : Nat, o < 16 → zpB N 4 o = zv (decide (N 0 = 0)) (decide (N 1 = 0)) (decide (N 2 = 0)) (decide (N 3 = 0)) (decide (N 0 + N 1 = 0)) (decide (N 0 + N 2 = 0)) (decide (N 1 + N 2 = 0)) o := fun o ho => by
  have q : o = 0 ∨ o = 1 ∨ o = 2 ∨ o = 3 ∨ o = 4 ∨ o = 5 ∨ o = 6 ∨ o = 7 ∨ o = 8 ∨ o = 9 ∨ o = 10 ∨ o = 11 ∨ o = 12 ∨ o = 13 ∨ o = 14 ∨ o = 15 := by omega
  obtain q | q | q | q | q | q | q | q | q | q | q | q | q | q | q | q := q
  · subst q; exact (zs_0 h).trans (decide_eq_true trivial)
  · subst q; exact (zs_1 h).trans rfl
  · subst q; exact (zs_2 h).trans rfl
  · subst q; exact (zs_3 h).trans rfl
  · subst q; exact (zs_4 h).trans rfl
  · subst q; exact (zs_5 h).trans rfl
  · subst q; exact (zs_6 h).trans rfl
  · subst q; exact (zs_7 h).trans rfl
  · subst q; exact (zs_8 h).trans rfl
  · subst q; exact (zs_9 h).trans rfl
  · subst q; exact (zs_10 h).trans rfl
  · subst q; exact (zs_11 h).trans rfl
  · subst q; exact (zs_12 h).trans rfl
  · subst q; exact (zs_13 h).trans rfl
  · subst q; exact (zs_14 h).trans rfl
  · subst q; exact (zs_15 h).trans (decide_eq_true trivial)
noncomputable def bN (b : Bool) (n : Nat) : Nat := if b then 0 else n
noncomputable def pcB (z1 z2 z4 z8 : Bool) : Int := ((bN z1 1 + bN z2 1 + bN z4 1 + bN z8 1 : Nat) : Int)
noncomputable def pyV (z1 z2 z4 z8 z3 z5 z6 : Bool) : Int := if pcB z1 z2 z4 z8 = 0 then 0 else if pcB z1 z2 z4 z8 = 4 ∧ (z3 || z5 || z6) = true then pcB z1 z2 z4 z8 - 2 else pcB z1 z2 z4 z8 - 1
noncomputable def ctB (z1 z2 z4 z8 z3 z5 z6 : Bool) : Bool := (!z1 || (z3 == z2 && z5 == z4 && z6 == z8)) && (!z2 || (z3 == z1 && z6 == z4 && z5 == z8)) && (!z4 || (z5 == z1 && z6 == z2 && z3 == z8)) && (!z8 || (z6 == z1 && z5 == z2 && z3 == z4))
theorem py_tab : ∀ z1 z2 z4 z8 z3 z5 z6 : Bool, ctB z1 z2 z4 z8 z3 z5 z6 = true → popI (nI (bN z1 1 + bN z2 2 + bN z4 4 + bN z8 8)) - gpT (zv z1 z2 z4 z8 z3 z5 z6) 16 (bN z1 1 + bN z2 2 + bN z4 4 + bN z8 8) = pyV z1 z2 z4 z8 z3 z5 z6 := by decide +kernel
theorem bN_d {p : Prop} [Decidable p] {n : Nat} : bN (decide p) n = (if p then 0 else n) := by
  unfold bN
  by_cases h : p
  · rw [decide_eq_true h, if_pos h]; rfl
  · rw [decide_eq_false h, if_neg h]; rfl
theorem ifP_b {p : Prop} [Decidable p] : ifP (¬ p) 1 0 = ((bN (decide p) 1 : Nat) : Int) := by
  rw [bN_d]
  by_cases h : p
  · rw [ifP_f (fun w => w h), if_pos h]; rfl
  · rw [ifP_t h, if_neg h]; rfl
theorem imp_b {z q : Bool} (h : z = true → q = true) : (!z || q) = true := by
  cases z
  · rfl
  · show q = true
    exact h rfl
theorem eq_b {p q : Prop} [Decidable p] [Decidable q] (h : p ↔ q) : (decide p == decide q) = true := by
  rw [decide_eq_decide.mpr h]
  exact beq_self_eq_true _
theorem ct_ok {N : Nat → Int} (h : N 0 + N 1 + N 2 + N 3 = 0) : ctB (decide (N 0 = 0)) (decide (N 1 = 0)) (decide (N 2 = 0)) (decide (N 3 = 0)) (decide (N 0 + N 1 = 0)) (decide (N 0 + N 2 = 0)) (decide (N 1 + N 2 = 0)) = true := by
  have i1 : (!(decide (N 0 = 0)) || ((decide (N 0 + N 1 = 0)) == (decide (N 1 = 0)) && (decide (N 0 + N 2 = 0)) == (decide (N 2 = 0)) && (decide (N 1 + N 2 = 0)) == (decide (N 3 = 0)))) = true := imp_b (fun w => by
    have w := of_decide_eq_true w
    rw [eq_b (show N 0 + N 1 = 0 ↔ N 1 = 0 by omega), eq_b (show N 0 + N 2 = 0 ↔ N 2 = 0 by omega), eq_b (show N 1 + N 2 = 0 ↔ N 3 = 0 by omega)]
    rfl)
  have i2 : (!(decide (N 1 = 0)) || ((decide (N 0 + N 1 = 0)) == (decide (N 0 = 0)) && (decide (N 1 + N 2 = 0)) == (decide (N 2 = 0)) && (decide (N 0 + N 2 = 0)) == (decide (N 3 = 0)))) = true := imp_b (fun w => by
    have w := of_decide_eq_true w
    rw [eq_b (show N 0 + N 1 = 0 ↔ N 0 = 0 by omega), eq_b (show N 1 + N 2 = 0 ↔ N 2 = 0 by omega), eq_b (show N 0 + N 2 = 0 ↔ N 3 = 0 by omega)]
    rfl)
  have i4 : (!(decide (N 2 = 0)) || ((decide (N 0 + N 2 = 0)) == (decide (N 0 = 0)) && (decide (N 1 + N 2 = 0)) == (decide (N 1 = 0)) && (decide (N 0 + N 1 = 0)) == (decide (N 3 = 0)))) = true := imp_b (fun w => by
    have w := of_decide_eq_true w
    rw [eq_b (show N 0 + N 2 = 0 ↔ N 0 = 0 by omega), eq_b (show N 1 + N 2 = 0 ↔ N 1 = 0 by omega), eq_b (show N 0 + N 1 = 0 ↔ N 3 = 0 by omega)]
    rfl)
  have i8 : (!(decide (N 3 = 0)) || ((decide (N 1 + N 2 = 0)) == (decide (N 0 = 0)) && (decide (N 0 + N 2 = 0)) == (decide (N 1 = 0)) && (decide (N 0 + N 1 = 0)) == (decide (N 2 = 0)))) = true := imp_b (fun w => by
    have w := of_decide_eq_true w
    rw [eq_b (show N 1 + N 2 = 0 ↔ N 0 = 0 by omega), eq_b (show N 0 + N 2 = 0 ↔ N 1 = 0 by omega), eq_b (show N 0 + N 1 = 0 ↔ N 2 = 0 by omega)]
    rfl)
  unfold ctB
  rw [i1, i2, i4, i8]
  rfl
theorem py_4 {N : Nat → Int} (h : N 0 + N 1 + N 2 + N 3 = 0) : popI (nI (smN N 4)) - gpT (zpB N 4) 16 (smN N 4) = pyQ N 4 := by
  have es : smN N 4 = bN (decide (N 0 = 0)) 1 + bN (decide (N 1 = 0)) 2 + bN (decide (N 2 = 0)) 4 + bN (decide (N 3 = 0)) 8 := by
    have e : smN N 4 = 0 + (if N 0 = 0 then 0 else 1) + (if N 1 = 0 then 0 else 2) + (if N 2 = 0 then 0 else 4) + (if N 3 = 0 then 0 else 8) := rfl
    rw [e, bN_d, bN_d, bN_d, bN_d, Nat.zero_add]
  have ec : cntP (nzF N) 4 = pcB (decide (N 0 = 0)) (decide (N 1 = 0)) (decide (N 2 = 0)) (decide (N 3 = 0)) := by
    have e : cntP (nzF N) 4 = 0 + ifP (¬ N 0 = 0) 1 0 + ifP (¬ N 1 = 0) 1 0 + ifP (¬ N 2 = 0) 1 0 + ifP (¬ N 3 = 0) 1 0 := rfl
    rw [e, ifP_b, ifP_b, ifP_b, ifP_b]
    unfold pcB
    omega
  have em : mtA N 4 ↔ ((decide (N 0 + N 1 = 0)) || (decide (N 0 + N 2 = 0)) || (decide (N 1 + N 2 = 0))) = true := by
    constructor
    · rintro ⟨c, c1, c2, c3⟩
      have q : c = 1 ∨ c = 2 ∨ c = 3 := by omega
      obtain q | q | q := q
      · subst q; rw [decide_eq_true c3]; rfl
      · subst q; rw [decide_eq_true c3, Bool.or_true]; rfl
      · subst q; rw [decide_eq_true (show N 1 + N 2 = 0 by omega), Bool.or_true]
    · intro w
      obtain w | w := (Bool.or_eq_true _ _).mp w
      · obtain w | w := (Bool.or_eq_true _ _).mp w
        · exact ⟨1, by decide, by decide, of_decide_eq_true w⟩
        · exact ⟨2, by decide, by decide, of_decide_eq_true w⟩
      · have w := of_decide_eq_true w
        exact ⟨3, by decide, by decide, by omega⟩
  have t := py_tab _ _ _ _ _ _ _ (ct_ok h)
  rw [gpT_eq (zs_all h) 16 (Nat.le_refl _), es, t]
  unfold pyV pyQ
  rw [ec]
  by_cases w : pcB (decide (N 0 = 0)) (decide (N 1 = 0)) (decide (N 2 = 0)) (decide (N 3 = 0)) = 0
  · rw [if_pos w, ifP_t w]
  · rw [if_neg w, ifP_f w]
    by_cases v : pcB (decide (N 0 = 0)) (decide (N 1 = 0)) (decide (N 2 = 0)) (decide (N 3 = 0)) = 4 ∧ ((decide (N 0 + N 1 = 0)) || (decide (N 0 + N 2 = 0)) || (decide (N 1 + N 2 = 0))) = true
    · rw [if_pos v, ifP_t ⟨v.1, em.mpr v.2⟩]
    · rw [if_neg v, ifP_f (fun u => v ⟨u.1, em.mp u.2⟩)]
theorem py_x {N : Nat → Int} {cl : Nat} (hc : cl ≤ 4) : pyQ N cl = pyQ (Nx N cl) 4 := by
  unfold pyQ
  rw [← cn_x hc]
  have r := cntP_rng (P := nzF N) (n := cl)
  by_cases w : cl = 4
  · subst w
    have em : mtA N 4 ↔ mtA (Nx N 4) 4 := by
      constructor
      · rintro ⟨c, a, b, d⟩; exact ⟨c, a, b, by rw [Nx_in (show 0 < 4 by decide), Nx_in b]; exact d⟩
      · rintro ⟨c, a, b, d⟩; rw [Nx_in (show 0 < 4 by decide), Nx_in b] at d; exact ⟨c, a, b, d⟩
    rw [em]
  · have n1 : ¬ (cntP (nzF N) cl = 4 ∧ mtA N cl) := fun v => by omega
    have n2 : ¬ (cntP (nzF N) cl = 4 ∧ mtA (Nx N cl) 4) := fun v => by omega
    rw [ifP_f n1, ifP_f n2]
theorem py_ref {N : Nat → Int} {cl : Nat} (hc : cl ≤ 4) (h : sumI N cl = 0) : popI (nI (smN N cl)) - gpT (zpB N cl) 16 (smN N cl) = pyQ N cl := by
  have e1 : sumI (Nx N cl) 4 = 0 := by
    rw [sumI_cut hc (fun j a b => Nx_out (by omega)), ← h]
    exact sumI_eq (fun j q => Nx_in q)
  have e2 : sumI (Nx N cl) 4 = 0 + Nx N cl 0 + Nx N cl 1 + Nx N cl 2 + Nx N cl 3 := rfl
  have t := py_4 (N := Nx N cl) (by omega)
  rw [py_x hc, ← t, ← sm_x hc, gpT_eq (fun o _ => zp_x hc o) 16 (Nat.le_refl _)]
theorem ntC_sum {pl pa kn : Nat → Int32} {n cl : Nat} (hc : cl ≤ 4) : sumI (ntC pl pa kn n cl) cl = 0 := nt_sum (F := fun k c => owS pl pa kn (10 * (k : Int) + (c : Int)) 9 n) hc
/-- the reference's sum over a set, as of the nets -/
theorem pys_R {h g : qm_H} {pl pa kn : Nat → Int32} {n : Nat} {a r : Int32} (o : owI pl pa kn 9 n (g 45)) (hl : (h 39 3).toInt.toNat ≤ 4) (hw : ∀ t : Nat, t < n → 0 ≤ (pa t).toInt ∧ (pa t).toInt / 10 < (((h 39 3).toInt.toNat : Nat) : Int) ∧ (pa t).toInt % 10 < (((h 39 3).toInt.toNat : Nat) : Int)) (w : g 39 = h 39) (e : r.toInt = sumI (nzT (fun c => nt45 (g 45) c 4) a) (g 39 3).toInt.toNat) : r.toInt = sumI (nzT (ntC pl pa kn n (h 39 3).toInt.toNat) a) (h 39 3).toInt.toNat := by
  rw [e, w]
  exact sumI_eq (fun c q => by
    have z := owI_nt o (c := c) (by omega) hl hw
    unfold nzT
    show (if bi a c = true then nt45 (g 45) c 4 else 0) = (if bi a c = true then ntS pl pa kn n c (h 39 3).toInt.toNat else 0)
    rw [z])
