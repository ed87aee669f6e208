theorem nb_ok {f : Nat → Int32} {n p : Nat} {F W so va fr : Int} {c K : Prop} {r st k e v F2 W2 : Int} (hb : nbQ f n p F W so va fr c K r st k e v F2 W2) (h2 : F2 = 0) : F = 0 ∧ c ∧ K ∧ r = va ∧ so = 2 := by
  obtain z | ⟨h, z | z | z⟩ := hb
  · exact absurd (z.2.1.symm.trans h2) z.1
  · exact absurd (z.2.1.symm.trans h2) (by decide)
  · exact absurd (z.2.2.1.symm.trans h2) (by decide)
  · exact ⟨h, z.2.1, z.2.2.1, z.2.2.2.1, z.1⟩
theorem of_tie {f : Nat → Int32} {n p1 p2 p3 : Nat} {a nc nt so va fr ps W r1 st1 k1 e1 v1 F1 W1 r2 st2 k2 e2 v2 F2 W2 r3 st k e v F3 W3 : Int} {K1 K2 K3 : Prop} (ha : a = 5) (hn : nt < 10) (hp1 : p1 = ps.toNat) (hb1 : nbQ f n p1 0 W so va fr (0 ≤ va ∧ va / 10 ≤ 3 ∧ va % 10 ≤ 4) K1 r1 st1 k1 e1 v1 F1 W1) (hp2 : p2 = e1.toNat) (hb2 : nbQ f n p2 F1 W1 k1 v1 st1 (0 ≤ v1 ∧ v1 / 10 ≤ 3 ∧ v1 % 10 ≤ 3 ∧ ¬ v1 / 10 = v1 % 10) K2 r2 st2 k2 e2 v2 F2 W2) (hp3 : p3 = e2.toNat) (hb3 : nbQ f n p3 F2 W2 k2 v2 st2 (10 ≤ v2 ∧ v2 ≤ 99) K3 r3 st k e v F3 W3) : ofQ f n a nc nt so va fr ps W r1 r2 r3 st k e v F3 W3 := by
  intro s0 e0 h
  unfold lnA
  rw [if_neg (by omega), if_pos ha, ha]
  exact (lo_tie hn h hp1 hb1 hp2 hb2 hp3 hb3).1
theorem kwF_no {f : Nat → Int32} {s e : Nat} {so : Int} (h : ¬ so = 1) : kwF f s e so = -4 := by unfold kwF; rw [if_neg h]
theorem kwF_yes {f : Nat → Int32} {s e : Nat} {so : Int} (h : so = 1) : kwF f s e so = wd f s e := by unfold kwF; rw [if_pos h]
theorem stF_dt {S : tS} {w x y z : Int} : (stF S w x y z).2.2.1 = if w = 4 then 1 else S.2.2.1 := by
  unfold stF
  by_cases h : w = 4
  · rw [if_pos h, if_pos h]
  · rw [if_neg h, if_neg h]
    by_cases h2 : w = 5
    · rw [if_pos h2]
    · rw [if_neg h2]
theorem ref_bad {f : Nat → Int32} {n s e : Nat} {so nc nt dt F W1 w x y z st k e2 v F2 W2 W : Int} (hJ : (kwF f s e so = -4 ∧ F = 2 ∧ W1 = (s : Int)) ∨ (¬ kwF f s e so = -4 ∧ ((kwF f s e so = 5 ∧ 10 ≤ nt) ∨ (¬ kwF f s e so = 5 ∧ ¬ kwF f s e so = 4 ∧ 4 ≤ nc)) ∧ F = 5 ∧ W1 = (s : Int)) ∨ (kwF f s e so = 4 ∧ ¬ dt = 0 ∧ F = 4 ∧ W1 = (s : Int))) (hn : nxQ f n e F st k e2 v F2 W2 W1) : refQ f n (lineF f n s e so nc nt dt) w x y z st k e2 v F2 W2 W := by
  obtain q | q | q := hJ
  · obtain t | t := hn
    · rw [kw_none q.1]; exact Or.inl ⟨by show ¬ (2 : Int) = 0; decide, by show F2 = 2; omega, by show W2 = (s : Int); omega⟩
    · exact absurd t.1 (by omega)
  · obtain t | t := hn
    · rw [kw_full q.1 q.2.1]; exact Or.inl ⟨by show ¬ (5 : Int) = 0; decide, by show F2 = 5; omega, by show W2 = (s : Int); omega⟩
    · exact absurd t.1 (by omega)
  · obtain t | t := hn
    · rw [kw_told q.1 q.2.1]; exact Or.inl ⟨by show ¬ (4 : Int) = 0; decide, by show F2 = 4; omega, by show W2 = (s : Int); omega⟩
    · exact absurd t.1 (by omega)
theorem ref_no {f : Nat → Int32} {n s e : Nat} {so nc nt dt F W1 w x y z st k e2 v F2 W2 W : Int} (h1 : ¬ kwF f s e so = -4) (hd : kwF f s e so = 4 → dt = 0) (hf : (kwF f s e so = 5 → nt < 10) ∧ (¬ kwF f s e so = 4 → ¬ kwF f s e so = 5 → nc < 4)) (hF : F = 0) (hn : nxQ f n e F st k e2 v F2 W2 W1) (h2 : ¬ F2 = 0) : refQ f n (lineF f n s e so nc nt dt) w x y z st k e2 v F2 W2 W := by
  rw [kw_ok h1 hd]
  obtain t | t := hn
  · exact absurd hF t.1
  · obtain ⟨_, u | u⟩ := t.2
    · exact absurd u.2.2.2.2.1 h2
    · rw [lnA_no u.1 hf]
      exact Or.inl ⟨by show ¬ (1 : Int) = 0; decide, by show F2 = 1; omega, by show W2 = ((tkS f n e : Nat) : Int); omega⟩
theorem ref_ok {f : Nat → Int32} {n s e p : Nat} {so nc nt dt F W1 a st1 k1 e1 v1 F1 W1' x y z st2 k2 e2 v2 F2 W2 Fm Wm st k e3 v F3 W3 W : Int} (h1 : ¬ kwF f s e so = -4) (hd : kwF f s e so = 4 → dt = 0) (ha : a = kwF f s e so) (hF : F1 = 0) (hW : W1 = W) (hn : nxQ f n e F st1 k1 e1 v1 F1 W1' W1) (ho : ofQ f n a nc nt k1 v1 st1 e1 W1' x y z st2 k2 e2 v2 F2 W2) (hm : (¬ F2 = 0 ∧ Fm = F2 ∧ Wm = W2) ∨ (F2 = 0 ∧ ¬ k2 = 3 ∧ Fm = 2 ∧ Wm = st2) ∨ (F2 = 0 ∧ k2 = 3 ∧ Fm = 0 ∧ Wm = W2)) (hq : p = e2.toNat) (hx : nxQ f n p Fm st k e3 v F3 W3 Wm) : refQ f n (lineF f n s e so nc nt dt) a x y z st k e3 v F3 W3 W := by
  rw [kw_ok h1 hd, ← ha]
  obtain t | t := hn
  · exact absurd (t.2.1.symm.trans hF) t.1
  · have hk := (nxR_kp t.2).2.2 hF
    have t2 := t.2
    rw [hF] at t2
    have e4 : W1' = W := by omega
    rw [e4] at t2 ho
    rw [hW] at t2
    exact lo_ref (ho s e t2) hm hq hx
/-! a line's end stands behind its start -/
noncomputable def lnV (L : lnT) (m : Nat) : Prop := L.1 = 0 → m < L.2.2.1
theorem lnV_B {c : Int} {s m : Nat} (hc : ¬ c = 0) : lnV (lnB c s) m := fun q => absurd q hc
theorem tkE_ge {f : Nat → Int32} {n s : Nat} : s ≤ tkE f n s := by
  unfold tkE
  split
  · exact Nat.le_refl _
  · split
    · exact Nat.le_succ _
    · split
      · exact run_ge
      · exact run_ge
theorem numF_V {f : Nat → Int32} {n p m : Nat} {k : Nat → Nat → Int → lnT} (hm : m ≤ p) (h : ∀ (s e : Nat) (v : Int), m ≤ e → lnV (k s e v) m) : lnV (numF f n p k) m := by
  have hge : p ≤ tkS f n p := run_ge
  have hge2 := tkE_ge (f := f) (n := n) (s := tkS f n p)
  unfold numF
  split
  · exact lnV_B (by decide)
  · split
    · exact lnV_B (by decide)
    · exact h _ _ _ (by omega)
theorem stopF_V {f : Nat → Int32} {n p m : Nat} {w x y z : Int} (hm : m ≤ p) : lnV (stopF f n p (fun e2 => (0, 0, e2, w, x, y, z))) m := by
  have hge : p ≤ tkS f n p := run_ge
  unfold stopF
  split
  · exact lnV_B (by decide)
  · rename_i ho
    split
    · exact lnV_B (by decide)
    · rename_i hk
      intro _
      show m < tkE f n (tkS f n p)
      have hk3 : tkK f n (tkS f n p) = 3 := Decidable.not_not.mp hk
      by_cases hn : n ≤ tkS f n p
      · have := (tk_end (f := f) hn).1; omega
      · by_cases h59 : (f (tkS f n p)).toInt = 59
        · have := (tk_stop (f := f) (n := n) (s := tkS f n p) (by omega) h59).2.1; omega
        · by_cases haz : 97 ≤ (f (tkS f n p)).toInt ∧ (f (tkS f n p)).toInt ≤ 122
          · have := (tk_name (f := f) (n := n) (s := tkS f n p) (by omega) haz).1; omega
          · have := (tk_num (f := f) (n := n) (s := tkS f n p) (by omega) h59 haz).1; omega
theorem lineF_V {f : Nat → Int32} {n s0 e0 m : Nat} {k0 nc nt dt : Int} (hm : m ≤ e0) : lnV (lineF f n s0 e0 k0 nc nt dt) m := by
  unfold lineF
  split
  · exact lnV_B (by decide)
  · split
    · unfold dayF
      split
      · exact lnV_B (by decide)
      · refine numF_V hm (fun s e v h2 => ?_)
        split
        · exact lnV_B (by decide)
        · exact stopF_V h2
    · split
      · unfold tieF
        split
        · exact lnV_B (by decide)
        · refine numF_V hm (fun s e v h2 => ?_)
          split
          · exact lnV_B (by decide)
          · refine numF_V h2 (fun s2 e2 v2 h4 => ?_)
            split
            · exact lnV_B (by decide)
            · refine numF_V h4 (fun s3 e3 v3 h6 => ?_)
              split
              · exact lnV_B (by decide)
              · exact stopF_V h6
      · unfold clkF
        split
        · exact lnV_B (by decide)
        · exact stopF_V hm
theorem lineF_adv {f : Nat → Int32} {n p e : Nat} {k0 nc nt dt w x y z : Int} (h : lineF f n (tkS f n p) (tkE f n (tkS f n p)) k0 nc nt dt = (0, 0, e, w, x, y, z)) : (p : Int) < (e : Int) := by
  have hge : p ≤ tkS f n p := run_ge
  have hge2 := tkE_ge (f := f) (n := n) (s := tkS f n p)
  have hv := lineF_V (f := f) (n := n) (s0 := tkS f n p) (e0 := tkE f n (tkS f n p)) (m := p) (k0 := k0) (nc := nc) (nt := nt) (dt := dt) (by omega)
  rw [h] at hv
  have := hv rfl
  have h2 : p < e := this
  omega
/-! the reference's loop: the first token of the next line has been read -/
noncomputable def rfI (f : Nat → Int32) (n : Nat) (i F W st k e v : Int) (g : qm_H) : Prop := (¬ F = 0 ∧ (txF f n 161 0 0 txS).1 = F ∧ ((txF f n 161 0 0 txS).2.1 : Int) = W) ∨ (F = 0 ∧ ∃ (S : tS) (p : Nat) (W0 : Int), nxR f n p st k e v F W W0 ∧ rT S g ∧ wfS S ∧ (i ≤ (p : Int) ∧ p ≤ n) ∧ txF f n (161 - i).toNat p i.toNat S = txF f n 161 0 0 txS)
/-- a token read at p, with S told: the loop's head -/
theorem rfI_mk {f : Nat → Int32} {n p : Nat} {i F W st k e v W0 : Int} {g : qm_H} {S : tS} (h : nxR f n p st k e v F W W0) (c : F = 0 → rT S g) (w : wfS S) (hp : i ≤ (p : Int) ∧ p ≤ n) (hn : n ≤ 160) (h0 : 0 ≤ i) (hS : txF f n (161 - i).toNat p i.toNat S = txF f n 161 0 0 txS) : rfI f n i F W st k e v g := by
  by_cases hF : F = 0
  · exact Or.inr ⟨hF, S, p, W0, h, c hF, w, hp, hS⟩
  · refine Or.inl ⟨hF, ?_⟩
    obtain ⟨_, q | q⟩ := h
    · exact absurd q.2.2.2.2.1 hF
    · rw [show (161 - i).toNat = (160 - i).toNat + 1 by omega, txF_no q.1] at hS
      rw [← hS]
      exact ⟨by show (1 : Int) = F; omega, by show ((tkS f n p : Nat) : Int) = W; omega⟩
theorem rfI_line {f : Nat → Int32} {n s0 e0 : Nat} {i F W st k e v st2 k2 e2 v2 F2 W2 W3 w x y z nc nt dt i2 : Int} {g g2 : qm_H} (hI : rfI f n i F W st k e v g) (hF : F = 0) (hk : ¬ k = 0) (h0 : 0 ≤ i) (hn : n ≤ 160) (hs0 : (s0 : Int) = st) (he0 : (e0 : Int) = e) (hc : ∀ S : tS, rT S g → nc = (S.1 : Int) ∧ nt = (S.2.1 : Int) ∧ dt = S.2.2.1) (hr : refQ f n (lineF f n s0 e0 k nc nt dt) w x y z st2 k2 e2 v2 F2 W2 W3) (hg : F2 = 0 → ∀ S : tS, rT S g → rT (stF S w x y z) g2) (hi2 : i2 = i + 1) : rfI f n i2 F2 W2 st2 k2 e2 v2 g2 ∧ i ≤ 159 := by
  obtain q | ⟨_, S, p, W0, hx, c, hw, hp, hS⟩ := hI
  · exact absurd hF q.1
  · have hkp := (nxR_kp hx).2.2 hF
    obtain ⟨h1, u | u⟩ := hx
    · have c2 := hc S c
      have hlt : i ≤ 159 := by
        by_cases hh : i ≤ 159
        · exact hh
        · have hpn : p = n := by omega
          have hge : p ≤ tkS f n p := run_ge
          have := (tk_end (f := f) (n := n) (s := tkS f n p) (by omega)).1
          omega
      rw [c2.1, c2.2.1, c2.2.2, show s0 = tkS f n p by omega, show e0 = tkE f n (tkS f n p) by omega, u.2.1] at hr
      have hS2 := hS
      rw [show (161 - i).toNat = (160 - i).toNat + 1 by omega] at hS2
      have hW := lineF_W (f := f) (n := n) (s0 := tkS f n p) (e0 := tkE f n (tkS f n p)) (k0 := tkK f n (tkS f n p)) (nc := S.1) (nt := S.2.1) (dt := S.2.2.1)
      have hP := lineF_P (f := f) (n := n) (s0 := tkS f n p) (e0 := tkE f n (tkS f n p)) (k0 := tkK f n (tkS f n p)) (nc := S.1) (nt := S.2.1) (dt := S.2.2.1) (tkS_le hp.2) (tkE_le (tkS_le hp.2))
      obtain y1 | ⟨p2, y1, y2⟩ := hr
      · have hL : lineF f n (tkS f n p) (tkE f n (tkS f n p)) (tkK f n (tkS f n p)) S.1 S.2.1 S.2.2.1 = lineF f n (tkS f n p) (tkE f n (tkS f n p)) (tkK f n (tkS f n p)) S.1 S.2.1 S.2.2.1 := rfl
        rw [txF_eq, if_neg (fun t => t u.1), if_neg (fun t => hk (u.2.1.trans t)), if_neg y1.1] at hS2
        refine ⟨Or.inl ⟨by omega, ?_⟩, hlt⟩
        rw [← hS2]
        exact ⟨y1.2.1.symm, y1.2.2.symm⟩
      · rw [txF_line u.1 (fun t => hk (u.2.1.trans t)) y1] at hS2
        rw [y1] at hW hP
        have hw2 := wfS_st (S := S) (L := (0, 0, p2, w, x, y, z)) hw hW rfl
        have hadv : (p : Int) < (p2 : Int) := lineF_adv y1
        refine ⟨rfI_mk y2 (fun hz => hg hz S c) hw2 ⟨by omega, hP.2⟩ hn (by omega) ?_, hlt⟩
        rw [show (161 - i2).toNat = (160 - i).toNat by omega, show i2.toNat = i.toNat + 1 by omega]
        exact hS2
    · exact absurd (hF.symm.trans u.2.1) (by decide)
