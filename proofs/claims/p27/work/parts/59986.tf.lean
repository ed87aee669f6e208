/-! ===== the reference's lines: the token behind has been read ===== -/
/-- a number is looked at (c: what is asked of it; K: what is noted if it is so), and the token behind it is read -/
noncomputable def nbQ (f : Nat → Int32) (n p : Nat) (F W so va fr : Int) (c K : Prop) (r st k e v F2 W2 : Int) : Prop := (¬ F = 0 ∧ F2 = F ∧ W2 = W) ∨ (F = 0 ∧ ((¬ so = 2 ∧ F2 = 2 ∧ W2 = fr) ∨ (so = 2 ∧ ¬ c ∧ F2 = 3 ∧ W2 = fr) ∨ (so = 2 ∧ c ∧ K ∧ r = va ∧ nxR f n p st k e v F2 W2 W)))
theorem nbQ_mk {f : Nat → Int32} {n p q : Nat} {F W so va fr F1 W1 : Int} {c K : Prop} {r st k e v F2 W2 : Int} (hn : nxQ f n q F1 st k e v F2 W2 W1) (hq : p = q) (hl : (¬ F = 0 ∧ F1 = F ∧ W1 = W) ∨ (F = 0 ∧ ¬ so = 2 ∧ F1 = 2 ∧ W1 = fr) ∨ (F = 0 ∧ so = 2 ∧ ¬ c ∧ F1 = 3 ∧ W1 = fr) ∨ (F = 0 ∧ so = 2 ∧ c ∧ F1 = 0 ∧ W1 = W ∧ r = va)) (hK : F = 0 → so = 2 → c → K) : nbQ f n p F W so va fr c K r st k e v F2 W2 := by
  subst hq
  obtain z | z | z | z := hl
  · obtain y | y := hn
    · exact Or.inl ⟨z.1, by omega, by omega⟩
    · exact absurd (z.2.1.symm.trans y.1) z.1
  · obtain y | y := hn
    · exact Or.inr ⟨z.1, Or.inl ⟨z.2.1, by omega, by omega⟩⟩
    · exact absurd y.1 (by omega)
  · obtain y | y := hn
    · exact Or.inr ⟨z.1, Or.inr (Or.inl ⟨z.2.1, z.2.2.1, by omega, by omega⟩)⟩
    · exact absurd y.1 (by omega)
  · obtain y | y := hn
    · exact absurd z.2.2.2.1 y.1
    · refine Or.inr ⟨z.1, Or.inr (Or.inr ⟨z.2.1, z.2.2.1, hK z.1 z.2.1 z.2.2.1, z.2.2.2.2.2, ?_⟩)⟩
      rw [← z.2.2.2.2.1]
      exact y.2
theorem numF_nx {f : Nat → Int32} {n p : Nat} {st k e v fp fp0 : Int} (h : nxR f n p st k e v 0 fp fp0) (kk : Nat → Nat → Int → lnT) : numF f n p kk = if ¬ k = 2 then lnB 2 st.toNat else kk st.toNat e.toNat v := by
  obtain ⟨h1, q | q⟩ := h
  · unfold numF
    rw [if_neg (fun z => z q.1), ← q.2.1, show st.toNat = tkS f n p by omega, show e.toNat = tkE f n (tkS f n p) by omega]
    by_cases z : k = 2
    · rw [if_neg (fun y => y z), if_neg (fun y => y z), q.2.2.2.1 z]
    · rw [if_pos z, if_pos z]
  · exact absurd q.2.1 (by decide)
/-- a line read up to its stop: a fault, or the token that should be its stop -/
noncomputable def loQ (f : Nat → Int32) (n : Nat) (L : lnT) (w x y z st k e v F2 W2 W : Int) : Prop := (L = lnB F2 W2.toNat ∧ ¬ F2 = 0 ∧ 0 ≤ W2) ∨ (∃ p : Nat, L = stopF f n p (fun e2 => (0, 0, e2, w, x, y, z)) ∧ nxR f n p st k e v F2 W2 W)
theorem lo_day {f : Nat → Int32} {n s0 e0 p : Nat} {so va fr ps r st k e v F2 W2 W W0 : Int} {K : Prop} (h : nxR f n e0 fr so ps va 0 W W0) (hp : p = ps.toNat) (hb : nbQ f n p 0 W so va fr (0 ≤ va ∧ va ≤ 9) K r st k e v F2 W2) : loQ f n (dayF f n s0 e0 0) 4 r 0 0 st k e v F2 W2 W := by
  have hk := nxR_kp h
  have hd : dayF f n s0 e0 0 = numF f n e0 (fun s1 e1 v => if 9 < v then lnB 3 s1 else stopF f n e1 (fun e2 => (0, 0, e2, 4, v, 0, 0))) := by
    unfold dayF
    rw [if_neg (fun q => q rfl)]
  rw [hd, numF_nx h]
  obtain z | ⟨_, z | z | z⟩ := hb
  · exact absurd rfl z.1
  · rw [if_pos z.1]; exact Or.inl ⟨by rw [z.2.1, z.2.2], by omega, by omega⟩
  · have hv := (hk.2.2 rfl).2.2.2.2 z.1
    rw [if_neg (fun y => y z.1), if_pos (by omega)]
    exact Or.inl ⟨by rw [z.2.2.1, z.2.2.2], by omega, by omega⟩
  · rw [if_neg (fun y => y z.1), if_neg (by omega)]
    exact Or.inr ⟨p, by rw [hp, z.2.2.2.1], z.2.2.2.2⟩
theorem lo_tie {f : Nat → Int32} {n s0 e0 p1 p2 p3 : Nat} {nt so va fr ps W W0 r1 st1 k1 e1 v1 F1 W1 r2 st2 k2 e2 v2 F2 W2 r3 st k e v F3 W3 : Int} {K1 K2 K3 : Prop} (hn : nt < 10) (h : nxR f n e0 fr so ps va 0 W W0) (hp1 : p1 = ps.toNat) (hb1 : nbQ f n p1 0 W so va fr (0 ≤ va ∧ va / 10 ≤ 3 ∧ va % 10 ≤ 4) K1 r1 st1 k1 e1 v1 F1 W1) (hp2 : p2 = e1.toNat) (hb2 : nbQ f n p2 F1 W1 k1 v1 st1 (0 ≤ v1 ∧ v1 / 10 ≤ 3 ∧ v1 % 10 ≤ 3 ∧ ¬ v1 / 10 = v1 % 10) K2 r2 st2 k2 e2 v2 F2 W2) (hp3 : p3 = e2.toNat) (hb3 : nbQ f n p3 F2 W2 k2 v2 st2 (10 ≤ v2 ∧ v2 ≤ 99) K3 r3 st k e v F3 W3) : loQ f n (tieF f n s0 e0 nt) 5 r1 r2 r3 st k e v F3 W3 W ∧ (F3 = 0 → K1 ∧ K2 ∧ K3 ∧ F1 = 0 ∧ F2 = 0 ∧ r1 = va ∧ r2 = v1) := by
  have hk := nxR_kp h
  have hd : tieF f n s0 e0 nt = numF f n e0 (fun s1 e1 v1 => if ¬ plc v1 then lnB 3 s1 else numF f n e1 (fun s2 e2 v2 => if ¬ prc v2 then lnB 3 s2 else numF f n e2 (fun s3 e3 v3 => if v3 < 10 then lnB 3 s3 else stopF f n e3 (fun e4 => (0, 0, e4, 5, v1, v2, v3))))) := by
    unfold tieF
    rw [if_neg (by omega)]
  have pass : ∀ a b : Int, ¬ a = 0 → 0 ≤ b → F1 = a → W1 = b → F3 = a ∧ W3 = b := by
    intro a b ha hb' hF hW
    obtain y | y := hb2
    · obtain x | x := hb3
      · omega
      · omega
    · omega
  rw [hd, numF_nx h]
  obtain z | ⟨_, z | z | z⟩ := hb1
  · exact absurd rfl z.1
  · have hP := pass 2 fr (by decide) hk.1 z.2.1 z.2.2
    rw [if_pos z.1]; exact ⟨Or.inl ⟨by rw [hP.1, hP.2], by omega, by omega⟩, fun q => by omega⟩
  · have hv := (hk.2.2 rfl).2.2.2.2 z.1
    have hP := pass 3 fr (by decide) hk.1 z.2.2.1 z.2.2.2
    have hnp : ¬ plc va := fun q => z.2.1 ⟨by omega, q.1, q.2⟩
    rw [if_neg (fun y => y z.1), if_pos hnp]
    exact ⟨Or.inl ⟨by rw [hP.1, hP.2], by omega, by omega⟩, fun q => by omega⟩
  · obtain ⟨z1, z2, zK, zr, zn⟩ := z
    have hyp : plc va := ⟨z2.2.1, z2.2.2⟩
    rw [if_neg (fun y => y z1), if_neg (fun y => y hyp)]
    have hk1 := nxR_kp zn
    by_cases hF1 : F1 = 0
    · subst hF1
      rw [← hp1, numF_nx zn]
      have pass2 : ∀ a b : Int, ¬ a = 0 → 0 ≤ b → F2 = a → W2 = b → F3 = a ∧ W3 = b := by
        intro a b ha hb' hF hW
        obtain x | x := hb3
        · omega
        · omega
      obtain y | ⟨_, y | y | y⟩ := hb2
      · exact absurd rfl y.1
      · have hP := pass2 2 st1 (by decide) hk1.1 y.2.1 y.2.2
        rw [if_pos y.1]; exact ⟨Or.inl ⟨by rw [hP.1, hP.2], by omega, by omega⟩, fun q => by omega⟩
      · have hv := (hk1.2.2 rfl).2.2.2.2 y.1
        have hP := pass2 3 st1 (by decide) hk1.1 y.2.2.1 y.2.2.2
        have hnp : ¬ prc v1 := fun q => y.2.1 ⟨by omega, q.1, q.2.1, q.2.2⟩
        rw [if_neg (fun u => u y.1), if_pos hnp]
        exact ⟨Or.inl ⟨by rw [hP.1, hP.2], by omega, by omega⟩, fun q => by omega⟩
      · obtain ⟨y1, y2, yK, yr, yn⟩ := y
        have hyp2 : prc v1 := ⟨y2.2.1, y2.2.2.1, y2.2.2.2⟩
        rw [if_neg (fun u => u y1), if_neg (fun u => u hyp2)]
        have hk2 := nxR_kp yn
        by_cases hF2 : F2 = 0
        · subst hF2
          rw [← hp2, numF_nx yn]
          obtain x | ⟨_, x | x | x⟩ := hb3
          · exact absurd rfl x.1
          · rw [if_pos x.1]; exact ⟨Or.inl ⟨by rw [x.2.1, x.2.2], by omega, by omega⟩, fun q => by omega⟩
          · have hv := (hk2.2.2 rfl).2.2.2.2 x.1
            rw [if_neg (fun u => u x.1), if_pos (by omega)]
            exact ⟨Or.inl ⟨by rw [x.2.2.1, x.2.2.2], by omega, by omega⟩, fun q => by omega⟩
          · obtain ⟨x1, x2, xK, xr, xn⟩ := x
            rw [if_neg (fun u => u x1), if_neg (by omega)]
            have e1 := (hk1.2.2 rfl).2.2.1
            have e2' := (hk2.2.2 rfl).2.2.1
            refine ⟨Or.inr ⟨p3, by rw [hp3, zr, yr, xr], ?_⟩, fun _ => ⟨zK, yK, xK, rfl, rfl, zr, yr⟩⟩
            rw [← e1, ← e2']
            exact xn
        · obtain x | x := hb3
          · have hF := hk2.2.1
            obtain ⟨u1, u2 | u2⟩ := yn
            · omega
            · refine ⟨Or.inl ⟨?_, by omega, by omega⟩, fun q => by omega⟩
              unfold numF
              rw [← hp2, if_pos u2.1, x.2.1, x.2.2, u2.2.1, u2.2.2]; rfl
          · exact absurd x.1 hF2
    · have hF := hk1.2.1
      obtain ⟨u1, u2 | u2⟩ := zn
      · omega
      · have hP := pass 1 _ (by decide) (by omega) u2.2.1 u2.2.2
        refine ⟨Or.inl ⟨?_, by omega, by omega⟩, fun q => by omega⟩
        unfold numF
        rw [← hp1, if_pos u2.1, hP.1, hP.2]; rfl
theorem lo_clk {f : Nat → Int32} {n s0 e0 : Nat} {nc w so va fr ps W W0 : Int} (hn : nc < 4) (h : nxR f n e0 fr so ps va 0 W W0) : loQ f n (clkF f n s0 e0 nc w) w 0 0 0 fr so ps va 0 W W0 := by
  refine Or.inr ⟨e0, ?_, h⟩
  unfold clkF
  rw [if_neg (by omega)]
/-- the stop behind it, and the next line's first token -/
noncomputable def refQ (f : Nat → Int32) (n : Nat) (L : lnT) (w x y z st k e v F2 W2 W : Int) : Prop := (¬ L.1 = 0 ∧ F2 = L.1 ∧ W2 = (L.2.1 : Int)) ∨ (∃ p : Nat, L = (0, 0, p, w, x, y, z) ∧ nxR f n p st k e v F2 W2 W)
theorem lo_ref {f : Nat → Int32} {n q : Nat} {L : lnT} {w x y z st1 k1 e1 v1 F1 W1 W Fm Wm st k e v F2 W2 : Int} (hl : loQ f n L w x y z st1 k1 e1 v1 F1 W1 W) (hm : (¬ F1 = 0 ∧ Fm = F1 ∧ Wm = W1) ∨ (F1 = 0 ∧ ¬ k1 = 3 ∧ Fm = 2 ∧ Wm = st1) ∨ (F1 = 0 ∧ k1 = 3 ∧ Fm = 0 ∧ Wm = W1)) (hq : q = e1.toNat) (hn : nxQ f n q Fm st k e v F2 W2 Wm) : refQ f n L w x y z st k e v F2 W2 W := by
  obtain l | ⟨p, l, lp⟩ := hl
  · obtain u | u | u := hm
    · obtain t | t := hn
      · rw [l.1]; exact Or.inl ⟨l.2.1, by show F2 = F1; omega, by show W2 = ((W1.toNat : Nat) : Int); omega⟩
      · exact absurd t.1 (by omega)
    · exact absurd u.1 l.2.1
    · exact absurd u.1 l.2.1
  · have hk := nxR_kp lp
    obtain ⟨s1, s2 | s2⟩ := lp
    · obtain u | u | u := hm
      · exact absurd s2.2.2.2.2.1 u.1
      · have hL : L = lnB 2 (tkS f n p) := by
          rw [l]
          unfold stopF
          rw [if_neg (fun t => t s2.1), if_pos (fun t => u.2.1 (s2.2.1.trans t))]
        obtain t | t := hn
        · rw [hL]; exact Or.inl ⟨by show ¬ (2 : Int) = 0; decide, by show F2 = 2; omega, by show W2 = ((tkS f n p : Nat) : Int); omega⟩
        · exact absurd t.1 (by omega)
      · have hL : L = (0, 0, tkE f n (tkS f n p), w, x, y, z) := by
          rw [l]
          unfold stopF
          rw [if_neg (fun t => t s2.1), if_neg (fun t => t (s2.2.1.symm.trans u.2.1))]
        obtain t | t := hn
        · exact absurd u.2.2.1 t.1
        · refine Or.inr ⟨tkE f n (tkS f n p), hL, ?_⟩
          have ht := t.2
          rw [show q = tkE f n (tkS f n p) by omega, show Wm = W by omega] at ht
          exact ht
    · have hL : L = lnB 1 (tkS f n p) := by
        rw [l]
        unfold stopF
        rw [if_pos s2.1]
      obtain u | u | u := hm
      · obtain t | t := hn
        · rw [hL]; exact Or.inl ⟨by show ¬ (1 : Int) = 0; decide, by show F2 = 1; omega, by show W2 = ((tkS f n p : Nat) : Int); omega⟩
        · exact absurd t.1 (by omega)
      · exact absurd u.1 (by omega)
      · exact absurd u.1 (by omega)
/-! what the reference's draft tells -/
noncomputable def hiS (pl pr : Nat → Int) : Nat → Int
  | 0 => -4
  | k + 1 => mx (mx (mx (hiS pl pr k) (pl k / 10)) (pr k / 10)) (pr k % 10)
theorem hiS_eq {pl pr pl2 pr2 : Nat → Int} : ∀ k : Nat, (∀ j : Nat, j < k → pl j = pl2 j ∧ pr j = pr2 j) → hiS pl pr k = hiS pl2 pr2 k
  | 0, _ => rfl
  | k + 1, h => by
    show mx (mx (mx (hiS pl pr k) (pl k / 10)) (pr k / 10)) (pr k % 10) = mx (mx (mx (hiS pl2 pr2 k) (pl2 k / 10)) (pr2 k / 10)) (pr2 k % 10)
    have e := h k (Nat.lt_succ_self _)
    rw [hiS_eq k (fun j hj => h j (by omega)), e.1, e.2]
theorem mx_lt {a c m : Int} : mx a c < m ↔ (a < m ∧ c < m) := by
  unfold mx
  split
  · constructor
    · intro h; omega
    · intro h; omega
  · constructor
    · intro h; omega
    · intro h; omega
theorem hiS_lt {pl pr : Nat → Int} {m : Int} : ∀ k : Nat, hiS pl pr k < m ↔ (-4 < m ∧ ∀ j : Nat, j < k → pl j / 10 < m ∧ pr j / 10 < m ∧ pr j % 10 < m)
  | 0 => ⟨fun h => ⟨h, fun j hj => absurd hj (Nat.not_lt_zero _)⟩, fun h => h.1⟩
  | k + 1 => by
    have ih := hiS_lt (pl := pl) (pr := pr) (m := m) k
    show mx (mx (mx (hiS pl pr k) (pl k / 10)) (pr k / 10)) (pr k % 10) < m ↔ _
    rw [mx_lt, mx_lt, mx_lt, ih]
    constructor
    · intro h
      refine ⟨h.1.1.1.1, fun j hj => ?_⟩
      by_cases q : j < k
      · exact h.1.1.1.2 j q
      · have e : j = k := by omega
        subst e
        exact ⟨h.1.1.2, h.1.2, h.2⟩
    · intro h
      have e := h.2 k (Nat.lt_succ_self _)
      exact ⟨⟨⟨⟨h.1, fun j hj => h.2 j (by omega)⟩, e.1⟩, e.2.1⟩, e.2.2⟩
noncomputable def rP (S : tS) (h : qm_H) : Prop := ((h 39 5).toInt = (S.1 : Int) ∧ (h 43 4).toInt = (S.2.1 : Int) ∧ (h 43 5).toInt = S.2.2.2.1 ∧ (h 39 7).toInt = hiS S.2.2.2.2.2.1 S.2.2.2.2.2.2.1 S.2.1) ∧ (∀ j : Nat, j < S.1 → (h 43 j).toInt = S.2.2.2.2.1 j) ∧ ∀ j : Nat, j < S.2.1 → (h 43 (6 + 3 * j)).toInt = S.2.2.2.2.2.1 j ∧ (h 43 (7 + 3 * j)).toInt = S.2.2.2.2.2.2.1 j ∧ (h 43 (8 + 3 * j)).toInt = S.2.2.2.2.2.2.2 j
noncomputable def rT (S : tS) (h : qm_H) : Prop := rP S h ∧ (h 39 6).toInt = S.2.2.1
theorem rP_eq {S : tS} {g k : qm_H} (c : rP S g) (e43 : k 43 = g 43) (e5 : (k 39 5).toInt = (g 39 5).toInt) (e7 : (k 39 7).toInt = (g 39 7).toInt) : rP S k := by
  unfold rP
  rw [e43, e5, e7]
  exact c
theorem rP_clk {S : tS} {h g : qm_H} {w v1 v2 v3 : Int} {x : Int32} {i : Nat} (hc : rP S h) (hw : ¬ w = 4 ∧ ¬ w = 5) (hx : x.toInt = w) (hn : (h 39 5).toInt < 4) (hi : (i : Int) = (h 39 5).toInt) (r43 : g 43 = upd (h 43) i x) (e5 : (g 39 5).toInt = (h 39 5).toInt + 1) (e7 : (g 39 7).toInt = (h 39 7).toInt) : rP (stF S w v1 v2 v3) g := by
  obtain ⟨⟨a1, a2, a3, a4⟩, b1, b2⟩ := hc
  have ei : i = S.1 := by omega
  have up : ∀ j : Nat, ¬ j = i → g 43 j = h 43 j := fun j hj => by rw [r43]; unfold upd; rw [if_neg hj]
  unfold stF
  rw [if_neg hw.1, if_neg hw.2]
  refine ⟨⟨?_, ?_, ?_, ?_⟩, fun j hj => ?_, fun j hj => ?_⟩
  · show _ = ((S.1 + 1 : Nat) : Int); omega
  · rw [up 4 (by omega)]; exact a2
  · rw [up 5 (by omega)]; exact a3
  · rw [e7]; exact a4
  · have hj2 : j < S.1 + 1 := hj
    show (g 43 j).toInt = if j = S.1 then w else S.2.2.2.2.1 j
    by_cases q : j = S.1
    · rw [if_pos q, r43]; unfold upd; rw [if_pos (by omega)]; exact hx
    · rw [if_neg q, up j (by omega)]; exact b1 j (by omega)
  · rw [up _ (by omega), up _ (by omega), up _ (by omega)]; exact b2 j hj
theorem rP_day {S : tS} {h g : qm_H} {w v1 v2 v3 : Int} {x : Int32} (hc : rP S h) (hn : (h 39 5).toInt ≤ 4) (hw : w = 4) (hx : x.toInt = v1) (r43 : g 43 = upd (h 43) 5 x) (e5 : (g 39 5).toInt = (h 39 5).toInt) (e7 : (g 39 7).toInt = (h 39 7).toInt) : rP (stF S w v1 v2 v3) g := by
  obtain ⟨⟨a1, a2, a3, a4⟩, b1, b2⟩ := hc
  have up : ∀ j : Nat, ¬ j = 5 → g 43 j = h 43 j := fun j hj => by rw [r43]; unfold upd; rw [if_neg hj]
  unfold stF
  rw [if_pos hw]
  refine ⟨⟨e5.trans a1, ?_, ?_, e7.trans a4⟩, fun j hj => ?_, fun j hj => ?_⟩
  · rw [up 4 (by omega)]; exact a2
  · rw [r43]; unfold upd; rw [if_pos rfl]; exact hx
  · have hj2 : j < S.1 := hj
    rw [up j (by omega)]; exact b1 j hj
  · rw [up _ (by omega), up _ (by omega), up _ (by omega)]; exact b2 j hj
theorem rP_tie {S : tS} {h g : qm_H} {w v1 v2 v3 : Int} {x y z m : Int32} {i0 i1 i2 : Nat} (hc : rP S h) (hn5 : (h 39 5).toInt ≤ 4) (hw : w = 5) (hx : x.toInt = v1) (hy : y.toInt = v2) (hz : z.toInt = v3) (hi0 : (i0 : Int) = 6 + 3 * (h 43 4).toInt) (hi1 : (i1 : Int) = 7 + 3 * (h 43 4).toInt) (hi2 : (i2 : Int) = 8 + 3 * (h 43 4).toInt) (hm : m.toInt = (h 43 4).toInt + 1) (r43 : g 43 = upd (upd (upd (upd (h 43) i0 x) i1 y) i2 z) 4 m) (e5 : (g 39 5).toInt = (h 39 5).toInt) (e7 : (g 39 7).toInt = mx (mx (mx (h 39 7).toInt (v1 / 10)) (v2 / 10)) (v2 % 10)) : rP (stF S w v1 v2 v3) g := by
  obtain ⟨⟨a1, a2, a3, a4⟩, b1, b2⟩ := hc
  have up : ∀ j : Nat, ¬ j = i0 → ¬ j = i1 → ¬ j = i2 → ¬ j = 4 → g 43 j = h 43 j := fun j h0 h1 h2 h4 => by rw [r43]; unfold upd; rw [if_neg h4, if_neg h2, if_neg h1, if_neg h0]
  have e0 : g 43 i0 = x := by rw [r43]; unfold upd; rw [if_neg (by omega), if_neg (by omega), if_neg (by omega), if_pos rfl]
  have e1 : g 43 i1 = y := by rw [r43]; unfold upd; rw [if_neg (by omega), if_neg (by omega), if_pos rfl]
  have e2 : g 43 i2 = z := by rw [r43]; unfold upd; rw [if_neg (by omega), if_pos rfl]
  have e4 : g 43 4 = m := by rw [r43]; unfold upd; rw [if_pos rfl]
  unfold stF
  rw [if_neg (by omega), if_pos hw]
  refine ⟨⟨?_, ?_, ?_, ?_⟩, fun j hj => ?_, fun j hj => ?_⟩
  · show _ = ((S.1 : Nat) : Int); omega
  · rw [e4]; show _ = ((S.2.1 + 1 : Nat) : Int); omega
  · rw [up 5 (by omega) (by omega) (by omega) (by omega)]; exact a3
  · show (g 39 7).toInt = mx (mx (mx (hiS (fun j => if j = S.2.1 then v1 else S.2.2.2.2.2.1 j) (fun j => if j = S.2.1 then v2 else S.2.2.2.2.2.2.1 j) S.2.1) ((if S.2.1 = S.2.1 then v1 else S.2.2.2.2.2.1 S.2.1) / 10)) ((if S.2.1 = S.2.1 then v2 else S.2.2.2.2.2.2.1 S.2.1) / 10)) ((if S.2.1 = S.2.1 then v2 else S.2.2.2.2.2.2.1 S.2.1) % 10)
    rw [if_pos rfl, if_pos rfl, e7, a4, hiS_eq S.2.1 (fun j hj => ⟨if_neg (by omega), if_neg (by omega)⟩)]
  · have hj2 : j < S.1 := hj
    rw [up j (by omega) (by omega) (by omega) (by omega)]; exact b1 j hj
  · have hj2 : j < S.2.1 + 1 := hj
    show (g 43 (6 + 3 * j)).toInt = (if j = S.2.1 then v1 else S.2.2.2.2.2.1 j) ∧ (g 43 (7 + 3 * j)).toInt = (if j = S.2.1 then v2 else S.2.2.2.2.2.2.1 j) ∧ (g 43 (8 + 3 * j)).toInt = (if j = S.2.1 then v3 else S.2.2.2.2.2.2.2 j)
    by_cases q : j = S.2.1
    · rw [if_pos q, if_pos q, if_pos q, show 6 + 3 * j = i0 by omega, show 7 + 3 * j = i1 by omega, show 8 + 3 * j = i2 by omega, e0, e1, e2]
      exact ⟨hx, hy, hz⟩
    · rw [if_neg q, if_neg q, if_neg q, up _ (by omega) (by omega) (by omega) (by omega), up _ (by omega) (by omega) (by omega) (by omega), up _ (by omega) (by omega) (by omega) (by omega)]
      exact b2 j (by omega)
/-! which line it is -/
noncomputable def kwF (f : Nat → Int32) (s e : Nat) (so : Int) : Int := if so = 1 then wd f s e else -4
noncomputable def lnA (f : Nat → Int32) (n s0 e0 : Nat) (a nc nt : Int) : lnT := if a = 4 then dayF f n s0 e0 0 else if a = 5 then tieF f n s0 e0 nt else clkF f n s0 e0 nc a
theorem kw_none {f : Nat → Int32} {n s e : Nat} {so nc nt dt : Int} (h : kwF f s e so = -4) : lineF f n s e so nc nt dt = lnB 2 s := by
  refine lineF_none ?_
  unfold kwF at h
  by_cases q : so = 1
  · rw [if_pos q] at h; exact Or.inr h
  · exact Or.inl q
theorem kw_some {f : Nat → Int32} {s e : Nat} {so : Int} (h : ¬ kwF f s e so = -4) : so = 1 ∧ wd f s e = kwF f s e so := by
  unfold kwF at h ⊢
  by_cases q : so = 1
  · rw [if_pos q]; exact ⟨q, rfl⟩
  · rw [if_neg q] at h; exact absurd rfl h
theorem kw_told {f : Nat → Int32} {n s e : Nat} {so nc nt dt : Int} (h : kwF f s e so = 4) (hd : ¬ dt = 0) : lineF f n s e so nc nt dt = lnB 4 s := by
  have k := kw_some (f := f) (s := s) (e := e) (so := so) (by omega)
  rw [lineF_day k.1 (by omega)]
  unfold dayF
  rw [if_pos hd]
theorem kw_full {f : Nat → Int32} {n s e : Nat} {so nc nt dt : Int} (h : ¬ kwF f s e so = -4) (hf : (kwF f s e so = 5 ∧ 10 ≤ nt) ∨ (¬ kwF f s e so = 5 ∧ ¬ kwF f s e so = 4 ∧ 4 ≤ nc)) : lineF f n s e so nc nt dt = lnB 5 s := by
  have k := kw_some h
  obtain q | q := hf
  · rw [lineF_tie k.1 (by omega)]
    unfold tieF
    rw [if_pos q.2]
  · rw [lineF_clk k.1 (by omega)]
    unfold clkF
    rw [if_pos q.2.2]
theorem kw_ok {f : Nat → Int32} {n s e : Nat} {so nc nt dt : Int} (h : ¬ kwF f s e so = -4) (hd : kwF f s e so = 4 → dt = 0) : lineF f n s e so nc nt dt = lnA f n s e (kwF f s e so) nc nt := by
  have k := kw_some h
  unfold lnA
  by_cases q : kwF f s e so = 4
  · rw [if_pos q, lineF_day k.1 (by omega), hd q]
  · by_cases q2 : kwF f s e so = 5
    · rw [if_neg q, if_pos q2, lineF_tie k.1 (by omega)]
    · rw [if_neg q, if_neg q2, lineF_clk k.1 (by omega), k.2]
/-- the first token behind the word is none -/
theorem lnA_no {f : Nat → Int32} {n s0 e0 : Nat} {a nc nt : Int} (h : ¬ tkO f n (tkS f n e0)) (hn : (a = 5 → nt < 10) ∧ (¬ a = 4 → ¬ a = 5 → nc < 4)) : lnA f n s0 e0 a nc nt = lnB 1 (tkS f n e0) := by
  unfold lnA
  by_cases q : a = 4
  · rw [if_pos q]
    unfold dayF
    rw [if_neg (fun q => q rfl)]
    unfold numF
    rw [if_pos h]
  · rw [if_neg q]
    by_cases q2 : a = 5
    · rw [if_pos q2]
      unfold tieF
      rw [if_neg (by have := hn.1 q2; omega)]
      unfold numF
      rw [if_pos h]
    · rw [if_neg q2]
      unfold clkF
      rw [if_neg (by have := hn.2 q q2; omega)]
      unfold stopF
      rw [if_pos h]
/-- what readLineOf() does: every word before it and its end -/
noncomputable def ofQ (f : Nat → Int32) (n : Nat) (a nc nt so va fr ps W x y z st k e v F2 W2 : Int) : Prop := ∀ s0 e0 : Nat, nxR f n e0 fr so ps va 0 W W → loQ f n (lnA f n s0 e0 a nc nt) a x y z st k e v F2 W2 W
theorem of_day {f : Nat → Int32} {n p : Nat} {a nc nt so va fr ps W r st k e v F2 W2 : Int} {K : Prop} (ha : a = 4) (hp : p = ps.toNat) (hb : nbQ f n p 0 W so va fr (0 ≤ va ∧ va ≤ 9) K r st k e v F2 W2) : ofQ f n a nc nt so va fr ps W r 0 0 st k e v F2 W2 := by
  intro s0 e0 h
  unfold lnA
  rw [if_pos ha, ha]
  exact lo_day h hp hb
theorem of_clk {f : Nat → Int32} {n : Nat} {a nc nt so va fr ps W : Int} (ha : ¬ a = 4 ∧ ¬ a = 5) (hn : nc < 4) : ofQ f n a nc nt so va fr ps W 0 0 0 fr so ps va 0 W := by
  intro s0 e0 h
  unfold lnA
  rw [if_neg ha.1, if_neg ha.2]
  exact lo_clk hn h
theorem nbQ_num {f : Nat → Int32} {n p q : Nat} {F W so va fr lo hi F1 W1 F3 W3 : Int} {K : Prop} {r st k e v F2 W2 : Int} (hl : lkQ F W so va fr lo hi F1 W1 r) (hn : nxQ f n q F3 st k e v F2 W2 W3) (h3 : F3 = F1) (w3 : W3 = W1) (hq : p = q) (hK : K) : nbQ f n p F W so va fr (lo ≤ va ∧ va ≤ hi) K r st k e v F2 W2 := by
  refine nbQ_mk hn hq ?_ (fun _ _ _ => hK)
  rw [h3, w3]
  obtain z | z | z | z := lk_to hl
  · exact Or.inl ⟨z.1, z.2.1, z.2.2.1⟩
  · exact Or.inr (Or.inl ⟨z.1, z.2.1, z.2.2.1, z.2.2.2.1⟩)
  · exact Or.inr (Or.inr (Or.inl ⟨z.1, z.2.1, z.2.2.1, z.2.2.2.1, z.2.2.2.2.1⟩))
  · exact Or.inr (Or.inr (Or.inr ⟨z.1, z.2.1, z.2.2.1, z.2.2.2.1, z.2.2.2.2.1, z.2.2.2.2.2⟩))
/-- it was refused already -/
theorem nbQ_A {f : Nat → Int32} {n p q : Nat} {F W so va fr lo hi F1 W1 F3 W3 : Int} {c K : Prop} {r st k e v F2 W2 : Int} (hl : lkQ F W so va fr lo hi F1 W1 r) (h1 : ¬ F1 = 0) (hn : nxQ f n q F3 st k e v F2 W2 W3) (h3 : F3 = F1) (w3 : W3 = W1) (hq : p = q) (hc : c → lo ≤ va ∧ va ≤ hi) : nbQ f n p F W so va fr c K r st k e v F2 W2 := by
  subst hq
  obtain y | y := hn
  · obtain z | z | z | z := lk_to hl
    · exact Or.inl ⟨z.1, by omega, by omega⟩
    · exact Or.inr ⟨z.1, Or.inl ⟨z.2.1, by omega, by omega⟩⟩
    · exact Or.inr ⟨z.1, Or.inr (Or.inl ⟨z.2.1, fun w => z.2.2.1 (hc w), by omega, by omega⟩)⟩
    · exact absurd z.2.2.2.1 h1
  · exact absurd (h3.symm.trans y.1) h1
/-- it is refused now -/
theorem nbQ_B {f : Nat → Int32} {n p q : Nat} {F W so va fr lo hi F1 W1 F3 W3 : Int} {c K : Prop} {r st k e v F2 W2 : Int} (hl : lkQ F W so va fr lo hi F1 W1 r) (h1 : F1 = 0) (hn : nxQ f n q F3 st k e v F2 W2 W3) (h3 : F3 = 3) (w3 : W3 = fr) (hq : p = q) (hc : r = va → ¬ c) : nbQ f n p F W so va fr c K r st k e v F2 W2 := by
  subst hq
  obtain y | y := hn
  · obtain z | z | z | z := lk_to hl
    · exact absurd (z.2.1.symm.trans h1) z.1
    · exact absurd (z.2.2.1.symm.trans h1) (by decide)
    · exact absurd (z.2.2.2.1.symm.trans h1) (by decide)
    · exact Or.inr ⟨z.1, Or.inr (Or.inl ⟨z.2.1, hc z.2.2.2.2.2, by omega, by omega⟩)⟩
  · exact absurd y.1 (by omega)
/-- it is taken -/
theorem nbQ_C {f : Nat → Int32} {n p q : Nat} {F W so va fr lo hi F1 W1 F3 W3 : Int} {c K : Prop} {r st k e v F2 W2 : Int} (hl : lkQ F W so va fr lo hi F1 W1 r) (h1 : F1 = 0) (hn : nxQ f n q F3 st k e v F2 W2 W3) (h3 : F3 = 0) (w3 : W3 = W1) (hq : p = q) (hc : r = va → lo ≤ va ∧ va ≤ hi → c) (hK : r = va → K) : nbQ f n p F W so va fr c K r st k e v F2 W2 := by
  subst hq
  obtain z | z | z | z := lk_to hl
  · exact absurd (z.2.1.symm.trans h1) z.1
  · exact absurd (z.2.2.1.symm.trans h1) (by decide)
  · exact absurd (z.2.2.2.1.symm.trans h1) (by decide)
  · obtain y | y := hn
    · exact absurd h3 y.1
    · refine Or.inr ⟨z.1, Or.inr (Or.inr ⟨z.2.1, hc z.2.2.2.2.2 z.2.2.1, hK z.2.2.2.2.2, z.2.2.2.2.2, ?_⟩)⟩
      have y2 := y.2
      rw [show W3 = W by omega] at y2
      exact y2
