/-- the store behind the constructors' own writes -/
noncomputable def qt_h0 : qm_H := fun r => if r = 37 then (upd (upd (upd (upd (fun _ => 0) 0 (-4)) 1 (-4)) 2 (-4)) 3 (-4)) else if r = 48 then (upd (upd (upd (upd (fun _ => 0) 0 (-4)) 1 (-4)) 2 (-4)) 3 (-4)) else fun _ => 0
theorem qt_getD (f : Nat → Nat) {l : List Nat} {r : Nat} (h : l.length ≤ r) : l.getD r (f r) = f r := by
  rw [List.getD_eq_getElem?_getD, List.getElem?_eq_none h]; rfl
/-- the cells' addresses are no part of what the machine holds beside them -/
theorem qm_Env_ad {X : qm_X} {D : va_G} {ca : Nat → ClassId} {ad ad0 : qm_AD} {A : Nat → Prop} {U : State} (h : ∀ r : Nat, 51 ≤ r → ad.1 r = ad0.1 r) (h2 : ad.2 = ad0.2) (hE : qm_Env X D ca ad0 A U) : qm_Env X D ca ad A U := by
  have e1 : (fun i => ad.1 (110 + i)) = (fun i => ad0.1 (110 + i)) := funext fun i => h _ (by omega)
  have e2 : (fun i => ad.1 (120 + i)) = (fun i => ad0.1 (120 + i)) := funext fun i => h _ (by omega)
  obtain ⟨⟨a1, a2⟩, ⟨b1, b2, b3, b4⟩, ⟨c1, c2, c3⟩, ⟨d1, d2⟩, f⟩ := hE
  refine ⟨⟨a1, by rw [h2]; exact a2⟩, ⟨by rw [h 100 (by decide)]; exact b1, by rw [h 101 (by decide)]; exact b2, b3, by rw [h2]; exact b4⟩, ⟨by rw [h 100 (by decide)]; exact c1, by rw [h 101 (by decide)]; exact c2, by rw [h 130 (by decide)]; exact c3⟩, ⟨by rw [e1, e2]; exact d1, fun i hi => ?_⟩, f⟩
  rw [h (110 + i) (by omega)]; exact d2 i hi
/-- an object's fields, one by one -/
noncomputable def qf (ad : qm_AD) (h : qm_H) (r : Nat) : Nat → List (Option Nat) → List Value
  | _, [] => []
  | k, o :: t => qm_fv ad h r k o :: qf ad h r (k + 1) t
theorem qf_get (ad : qm_AD) (h : qm_H) (r : Nat) : ∀ (rs : List (Option Nat)) (k i : Nat), (qf ad h r k rs)[i]? = rs[i]?.map (qm_fv ad h r (k + i))
  | [], _, _ => rfl
  | o :: t, k, 0 => rfl
  | o :: t, k, i + 1 => by
    show (qf ad h r (k + 1) t)[i]? = t[i]?.map (qm_fv ad h r (k + (i + 1)))
    rw [qf_get ad h r t (k + 1) i, show k + 1 + i = k + (i + 1) by omega]
theorem qm_fs_eq {ad : qm_AD} {h : qm_H} {r : Nat} {rs : List (Option Nat)} : qm_fs ad h r rs = qf ad h r 0 rs := by
  apply List.ext_getElem?
  intro i
  unfold qm_fs
  rw [List.getElem?_mapIdx, qf_get, Nat.zero_add]
theorem qt_o {ad : qm_AD} {ca : Nat → ClassId} {h : qm_H} {r ci a : Nat} {rs : List (Option Nat)} {fs : List Value} (ha : a = ad.1 r) (hf : fs = qf ad h r 0 rs) : (some (a, .inr (ci, fs)) : Option (Nat × va_E)) = some (ad.1 r, qm_ce ad ca h r (.inr (ci, rs))) := by
  subst ha
  rw [hf, ← qm_fs_eq]
  rfl
theorem qt_a {ad : qm_AD} {ca : Nat → ClassId} {h : qm_H} {r t n a : Nat} {f : Nat → Int32} (ha : a = ad.1 r) (hf : f = h r) : (some (a, .inl (ca t, n, .inl f)) : Option (Nat × va_E)) = some (ad.1 r, qm_ce ad ca h r (.inl (t, n))) := by
  subst ha
  rw [hf]
  rfl
theorem qt_toP {D : va_G} {ad : qm_AD} {ca : Nat → ClassId} {h : qm_H} {ws : va_W} {H : Heap} (E : ∀ (r : Nat) (c : qm_T), qm_sh[r]? = some c → ws[r]? = some (ad.1 r, qm_ce ad ca h r c)) (hP : va_P D vwCl ws H) : va_P D vwCl (qm_w ad ca h) H := by
  intro i q hq
  unfold qm_w at hq
  rw [List.getElem?_mapIdx] at hq
  cases hc : qm_sh[i]? with
  | none => rw [hc] at hq; cases hq
  | some c => rw [hc] at hq; cases hq; exact hP i _ (E i c hc)
theorem qt_toD {ad : qm_AD} {ca : Nat → ClassId} {h : qm_H} {ws : va_W} {A : Nat → Prop} (E : ∀ (r : Nat) (c : qm_T), qm_sh[r]? = some c → ws[r]? = some (ad.1 r, qm_ce ad ca h r c)) (hD : va_D A ws) : va_D A (qm_w ad ca h) := by
  have key : ∀ (i : Nat) (q : Nat × va_E), (qm_w ad ca h)[i]? = some q → ws[i]? = some q := by
    intro i q hq
    unfold qm_w at hq
    rw [List.getElem?_mapIdx] at hq
    cases hc : qm_sh[i]? with
    | none => rw [hc] at hq; cases hq
    | some c => rw [hc] at hq; cases hq; exact E i c hc
  exact ⟨fun i j p q hp hq => hD.1 i j p q (key i p hp) (key j q hq), fun k q hk => hD.2 k q (key k q hk)⟩
noncomputable abbrev qt_AD (ad0 : qm_AD) (l : List Nat) : qm_AD := ((fun r => l.getD r (ad0.1 r)), ad0.2)
set_option maxHeartbeats 4000000 in
set_option maxRecDepth 100000 in
theorem qt_all (ca : Nat → ClassId) (ad0 : qm_AD) (a0 a1 a2 a3 a4 a5 a6 a7 a8 a9 a10 a11 a12 a13 a14 a15 a16 a17 a18 a19 a20 a21 a22 a23 a24 a25 a26 a27 a28 a29 a30 a31 a32 a33 a34 a35 a36 a37 a38 a39 a40 a41 a42 a43 a44 a45 a46 a47 a48 a49 a50 : Nat) : ∀ (r : Nat) (c : qm_T), qm_sh[r]? = some c → ([(a0, .inr (4, [.ref a1, .ref a8, .ref a15, .ref a22, .ref a23, .ref a32, .ref a34, .ref a38, .int 0])), (a1, .inr (1, [.ref a2, .ref a3, .ref a4, .ref a5, .ref a6, .ref a7, .int 0, .int 0, .int 0, .int 0])), (a2, .inl (ca 0, 4, .inl (fun _ => 0))), (a3, .inl (ca 0, 10, .inl (fun _ => 0))), (a4, .inl (ca 0, 10, .inl (fun _ => 0))), (a5, .inl (ca 0, 10, .inl (fun _ => 0))), (a6, .inl (ca 0, 6, .inl (fun _ => 0))), (a7, .inl (ca 0, 6, .inl (fun _ => 0))), (a8, .inr (1, [.ref a9, .ref a10, .ref a11, .ref a12, .ref a13, .ref a14, .int 0, .int 0, .int 0, .int 0])), (a9, .inl (ca 0, 4, .inl (fun _ => 0))), (a10, .inl (ca 0, 10, .inl (fun _ => 0))), (a11, .inl (ca 0, 10, .inl (fun _ => 0))), (a12, .inl (ca 0, 10, .inl (fun _ => 0))), (a13, .inl (ca 0, 6, .inl (fun _ => 0))), (a14, .inl (ca 0, 6, .inl (fun _ => 0))), (a15, .inr (1, [.ref a16, .ref a17, .ref a18, .ref a19, .ref a20, .ref a21, .int 0, .int 0, .int 0, .int 0])), (a16, .inl (ca 0, 4, .inl (fun _ => 0))), (a17, .inl (ca 0, 10, .inl (fun _ => 0))), (a18, .inl (ca 0, 10, .inl (fun _ => 0))), (a19, .inl (ca 0, 10, .inl (fun _ => 0))), (a20, .inl (ca 0, 6, .inl (fun _ => 0))), (a21, .inl (ca 0, 6, .inl (fun _ => 0))), (a22, .inl (ca 2, 2, .inl (fun _ => 0))), (a23, .inr (3, [.ref a24, .ref a25, .int 0, .int 0, .int 0, .int 0, .int 0, .int 0, .int 0, .int 0, .int 0])), (a24, .inl (ca 1, 160, .inl (fun _ => 0))), (a25, .inr (1, [.ref a26, .ref a27, .ref a28, .ref a29, .ref a30, .ref a31, .int 0, .int 0, .int 0, .int 0])), (a26, .inl (ca 0, 4, .inl (fun _ => 0))), (a27, .inl (ca 0, 10, .inl (fun _ => 0))), (a28, .inl (ca 0, 10, .inl (fun _ => 0))), (a29, .inl (ca 0, 10, .inl (fun _ => 0))), (a30, .inl (ca 0, 6, .inl (fun _ => 0))), (a31, .inl (ca 0, 6, .inl (fun _ => 0))), (a32, .inr (0, [.ref a33, .int 0, .int 0])), (a33, .inl (ca 0, 16, .inl (fun _ => 0))), (a34, .inr (2, [.ref a35, .ref a36, .ref a37])), (a35, .inl (ca 0, 160, .inl (fun _ => 0))), (a36, .inl (ca 0, 4, .inl (fun _ => 0))), (a37, .inl (ca 0, 4, .inl (upd (upd (upd (upd (fun _ => 0) 0 (-4)) 1 (-4)) 2 (-4)) 3 (-4)))), (a38, .inl (ca 0, 10, .inl (fun _ => 0))), (a39, .inr (5, [.ref a40, .ref a41, .ref a42, .int 0, .ref a43, .int 0, .int 0, .int 0, .ref a44, .int 0, .int 0, .int 0, .int 0, .int 0, .int 0, .int 0, .ref a45, .ref a46, .int 0, .int 0, .int 0, .ref a47, .ref a48, .ref a49, .ref a50, .int 0])), (a40, .inl (ca 0, 147, .inl (fun _ => 0))), (a41, .inl (ca 0, 49, .inl (fun _ => 0))), (a42, .inl (ca 2, 2, .inl (fun _ => 0))), (a43, .inl (ca 0, 49, .inl (fun _ => 0))), (a44, .inl (ca 0, 160, .inl (fun _ => 0))), (a45, .inl (ca 0, 16, .inl (fun _ => 0))), (a46, .inl (ca 0, 4, .inl (fun _ => 0))), (a47, .inl (ca 0, 16, .inl (fun _ => 0))), (a48, .inl (ca 0, 4, .inl (upd (upd (upd (upd (fun _ => 0) 0 (-4)) 1 (-4)) 2 (-4)) 3 (-4)))), (a49, .inl (ca 0, 4, .inl (fun _ => 0))), (a50, .inl (ca 0, 160, .inl (fun _ => 0)))] : va_W)[r]? = some ((qt_AD ad0 [a0, a1, a2, a3, a4, a5, a6, a7, a8, a9, a10, a11, a12, a13, a14, a15, a16, a17, a18, a19, a20, a21, a22, a23, a24, a25, a26, a27, a28, a29, a30, a31, a32, a33, a34, a35, a36, a37, a38, a39, a40, a41, a42, a43, a44, a45, a46, a47, a48, a49, a50]).1 r, qm_ce (qt_AD ad0 [a0, a1, a2, a3, a4, a5, a6, a7, a8, a9, a10, a11, a12, a13, a14, a15, a16, a17, a18, a19, a20, a21, a22, a23, a24, a25, a26, a27, a28, a29, a30, a31, a32, a33, a34, a35, a36, a37, a38, a39, a40, a41, a42, a43, a44, a45, a46, a47, a48, a49, a50]) ca qt_h0 r c) := by
  intro r c hc
  match r, hc with
  | 0, hc => obtain rfl : (.inr (4, [some 1, some 8, some 15, some 22, some 23, some 32, some 34, some 38, none]) : qm_T) = c := Option.some.inj hc; exact qt_o rfl rfl
  | 1, hc => obtain rfl : (.inr (1, [some 2, some 3, some 4, some 5, some 6, some 7, none, none, none, none]) : qm_T) = c := Option.some.inj hc; exact qt_o rfl rfl
  | 2, hc => obtain rfl : (.inl (0, 4) : qm_T) = c := Option.some.inj hc; exact qt_a rfl rfl
  | 3, hc => obtain rfl : (.inl (0, 10) : qm_T) = c := Option.some.inj hc; exact qt_a rfl rfl
  | 4, hc => obtain rfl : (.inl (0, 10) : qm_T) = c := Option.some.inj hc; exact qt_a rfl rfl
  | 5, hc => obtain rfl : (.inl (0, 10) : qm_T) = c := Option.some.inj hc; exact qt_a rfl rfl
  | 6, hc => obtain rfl : (.inl (0, 6) : qm_T) = c := Option.some.inj hc; exact qt_a rfl rfl
  | 7, hc => obtain rfl : (.inl (0, 6) : qm_T) = c := Option.some.inj hc; exact qt_a rfl rfl
  | 8, hc => obtain rfl : (.inr (1, [some 9, some 10, some 11, some 12, some 13, some 14, none, none, none, none]) : qm_T) = c := Option.some.inj hc; exact qt_o rfl rfl
  | 9, hc => obtain rfl : (.inl (0, 4) : qm_T) = c := Option.some.inj hc; exact qt_a rfl rfl
  | 10, hc => obtain rfl : (.inl (0, 10) : qm_T) = c := Option.some.inj hc; exact qt_a rfl rfl
  | 11, hc => obtain rfl : (.inl (0, 10) : qm_T) = c := Option.some.inj hc; exact qt_a rfl rfl
  | 12, hc => obtain rfl : (.inl (0, 10) : qm_T) = c := Option.some.inj hc; exact qt_a rfl rfl
  | 13, hc => obtain rfl : (.inl (0, 6) : qm_T) = c := Option.some.inj hc; exact qt_a rfl rfl
  | 14, hc => obtain rfl : (.inl (0, 6) : qm_T) = c := Option.some.inj hc; exact qt_a rfl rfl
  | 15, hc => obtain rfl : (.inr (1, [some 16, some 17, some 18, some 19, some 20, some 21, none, none, none, none]) : qm_T) = c := Option.some.inj hc; exact qt_o rfl rfl
  | 16, hc => obtain rfl : (.inl (0, 4) : qm_T) = c := Option.some.inj hc; exact qt_a rfl rfl
  | 17, hc => obtain rfl : (.inl (0, 10) : qm_T) = c := Option.some.inj hc; exact qt_a rfl rfl
  | 18, hc => obtain rfl : (.inl (0, 10) : qm_T) = c := Option.some.inj hc; exact qt_a rfl rfl
  | 19, hc => obtain rfl : (.inl (0, 10) : qm_T) = c := Option.some.inj hc; exact qt_a rfl rfl
  | 20, hc => obtain rfl : (.inl (0, 6) : qm_T) = c := Option.some.inj hc; exact qt_a rfl rfl
  | 21, hc => obtain rfl : (.inl (0, 6) : qm_T) = c := Option.some.inj hc; exact qt_a rfl rfl
  | 22, hc => obtain rfl : (.inl (2, 2) : qm_T) = c := Option.some.inj hc; exact qt_a rfl rfl
  | 23, hc => obtain rfl : (.inr (3, [some 24, some 25, none, none, none, none, none, none, none, none, none]) : qm_T) = c := Option.some.inj hc; exact qt_o rfl rfl
  | 24, hc => obtain rfl : (.inl (1, 160) : qm_T) = c := Option.some.inj hc; exact qt_a rfl rfl
  | 25, hc => obtain rfl : (.inr (1, [some 26, some 27, some 28, some 29, some 30, some 31, none, none, none, none]) : qm_T) = c := Option.some.inj hc; exact qt_o rfl rfl
  | 26, hc => obtain rfl : (.inl (0, 4) : qm_T) = c := Option.some.inj hc; exact qt_a rfl rfl
  | 27, hc => obtain rfl : (.inl (0, 10) : qm_T) = c := Option.some.inj hc; exact qt_a rfl rfl
  | 28, hc => obtain rfl : (.inl (0, 10) : qm_T) = c := Option.some.inj hc; exact qt_a rfl rfl
  | 29, hc => obtain rfl : (.inl (0, 10) : qm_T) = c := Option.some.inj hc; exact qt_a rfl rfl
  | 30, hc => obtain rfl : (.inl (0, 6) : qm_T) = c := Option.some.inj hc; exact qt_a rfl rfl
  | 31, hc => obtain rfl : (.inl (0, 6) : qm_T) = c := Option.some.inj hc; exact qt_a rfl rfl
  | 32, hc => obtain rfl : (.inr (0, [some 33, none, none]) : qm_T) = c := Option.some.inj hc; exact qt_o rfl rfl
  | 33, hc => obtain rfl : (.inl (0, 16) : qm_T) = c := Option.some.inj hc; exact qt_a rfl rfl
  | 34, hc => obtain rfl : (.inr (2, [some 35, some 36, some 37]) : qm_T) = c := Option.some.inj hc; exact qt_o rfl rfl
  | 35, hc => obtain rfl : (.inl (0, 160) : qm_T) = c := Option.some.inj hc; exact qt_a rfl rfl
  | 36, hc => obtain rfl : (.inl (0, 4) : qm_T) = c := Option.some.inj hc; exact qt_a rfl rfl
  | 37, hc => obtain rfl : (.inl (0, 4) : qm_T) = c := Option.some.inj hc; exact qt_a rfl rfl
  | 38, hc => obtain rfl : (.inl (0, 10) : qm_T) = c := Option.some.inj hc; exact qt_a rfl rfl
  | 39, hc => obtain rfl : (.inr (5, [some 40, some 41, some 42, none, some 43, none, none, none, some 44, none, none, none, none, none, none, none, some 45, some 46, none, none, none, some 47, some 48, some 49, some 50, none]) : qm_T) = c := Option.some.inj hc; exact qt_o rfl rfl
  | 40, hc => obtain rfl : (.inl (0, 147) : qm_T) = c := Option.some.inj hc; exact qt_a rfl rfl
  | 41, hc => obtain rfl : (.inl (0, 49) : qm_T) = c := Option.some.inj hc; exact qt_a rfl rfl
  | 42, hc => obtain rfl : (.inl (2, 2) : qm_T) = c := Option.some.inj hc; exact qt_a rfl rfl
  | 43, hc => obtain rfl : (.inl (0, 49) : qm_T) = c := Option.some.inj hc; exact qt_a rfl rfl
  | 44, hc => obtain rfl : (.inl (0, 160) : qm_T) = c := Option.some.inj hc; exact qt_a rfl rfl
  | 45, hc => obtain rfl : (.inl (0, 16) : qm_T) = c := Option.some.inj hc; exact qt_a rfl rfl
  | 46, hc => obtain rfl : (.inl (0, 4) : qm_T) = c := Option.some.inj hc; exact qt_a rfl rfl
  | 47, hc => obtain rfl : (.inl (0, 16) : qm_T) = c := Option.some.inj hc; exact qt_a rfl rfl
  | 48, hc => obtain rfl : (.inl (0, 4) : qm_T) = c := Option.some.inj hc; exact qt_a rfl rfl
  | 49, hc => obtain rfl : (.inl (0, 4) : qm_T) = c := Option.some.inj hc; exact qt_a rfl rfl
  | 50, hc => obtain rfl : (.inl (0, 160) : qm_T) = c := Option.some.inj hc; exact qt_a rfl rfl
  | r + 51, hc => exact absurd hc (by simp [qm_sh])
set_option maxHeartbeats 4000000 in
theorem qt_call143 {X : qm_X} {p : Program} {l : Launch} {e : Env} {R : Room} {s : State} {m : MethodId} {args : Array Value} {below : List Frame} {meth : Method} {c : Code} {H : Heap} {locs : List Loc} {cells slots : Nat} {Q : State → Prop} {cc : ByteArray} {nL pc index h39 : Nat} {ls : Array Slot} {lv : List (Nat × Value)} {D : va_G} {ca : Nat → ClassId} {ad : qm_AD} {A : Nat → Prop} {hs : qm_H} {own : String}
    (hx : p.tables.exec = Jvm.exec) (hb : c.code = cc) (hml : c.maxLocals = nL) (hown : s.vm.findClass own = some m.cls) (hts : ∀ w ∈ qm_tbl, w.before args s = true) (hE : qm_Env X D ca ad A s) (hP : va_P D vwCl (qm_w ad ca hs) H) (hD : va_D A (qm_w ad ca hs)) (hS : va_S A s.heap H locs) (hA : ∀ q, s.heap.size ≤ q → A q) (hl : lv_has ls nL lv) (h39q : ad.1 39 = h39)
    (hfr : 1 ≤ R.frames) (hlo : 21 ≤ R.locals) (hcel : cells ≤ R.cells) (hslo : slots ≤ R.slots) (hlk : (Cond.methodLink own index (qm_y 143)).before args s = true) (hd : decode cc pc = .ok (.invokevirtual index, 3))
    (kk : ∀ (H1 : Heap) (locs1 : List Loc), va_P D vwCl (qm_w ad ca (S143 hs)) H1 → va_S A s.heap H1 locs1 → W p l e R s m args below meth c H1 locs1 cells slots Q (F0 m (pc + 3) ls [])) : W p l e R s m args below meth c H locs cells slots Q (F0 m pc ls [.ref h39]) := by
  subst h39q
  obtain ⟨⟨hcd, hini⟩, -, hinst, hy, -, -⟩ := qm_mw (a := 143) (by decide) (by decide)
  obtain ⟨hi1, hi2, -⟩ := hinst (by decide +kernel)
  have hF := qm_w_free hD hS hA
  have hMet := qm_met (X := X) (mid := 143) (as := [.ref 39]) (h := hs) (Q := fun r h' => r = none ∧ h' = S143 hs) (by decide) (by decide) (by decide +kernel) (ex_143 X hs _ ⟨rfl, rfl⟩) l D ca ad H.size
  have hcell : ∃ cell : Cell, H[ad.1 39]? = some cell ∧ cell.vm.isStatics = false ∧ s.vm.findClass RX5 = some cell.cls := va_recv (ci := 5) (q := (RX5, TX5, 26)) hE.1.1 hP rfl (qm_w_at (r := 39) rfl)
  have hrun := va_runV (e := e) (below := below) (meth := meth) (Ts := qm_tbl) (n := 0) (C := (qm_y 143).cls) (b := ad.1 39) (As := []) (rest := []) (g := F0 m pc ls [.ref (ad.1 39)]) (cells := cells) (slots := slots) (locs := locs) (H := H) ⟨hx, hb, hml, hown, hts⟩ hMet
    ⟨callB_of (ws' := qm_tbl) 0 hts (qm_goodW hcd) rfl rfl rfl (hts _ hini) hlk ⟨hy.1, hy.2.1, hy.2.2⟩ ⟨Nat.le_trans (by decide +kernel) hfr, Nat.le_trans (by decide +kernel) hlo⟩, hts _ hi1, hts _ hi2⟩
    ⟨qm_Pc_blind, hcell, fun U hU hW => qm_Pc_go (as := [.ref 39]) hE hP hD hS hF U hU hW⟩ rfl rfl hl.1 rfl (lv_room (Nat.le_of_ble_eq_true rfl)) hd ⟨hcel, hslo⟩
  refine qm_behind hrun hS (fun q _ hq => hF q hq) hF (fun r h' H1 locs1 kq hP1 hS1 => ?_)
  obtain ⟨rfl, rfl⟩ := kq
  exact kk H1 locs1 hP1 hS1
set_option maxHeartbeats 4000000 in
theorem qt_call144 {X : qm_X} {p : Program} {l : Launch} {e : Env} {R : Room} {s : State} {m : MethodId} {args : Array Value} {below : List Frame} {meth : Method} {c : Code} {H : Heap} {locs : List Loc} {cells slots : Nat} {Q : State → Prop} {cc : ByteArray} {nL pc index h39 : Nat} {ls : Array Slot} {lv : List (Nat × Value)} {D : va_G} {ca : Nat → ClassId} {ad : qm_AD} {A : Nat → Prop} {hs : qm_H} {own : String}
    (hx : p.tables.exec = Jvm.exec) (hb : c.code = cc) (hml : c.maxLocals = nL) (hown : s.vm.findClass own = some m.cls) (hts : ∀ w ∈ qm_tbl, w.before args s = true) (hE : qm_Env X D ca ad A s) (hP : va_P D vwCl (qm_w ad ca hs) H) (hD : va_D A (qm_w ad ca hs)) (hS : va_S A s.heap H locs) (hA : ∀ q, s.heap.size ≤ q → A q) (hl : lv_has ls nL lv) (h39q : ad.1 39 = h39)
    (hfr : 1 ≤ R.frames) (hlo : 21 ≤ R.locals) (hcel : cells ≤ R.cells) (hslo : slots ≤ R.slots) (hlk : (Cond.methodLink own index (qm_y 144)).before args s = true) (hd : decode cc pc = .ok (.invokevirtual index, 3))
    (kk : ∀ (H1 : Heap) (locs1 : List Loc), va_P D vwCl (qm_w ad ca (S144 hs)) H1 → va_S A s.heap H1 locs1 → W p l e R s m args below meth c H1 locs1 cells slots Q (F0 m (pc + 3) ls [])) : W p l e R s m args below meth c H locs cells slots Q (F0 m pc ls [.ref h39]) := by
  subst h39q
  obtain ⟨⟨hcd, hini⟩, -, hinst, hy, -, -⟩ := qm_mw (a := 144) (by decide) (by decide)
  obtain ⟨hi1, hi2, -⟩ := hinst (by decide +kernel)
  have hF := qm_w_free hD hS hA
  have hMet := qm_met (X := X) (mid := 144) (as := [.ref 39]) (h := hs) (Q := fun r h' => r = none ∧ h' = S144 hs) (by decide) (by decide) (by decide +kernel) (ex_144 X hs _ ⟨rfl, rfl⟩) l D ca ad H.size
  have hcell : ∃ cell : Cell, H[ad.1 39]? = some cell ∧ cell.vm.isStatics = false ∧ s.vm.findClass RX5 = some cell.cls := va_recv (ci := 5) (q := (RX5, TX5, 26)) hE.1.1 hP rfl (qm_w_at (r := 39) rfl)
  have hrun := va_runV (e := e) (below := below) (meth := meth) (Ts := qm_tbl) (n := 0) (C := (qm_y 144).cls) (b := ad.1 39) (As := []) (rest := []) (g := F0 m pc ls [.ref (ad.1 39)]) (cells := cells) (slots := slots) (locs := locs) (H := H) ⟨hx, hb, hml, hown, hts⟩ hMet
    ⟨callB_of (ws' := qm_tbl) 0 hts (qm_goodW hcd) rfl rfl rfl (hts _ hini) hlk ⟨hy.1, hy.2.1, hy.2.2⟩ ⟨Nat.le_trans (by decide +kernel) hfr, Nat.le_trans (by decide +kernel) hlo⟩, hts _ hi1, hts _ hi2⟩
    ⟨qm_Pc_blind, hcell, fun U hU hW => qm_Pc_go (as := [.ref 39]) hE hP hD hS hF U hU hW⟩ rfl rfl hl.1 rfl (lv_room (Nat.le_of_ble_eq_true rfl)) hd ⟨hcel, hslo⟩
  refine qm_behind hrun hS (fun q _ hq => hF q hq) hF (fun r h' H1 locs1 kq hP1 hS1 => ?_)
  obtain ⟨rfl, rfl⟩ := kq
  exact kk H1 locs1 hP1 hS1
