/-- the store behind the constructors' own writes -/
def qt_h0 : qm_H := fun r => if r = 37 then (upd (upd (upd (upd (fun _ => 0) 0 (-4)) 1 (-4)) 2 (-4)) 3 (-4)) else if r = 48 then (upd (upd (upd (upd (fun _ => 0) 0 (-4)) 1 (-4)) 2 (-4)) 3 (-4)) else fun _ => 0
theorem qt_getD (f : Nat → Nat) {l : List Nat} {r : Nat} (h : l.length ≤ r) : l.getD r (f r) = f r := by
  rw [List.getD_eq_getElem?_getD, List.getElem?_eq_none h]; rfl
/-- the cells' addresses are no part of what the machine holds beside them -/
theorem qm_Env_ad {X : qm_X} {D : va_G} {ca : Nat → ClassId} {ad ad0 : qm_AD} {A : Nat → Prop} {U : State} (h : ∀ r : Nat, 51 ≤ r → ad.1 r = ad0.1 r) (h2 : ad.2 = ad0.2) (hE : qm_Env X D ca ad0 A U) : qm_Env X D ca ad A U := by
  have e1 : (fun i => ad.1 (110 + i)) = (fun i => ad0.1 (110 + i)) := funext fun i => h _ (by omega)
  have e2 : (fun i => ad.1 (120 + i)) = (fun i => ad0.1 (120 + i)) := funext fun i => h _ (by omega)
  obtain ⟨⟨a1, a2⟩, ⟨b1, b2, b3, b4⟩, ⟨c1, c2, c3⟩, ⟨d1, d2⟩, f⟩ := hE
  refine ⟨⟨a1, by rw [h2]; exact a2⟩, ⟨by rw [h 100 (by decide)]; exact b1, by rw [h 101 (by decide)]; exact b2, b3, by rw [h2]; exact b4⟩, ⟨by rw [h 100 (by decide)]; exact c1, by rw [h 101 (by decide)]; exact c2, by rw [h 130 (by decide)]; exact c3⟩, ⟨by rw [e1, e2]; exact d1, fun i hi => ?_⟩, f⟩
  rw [h (110 + i) (by omega)]; exact d2 i hi
set_option maxHeartbeats 4000000 in
theorem qt_call143 {X : qm_X} {p : Program} {l : Launch} {e : Env} {R : Room} {s : State} {m : MethodId} {args : Array Value} {below : List Frame} {meth : Method} {c : Code} {H : Heap} {locs : List Loc} {cells slots : Nat} {Q : State → Prop} {cc : ByteArray} {nL pc index h39 : Nat} {ls : Array Slot} {lv : List (Nat × Value)} {D : va_G} {ca : Nat → ClassId} {ad : qm_AD} {A : Nat → Prop} {hs : qm_H} {own : String}
    (hx : p.tables.exec = Jvm.exec) (hb : c.code = cc) (hml : c.maxLocals = nL) (hown : s.vm.findClass own = some m.cls) (hts : ∀ w ∈ qm_tbl, w.before args s = true) (hE : qm_Env X D ca ad A s) (hP : va_P D vwCl (qm_w ad ca hs) H) (hD : va_D A (qm_w ad ca hs)) (hS : va_S A s.heap H locs) (hA : ∀ q, s.heap.size ≤ q → A q) (hl : lv_has ls nL lv) (h39q : ad.1 39 = h39)
    (hfr : 1 ≤ R.frames) (hlo : 21 ≤ R.locals) (hcel : cells ≤ R.cells) (hslo : slots ≤ R.slots) (hlk : (Cond.methodLink own index (qm_y 143)).before args s = true) (hd : decode cc pc = .ok (.invokevirtual index, 3))
    (kk : ∀ (H1 : Heap) (locs1 : List Loc), va_P D vwCl (qm_w ad ca (S143 hs)) H1 → va_S A s.heap H1 locs1 → W p l e R s m args below meth c H1 locs1 cells slots Q (F0 m (pc + 3) ls [])) : W p l e R s m args below meth c H locs cells slots Q (F0 m pc ls [.ref h39]) := by
  subst h39q
  obtain ⟨⟨hcd, hini⟩, -, hinst, hy, -, -⟩ := qm_mw (a := 143) (by decide) (by decide)
  obtain ⟨hi1, hi2, -⟩ := hinst (by decide +kernel)
  have hF := qm_w_free hD hS hA
  have hMet := qm_met (X := X) (mid := 143) (as := [.ref 39]) (h := hs) (Q := fun r h' => r = none ∧ h' = S143 hs) (by decide) (by decide) (by decide +kernel) (ex_143 X hs _ ⟨rfl, rfl⟩) l D ca ad H.size
  have hcell : ∃ cell : Cell, H[ad.1 39]? = some cell ∧ cell.vm.isStatics = false ∧ s.vm.findClass RX5 = some cell.cls := va_recv (ci := 5) (q := (RX5, TX5, 26)) hE.1.1 hP rfl (qm_w_at (r := 39) rfl)
  have hrun := va_runV (e := e) (below := below) (meth := meth) (Ts := qm_tbl) (n := 0) (C := (qm_y 143).cls) (b := ad.1 39) (As := []) (rest := []) (g := F0 m pc ls [.ref (ad.1 39)]) (cells := cells) (slots := slots) (locs := locs) (H := H) ⟨hx, hb, hml, hown, hts⟩ hMet
    ⟨callB_of (ws' := qm_tbl) 0 hts (qm_goodW hcd) rfl rfl rfl (hts _ hini) hlk ⟨hy.1, hy.2.1, hy.2.2⟩ ⟨Nat.le_trans (by decide +kernel) hfr, Nat.le_trans (by decide +kernel) hlo⟩, hts _ hi1, hts _ hi2⟩
    ⟨qm_Pc_blind, hcell, fun U hU hW => qm_Pc_go (as := [.ref 39]) hE hP hD hS hF U hU hW⟩ rfl rfl hl.1 rfl (lv_room (by decide)) hd ⟨hcel, hslo⟩
  refine qm_behind hrun hS (fun q _ hq => hF q hq) hF (fun r h' H1 locs1 kq hP1 hS1 => ?_)
  obtain ⟨rfl, rfl⟩ := kq
  exact kk H1 locs1 hP1 hS1
set_option maxHeartbeats 4000000 in
theorem qt_call144 {X : qm_X} {p : Program} {l : Launch} {e : Env} {R : Room} {s : State} {m : MethodId} {args : Array Value} {below : List Frame} {meth : Method} {c : Code} {H : Heap} {locs : List Loc} {cells slots : Nat} {Q : State → Prop} {cc : ByteArray} {nL pc index h39 : Nat} {ls : Array Slot} {lv : List (Nat × Value)} {D : va_G} {ca : Nat → ClassId} {ad : qm_AD} {A : Nat → Prop} {hs : qm_H} {own : String}
    (hx : p.tables.exec = Jvm.exec) (hb : c.code = cc) (hml : c.maxLocals = nL) (hown : s.vm.findClass own = some m.cls) (hts : ∀ w ∈ qm_tbl, w.before args s = true) (hE : qm_Env X D ca ad A s) (hP : va_P D vwCl (qm_w ad ca hs) H) (hD : va_D A (qm_w ad ca hs)) (hS : va_S A s.heap H locs) (hA : ∀ q, s.heap.size ≤ q → A q) (hl : lv_has ls nL lv) (h39q : ad.1 39 = h39)
    (hfr : 1 ≤ R.frames) (hlo : 21 ≤ R.locals) (hcel : cells ≤ R.cells) (hslo : slots ≤ R.slots) (hlk : (Cond.methodLink own index (qm_y 144)).before args s = true) (hd : decode cc pc = .ok (.invokevirtual index, 3))
    (kk : ∀ (H1 : Heap) (locs1 : List Loc), va_P D vwCl (qm_w ad ca (S144 hs)) H1 → va_S A s.heap H1 locs1 → W p l e R s m args below meth c H1 locs1 cells slots Q (F0 m (pc + 3) ls [])) : W p l e R s m args below meth c H locs cells slots Q (F0 m pc ls [.ref h39]) := by
  subst h39q
  obtain ⟨⟨hcd, hini⟩, -, hinst, hy, -, -⟩ := qm_mw (a := 144) (by decide) (by decide)
  obtain ⟨hi1, hi2, -⟩ := hinst (by decide +kernel)
  have hF := qm_w_free hD hS hA
  have hMet := qm_met (X := X) (mid := 144) (as := [.ref 39]) (h := hs) (Q := fun r h' => r = none ∧ h' = S144 hs) (by decide) (by decide) (by decide +kernel) (ex_144 X hs _ ⟨rfl, rfl⟩) l D ca ad H.size
  have hcell : ∃ cell : Cell, H[ad.1 39]? = some cell ∧ cell.vm.isStatics = false ∧ s.vm.findClass RX5 = some cell.cls := va_recv (ci := 5) (q := (RX5, TX5, 26)) hE.1.1 hP rfl (qm_w_at (r := 39) rfl)
  have hrun := va_runV (e := e) (below := below) (meth := meth) (Ts := qm_tbl) (n := 0) (C := (qm_y 144).cls) (b := ad.1 39) (As := []) (rest := []) (g := F0 m pc ls [.ref (ad.1 39)]) (cells := cells) (slots := slots) (locs := locs) (H := H) ⟨hx, hb, hml, hown, hts⟩ hMet
    ⟨callB_of (ws' := qm_tbl) 0 hts (qm_goodW hcd) rfl rfl rfl (hts _ hini) hlk ⟨hy.1, hy.2.1, hy.2.2⟩ ⟨Nat.le_trans (by decide +kernel) hfr, Nat.le_trans (by decide +kernel) hlo⟩, hts _ hi1, hts _ hi2⟩
    ⟨qm_Pc_blind, hcell, fun U hU hW => qm_Pc_go (as := [.ref 39]) hE hP hD hS hF U hU hW⟩ rfl rfl hl.1 rfl (lv_room (by decide)) hd ⟨hcel, hslo⟩
  refine qm_behind hrun hS (fun q _ hq => hF q hq) hF (fun r h' H1 locs1 kq hP1 hS1 => ?_)
  obtain ⟨rfl, rfl⟩ := kq
  exact kk H1 locs1 hP1 hS1
