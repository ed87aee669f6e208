/-! finger -/
noncomputable def qFinger (a b : Int) (M : Mem) : Int := if ¬ ((0 ≤ a ∧ a / 10 < (clM M).toInt ∧ a % 10 < 5) ∧ 0 ≤ b ∧ b ≤ 1) then -1 else if b = 0 then rmM M a else cnM M a
theorem finger_no {a b : Int} {cl th dy sn : Int32} {kd pl pa kn sp ss : Nat → Int32} (h : ¬ ((0 ≤ a ∧ a / 10 < cl.toInt ∧ a % 10 < 5) ∧ 0 ≤ b ∧ b ≤ 1)) : qFinger a b (mkM cl th dy sn kd pl pa kn sp ss) = -1 := if_pos h
theorem finger_0 {a b r : Int} {cl th dy sn : Int32} {kd pl pa kn sp ss : Nat → Int32} (h : (0 ≤ a ∧ a / 10 < cl.toInt ∧ a % 10 < 5) ∧ 0 ≤ b ∧ b ≤ 1) (hb : b = 0) (hr : r = rmC (kd (a / 10).toNat).toInt (a % 10)) : qFinger a b (mkM cl th dy sn kd pl pa kn sp ss) = r := by
  unfold qFinger
  rw [if_neg (fun z => z h), if_pos hb, hr]
  exact rmM_mk ⟨h.1.1, h.1.2.1⟩
theorem finger_1 {a b r : Int} {cl th dy sn : Int32} {kd pl pa kn sp ss : Nat → Int32} (h : (0 ≤ a ∧ a / 10 < cl.toInt ∧ a % 10 < 5) ∧ 0 ≤ b ∧ b ≤ 1) (hb : ¬ b = 0) (hr : r = cntR pl th.toInt.toNat a) : qFinger a b (mkM cl th dy sn kd pl pa kn sp ss) = r := by
  unfold qFinger
  rw [if_neg (fun z => z h), if_neg hb, hr]
  exact cnM_mk
/-! ===== what is owed ===== -/
noncomputable def wc (h : qm_H) : Prop := wfM (mC h)
noncomputable def wr (h : qm_H) : Prop := wfM (mR h)
theorem wf_tr2 {M N : Mem} (h : wfM M) (e : N = M) : wfM N := e ▸ h
noncomputable def c20 : Nat → Int := fun _ => 20
/-! the reference's codes: which are rings, which ring each is -/
noncomputable def vR (cl : Int) (n c m : Nat) : Prop := ∀ i : Nat, i < m → ((dg n c i : Nat) : Int) < cl ∧ (0 < i → dg n c 0 < dg n c i) ∧ ∀ k : Nat, 0 < k → k < i → ¬ dg n c i = dg n c k
noncomputable def v4 (n c : Nat) : Bool := decide (∀ i : Nat, i < n → (0 < i → dg n c 0 < dg n c i) ∧ ∀ k : Nat, k < i → 0 < k → ¬ dg n c i = dg n c k)
-- ThreadBank.finger(II)I
set_option maxRecDepth 100000 in
set_option maxHeartbeats 4000000 in
theorem ty_96 (X : qm_X) (h : qm_H) (a : Int32) (b : Int32) (hp : mq 1 h) (Q : qm_Q) (hq : ∀ r : Int32, (r.toInt = qFinger a.toInt b.toInt (mC h)) → Q (some (.int r)) h) : qm_PW X 96 [.ref 0, .int a, .int b] h Q := by
  have hm1 : mq 1 h := hp
  have ⟨⟨_, _⟩, ⟨_, _⟩, _, _⟩ := hm1
  refine qm_seg_ok (C := qc_96) (rt := some .int) rfl rfl (cuts := []) 400 _ _ _ _ ?_
  show qm_PW X 30 [.ref 1, .int a] h _
  refine ty_30 X h a trivial _ (fun r1 p2 => ?_)
  have o3 : (r1 = 0 ∨ r1 = 1) ∧ ((r1.toInt = 1 ∧ 0 ≤ a.toInt ∧ a.toInt / 10 < (h 1 6).toInt ∧ a.toInt % 10 < 5) ∨ (r1.toInt = 0 ∧ ¬ (0 ≤ a.toInt ∧ a.toInt / 10 < (h 1 6).toInt ∧ a.toInt % 10 < 5))) := p2
  clear p2
  show (r1 = 0 → (Q (some (.int (-1 : Int32))) h)) ∧ (¬ r1 = 0 → ((b.toInt < 0 → (Q (some (.int (-1 : Int32))) h)) ∧ (0 ≤ b.toInt → ((b.toInt ≤ 1 → ((¬ b = 0 → (qm_PW X 35 [.ref 1, .int a] h _)) ∧ (b = 0 → (qm_PW X 37 [.ref 1, .int a] h _)))) ∧ (1 < b.toInt → (Q (some (.int (-1 : Int32))) h))))))
  refine ⟨fun c4 => ?_, fun c5 => ?_⟩
  · have := ti_eqK 0 rfl c4
    exact hq (-1 : Int32) (by show (-1 : Int32).toInt = qFinger a.toInt b.toInt (mC h); rw [ti_n1]; exact (show qFinger a.toInt b.toInt (mC h) = _ from finger_no (by omega)).symm)
  · have := ti_neK 0 rfl c5
    refine ⟨fun c6 => ?_, fun c7 => ?_⟩
    · exact hq (-1 : Int32) (by show (-1 : Int32).toInt = qFinger a.toInt b.toInt (mC h); rw [ti_n1]; exact (show qFinger a.toInt b.toInt (mC h) = _ from finger_no (by omega)).symm)
    · refine ⟨fun c8 => ?_, fun c9 => ?_⟩
      · refine ⟨fun c10 => ?_, fun c11 => ?_⟩
        · have := ti_neK 0 rfl c10
          refine ty_35 X h a hm1 _ (fun r12 p13 => ?_)
          have o14 : r12.toInt = cntR (h 3) (h 1 7).toInt.toNat a.toInt ∧ (0 ≤ r12.toInt ∧ r12.toInt ≤ 10) := p13
          clear p13
          show Q (some (.int r12)) h
          exact hq r12 (by show r12.toInt = qFinger a.toInt b.toInt (mC h); exact (show qFinger a.toInt b.toInt (mC h) = _ from finger_1 ⟨by omega, by omega⟩ (by omega) (by omega)).symm)
        · have := ti_eqK 0 rfl c11
          refine ty_37 X h a hm1 _ (fun r15 p16 => ?_)
          have o17 : (((0 ≤ a.toInt ∧ a.toInt / 10 < (h 1 6).toInt ∧ a.toInt % 10 < 5) ∧ r15.toInt = rmC (h 2 (a.toInt / 10).toNat).toInt (a.toInt % 10)) ∨ (¬ (0 ≤ a.toInt ∧ a.toInt / 10 < (h 1 6).toInt ∧ a.toInt % 10 < 5) ∧ r15.toInt = 0)) ∧ (0 ≤ r15.toInt ∧ r15.toInt ≤ 3) := p16
          clear p16
          show Q (some (.int r15)) h
          exact hq r15 (by show r15.toInt = qFinger a.toInt b.toInt (mC h); exact (show qFinger a.toInt b.toInt (mC h) = _ from finger_0 ⟨by omega, by omega⟩ (by omega) (by omega)).symm)
      · exact hq (-1 : Int32) (by show (-1 : Int32).toInt = qFinger a.toInt b.toInt (mC h); rw [ti_n1]; exact (show qFinger a.toInt b.toInt (mC h) = _ from finger_no (by omega)).symm)
-- ThreadBankModel.finger(II)I
set_option maxRecDepth 100000 in
set_option maxHeartbeats 4000000 in
theorem ty_186 (X : qm_X) (h : qm_H) (a : Int32) (b : Int32) (hp : mi h ∧ sm h ∧ zs h ∧ rw_ h) (Q : qm_Q) (hq : ∀ r : Int32, ∀ h' : qm_H, (mi h' ∧ sm h' ∧ zs h' ∧ rw_ h' ∧ (∀ k, (k < 41 ∨ 41 < k) → h' k = h k) ∧ (wfM (mR h) → r.toInt = qFinger a.toInt b.toInt (mR h))) → Q (some (.int r)) h') : qm_PW X 186 [.ref 39, .int a, .int b] h Q := by
  have hmmi : mi h := hp.1
  have ⟨⟨_, _⟩, ⟨_, _⟩, ⟨_, _⟩, ⟨_, _⟩, _, _⟩ := hmmi
  have hmsm : sm h := hp.2.1
  have ⟨⟨⟨_, _⟩, _, _⟩, _, _, _⟩ := hmsm
  have hmzs : zs h := hp.2.2.1
  have hmrw : rw_ h := hp.2.2.2
  refine qm_seg_ok (C := qc_186) (rt := some .int) rfl rfl (cuts := []) 400 _ _ _ _ ?_
  show qm_PW X 165 [.ref 39, .int a] h _
  refine ty_165 X h a hmmi _ (fun r1 p2 => ?_)
  have o3 : (r1 = 0 ∨ r1 = 1) ∧ ((r1.toInt = 1 ∧ 0 ≤ a.toInt ∧ a.toInt / 10 < (h 39 3).toInt ∧ a.toInt % 10 < 5) ∨ (r1.toInt = 0 ∧ ¬ (0 ≤ a.toInt ∧ a.toInt / 10 < (h 39 3).toInt ∧ a.toInt % 10 < 5))) := p2
  clear p2
  show (r1 = 0 → (Q (some (.int (-1 : Int32))) h)) ∧ (¬ r1 = 0 → (qm_PW X 168 [.int b] h _))
  refine ⟨fun c4 => ?_, fun c5 => ?_⟩
  · have := ti_eqK 0 rfl c4
    exact hq (-1 : Int32) h ⟨hmmi, hmsm, hmzs, hmrw, (fun k hk => rfl), (by show wfM (mR h) → (-1 : Int32).toInt = qFinger a.toInt b.toInt (mR h); rw [ti_n1]; exact fun hw => (show qFinger a.toInt b.toInt (mR h) = _ from finger_no (by omega)).symm)⟩
  · have := ti_neK 0 rfl c5
    refine ty_168 X h b trivial _ (fun r6 p7 => ?_)
    have o8 : (r6 = 0 ∨ r6 = 1) ∧ ((r6.toInt = 1 ∧ 0 ≤ b.toInt ∧ b.toInt ≤ 1) ∨ (r6.toInt = 0 ∧ ¬ (0 ≤ b.toInt ∧ b.toInt ≤ 1))) := p7
    clear p7
    show (¬ r6 = 0 → (qm_PW X 169 [.ref 39] h _)) ∧ (r6 = 0 → (Q (some (.int (-1 : Int32))) h))
    refine ⟨fun c9 => ?_, fun c10 => ?_⟩
    · have := ti_neK 0 rfl c9
      refine sf_169_39 X h  hmsm _ (fun g11 p12 => ?_)
      obtain ⟨p12_0, p12_1, p12_2⟩ := p12
      have f13 : ∀ k, (k < 41 ∨ 41 < k) → g11 k = h k := fun k hk => (p12_1 k (by omega)).trans (rfl)
      have k14 : mi g11 := by unfold mi; rw [p12_1 39 (by omega)]; exact hmmi
      have k15 : sm g11 := by unfold sm; rw [p12_1 40 (by omega)]; exact hmsm
      have k16 : zs g11 := by unfold zs; rw [p12_1 49 (by omega)]; exact hmzs
      have k17 : rw_ g11 := by unfold rw_; rw [p12_1 46 (by omega)]; exact hmrw
      have o18 : (∀ j : Nat, j < 49 → g11 41 j = h 40 j) := p12_2
      clear p12_2
      have w39_g11 : g11 39 = h 39 := (p12_1 39 (by omega))
      have w40_g11 : g11 40 = h 40 := (p12_1 40 (by omega))
      have sA_g11 : ∀ j : Nat, j < 49 → g11 41 j = h 40 j := o18
      have s4_g11 : (g11 41 4).toInt = (h 40 4).toInt := congrArg Int32.toInt (sA_g11 4 (by decide))
      show (¬ b = 0 → (qm_PW X 174 [.ref 39, .int a] g11 _)) ∧ (b = 0 → (qm_PW X 173 [.ref 39, .int a] g11 _))
      refine ⟨fun c19 => ?_, fun c20 => ?_⟩
      · have := ti_neK 0 rfl c19
        refine ty_174 X g11 a p12_0 _ (fun r21 p22 => ?_)
        have o23 : r21.toInt = cntD (g11 41) (g11 41 4).toInt.toNat a.toInt ∧ (0 ≤ r21.toInt ∧ r21.toInt ≤ 10) := p22
        clear p22
        show Q (some (.int r21)) g11
        exact hq r21 g11 ⟨k14, k15, k16, k17, (fun k hk => f13 k hk), (by show wfM (mR h) → r21.toInt = qFinger a.toInt b.toInt (mR h); rw [cnt_41 sA_g11 (by omega)] at o23; exact fun hw => (show qFinger a.toInt b.toInt (mR h) = _ from finger_1 ⟨by omega, by omega⟩ (by omega) (by omega)).symm)⟩
      · have := ti_eqK 0 rfl c20
        refine ty_173 X g11 a ⟨p12_0, (by have ⟨⟨_, _⟩, ⟨_, _⟩, ⟨_, _⟩, ⟨_, _⟩, _, _⟩ := hmmi; omega)⟩ _ (fun r24 p25 => ?_)
        have o26 : r24.toInt = rmF (g11 41 (a.toInt / 10).toNat).toInt (a.toInt % 10) := p25
        clear p25
        show Q (some (.int r24)) g11
        exact hq r24 g11 ⟨k14, k15, k16, k17, (fun k hk => f13 k hk), (by show wfM (mR h) → r24.toInt = qFinger a.toInt b.toInt (mR h); rw [sA_g11 _ (by omega)] at o26; exact fun hw => by have hk := (wf_raw hw).2.1 (a.toInt / 10).toNat (by omega); rw [rmF_C (by omega) (by omega)] at o26; exact (show qFinger a.toInt b.toInt (mR h) = _ from finger_0 ⟨by omega, by omega⟩ (by omega) (by omega)).symm)⟩
    · have := ti_eqK 0 rfl c10
      exact hq (-1 : Int32) h ⟨hmmi, hmsm, hmzs, hmrw, (fun k hk => rfl), (by show wfM (mR h) → (-1 : Int32).toInt = qFinger a.toInt b.toInt (mR h); rw [ti_n1]; exact fun hw => (show qFinger a.toInt b.toInt (mR h) = _ from finger_no (by omega)).symm)⟩
/-! ===== constructors: what is made ===== -/
noncomputable abbrev qt_tys (ca : Nat → ClassId) : List (ClassId × FieldType) := [(ca 0, .int), (ca 1, .byte), (ca 2, .boolean)]
theorem qt_good {w : Cond} (hw : w ∈ qm_tbl) : GoodIn qm_tbl (w :: qm_tbl) := by
  intro v hv
  rcases List.mem_cons.mp hv with rfl | hv
  · exact qm_tbl_in _ hw
  · exact qm_tbl_in _ hv
theorem qt_RA {s : State} {c1 c2 : ClassId} {ty : FieldType} (hty : ty = .int ∨ ty = .byte ∨ ty = .boolean) (h1 : va_RA s c1 ty) (h2 : va_RA s c2 ty) : c1 = c2 := by
  rcases hty with rfl | rfl | rfl
  · exact Option.some.inj ((va_nm_int h1).symm.trans (va_nm_int h2))
  · exact Option.some.inj ((va_nm_byte h1).symm.trans (va_nm_byte h2))
  · exact Option.some.inj ((va_nm_boolean h1).symm.trans (va_nm_boolean h2))
/-- a new array of ints, bytes or booleans, its class the one that is known -/
theorem qt_newa {p : Program} {l : Launch} {e : Env} {R : Room} {s : State} {m : MethodId} {args : Array Value} {below : List Frame} {meth : Method} {c : Code} {H : Heap} {locs : List Loc} {cells slots : Nat} {Q : State → Prop} {cc : ByteArray} {pc : Nat} {ls : Array Slot} {rest : List Value} {D : va_G} {cl : List vw_C} {A : Nat → Prop} {tys : List (ClassId × FieldType)} {ws : va_W} {H0 : Heap}
    (hexec : p.tables.exec = Jvm.exec) (hb : c.code = cc) {atype : ArrayType} (harr : (Cond.arrayClass (newarray.typeOf atype)).before args s = true) {ty : FieldType} (hty : newarray.typeOf atype = ty) (hprim : ty = .int ∨ ty = .byte ∨ ty = .boolean) (hK : va_K D cl tys s) (hP : va_P D cl ws H) (hD : va_D A ws) (hS : va_S A H0 H locs) (hA : ∀ q, H0.size ≤ q → A q)
    (t0 : Nat) {cA0 : ClassId} (ht : tys[t0]? = some (cA0, ty)) {n : Int32} {N' : Nat} (hn : ¬ n < 0) (hN : n.toNatClampNeg = N') (hbytes : N' * componentBytes ty ≤ 536870912) (hcells : cells + 1 ≤ R.cells) (hslots : slots + N' ≤ R.slots) (hdg : decode cc pc = .ok (.newarray atype, 2))
    (kk : ∀ (q : Nat) (H1 : Heap), va_P D cl (ws ++ [(q, .inl (cA0, N', .inl (fun _ => 0)))]) H1 → va_D A (ws ++ [(q, .inl (cA0, N', .inl (fun _ => 0)))]) → va_S A H0 H1 locs →
      W p l e R s m args below meth c H1 locs (cells + 1) (slots + N') Q (F0 m (pc + 2) ls (.ref q :: rest))) : W p l e R s m args below meth c H locs cells slots Q (F0 m pc ls (.int n :: rest)) := by
  have hz : ∀ cA : ClassId, vp_cell cA (N', .inl (fun _ => 0)) = arrV cA N' (fun _ => defaultValue ty) := by
    intro cA
    rcases hprim with rfl | rfl | rfl <;> rfl
  refine va_newa hexec hb harr hty hK hP hD hS hA hz hn hN hbytes hcells hslots hdg (fun q cA H1 hK1 hP1 hD1 hS1 => ?_)
  have e1 := (hK1.2 tys.length (cA, ty) (by simp)).2
  have e2 := (hK.2 t0 _ ht).2
  have e3 := qt_RA hprim e1 e2
  subst e3
  exact kk q H1 hP1 hD1 hS1
