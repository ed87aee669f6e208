-- ThreadBankModel.findOwed(I)V
set_option maxRecDepth 100000 in
set_option maxHeartbeats 4000000 in
theorem ty_180_c (X : qm_X) (h : qm_H) (a : Int32) (hp : am h) (Q : qm_Q) (hq : ∀ h' : qm_H, ((∀ k, (k < 45 ∨ 45 < k) → h' k = h k) ∧ (owI (fun t => (h 41 (6 + 3 * t))) (fun t => (h 41 (7 + 3 * t))) (fun t => (h 41 (8 + 3 * t))) a.toInt (h 41 4).toInt.toNat (h' 45))) → Q none h') : ∀ n : Nat, (∀ (l2 : Int32) (g : qm_H), (((0 ≤ l2.toInt ∧ l2.toInt ≤ 16) ∧ owz (g 45) l2.toInt) ∧ am g ∧ ∀ k, (k < 45 ∨ 45 < k) → g k = h k) → (116 - l2.toInt).toNat < n → qm_PA X 180 2 [(0, .ref 39), (1, .int a), (2, .int l2)] [] g Q) ∧ (∀ (l2 : Int32) (g : qm_H), (((0 ≤ l2.toInt ∧ l2.toInt ≤ (h 41 4).toInt) ∧ owI (fun t => h 41 (6 + 3 * t)) (fun t => h 41 (7 + 3 * t)) (fun t => h 41 (8 + 3 * t)) a.toInt l2.toInt.toNat (g 45)) ∧ am g ∧ ∀ k, (k < 45 ∨ 45 < k) → g k = h k) → (10 - l2.toInt).toNat < n → qm_PA X 180 23 [(0, .ref 39), (1, .int a), (2, .int l2)] [] g Q) := by
  have hmam : am h := hp
  have ⟨⟨_, _⟩, ⟨_, _⟩, _, _, _⟩ := hmam
  intro n
  induction n with
  | zero => exact ⟨fun _ _ _ h0 => absurd h0 (Nat.not_lt_zero _), fun _ _ _ h0 => absurd h0 (Nat.not_lt_zero _)⟩
  | succ n ih =>
    refine ⟨?_, ?_⟩
    · intro l2 g hi hr
      obtain ⟨hi0, hgam, hgf⟩ := hi
      have ⟨⟨_, _⟩, ⟨_, _⟩, _, _, _⟩ := hgam
      refine qm_seg_ok (C := qc_180) (rt := none) rfl rfl (cuts := [(2, [0, 1, 2]), (23, [0, 1, 2])]) 400 _ _ _ _ ?_
      show (16 ≤ l2.toInt → (qm_PA X 180 23 [(0, .ref 39), (1, .int a), (2, .int 0)] [] g Q)) ∧ (l2.toInt < 16 → ((0 ≤ l2.toInt ∧ l2.toInt < 16) ∧ (qm_PA X 180 2 [(0, .ref 39), (1, .int a), (2, .int (l2 + 1))] [] (qm_row g 45 (upd (g 45) l2.toInt.toNat 0)) Q)))
      refine ⟨fun c1 => ?_, fun c2 => ?_⟩
      · exact ih.2 (0 : Int32) g ⟨(by have : (0 : Int32).toInt = 0 := rfl; show (0 ≤ (0 : Int32).toInt ∧ (0 : Int32).toInt ≤ (h 41 4).toInt) ∧ owI (fun t => h 41 (6 + 3 * t)) (fun t => h 41 (7 + 3 * t)) (fun t => h 41 (8 + 3 * t)) a.toInt (0 : Int32).toInt.toNat (g 45); exact ⟨by have : (0 : Int32).toInt = 0 := rfl; omega, owI_0 hi0.2 (by omega) rfl⟩), hgam, (fun k hk => hgf k hk)⟩ (by have : (0 : Int32).toInt = 0 := rfl; show (10 - (0 : Int32).toInt).toNat < n; omega)
      · refine ⟨(by omega), ?_⟩
        exact ih.1 (l2 + 1) (qm_row g 45 (upd (g 45) l2.toInt.toNat 0)) ⟨(by have := ti_addK l2 (1 : Int32) 1 rfl; show (0 ≤ (l2 + 1).toInt ∧ (l2 + 1).toInt ≤ 16) ∧ owz ((qm_row g 45 (upd (g 45) l2.toInt.toNat 0)) 45) (l2 + 1).toInt; exact ⟨by omega, owz_upd hi0.2 hi0.1.1 (by omega)⟩), (by exact hgam), (fun k hk => by simp only [qm_row]; rw [if_neg (by omega)]; exact hgf k hk)⟩ (by have := ti_addK l2 (1 : Int32) 1 rfl; show (116 - (l2 + 1).toInt).toNat < n; omega)
    · intro l2 g hi hr
      obtain ⟨hi0, hgam, hgf⟩ := hi
      have ⟨⟨_, _⟩, ⟨_, _⟩, _, _, _⟩ := hgam
      have w41_g : g 41 = h 41 := hgf 41 (by omega)
      have e41_g : (g 41 4).toInt = (h 41 4).toInt := by rw [w41_g]
      refine qm_seg_ok (C := qc_180) (rt := none) rfl rfl (cuts := [(2, [0, 1, 2]), (23, [0, 1, 2])]) 400 _ _ _ _ ?_
      show (0 ≤ (4 : Int) ∧ (4 : Int) < 49) ∧ (((g 41 4).toInt ≤ l2.toInt → (Q none g)) ∧ (l2.toInt < (g 41 4).toInt → (qm_PW X 179 [.ref 39, .int l2] g _)))
      refine ⟨by decide, ?_⟩
      refine ⟨fun c1 => ?_, fun c2 => ?_⟩
      · exact hq g ⟨(fun k hk => hgf k hk), (by show owI (fun t => (h 41 (6 + 3 * t))) (fun t => (h 41 (7 + 3 * t))) (fun t => (h 41 (8 + 3 * t))) a.toInt (h 41 4).toInt.toNat (g 45); rw [show (h 41 4).toInt.toNat = l2.toInt.toNat by omega]; exact hi0.2)⟩
      · refine ty_179 X g l2 ⟨hgam, (by omega)⟩ _ (fun r3 p4 => ?_)
        have o5 : (r3 = 0 ∨ r3 = 1) ∧ ((¬ r3 = 0 ∧ icA (fun t => (g 41 (6 + 3 * t))) (fun t => (g 41 (7 + 3 * t))) (fun t => (g 41 (8 + 3 * t))) l2.toInt.toNat) ∨ (r3 = 0 ∧ ¬ icA (fun t => (g 41 (6 + 3 * t))) (fun t => (g 41 (7 + 3 * t))) (fun t => (g 41 (8 + 3 * t))) l2.toInt.toNat)) := p4
        clear p4
        show (¬ r3 = 0 → (qm_PW X 171 [.ref 39, .int l2, .int 1] g _)) ∧ (r3 = 0 → (qm_PW X 171 [.ref 39, .int l2, .int 2] g _))
        refine ⟨fun c6 => ?_, fun c7 => ?_⟩
        · refine ty_171 X g l2 (1 : Int32) ⟨hgam, (by have : (1 : Int32).toInt = 1 := rfl; omega)⟩ _ (fun r8 p9 => ?_)
          have o10 : (r8.toInt = (g 41 (7 + 3 * l2.toInt.toNat)).toInt ∧ 0 ≤ r8.toInt ∧ r8.toInt / 10 ≤ 3 ∧ r8.toInt % 10 ≤ 3) := p9.2.1 rfl
          clear p9
          show ¬ (10 : Int32) = 0 ∧ (qm_PW X 171 [.ref 39, .int l2, .int 1] g _)
          refine ⟨by decide, ?_⟩
          refine ty_171 X g l2 (1 : Int32) ⟨hgam, (by have : (1 : Int32).toInt = 1 := rfl; omega)⟩ _ (fun r11 p12 => ?_)
          have o13 : (r11.toInt = (g 41 (7 + 3 * l2.toInt.toNat)).toInt ∧ 0 ≤ r11.toInt ∧ r11.toInt / 10 ≤ 3 ∧ r11.toInt % 10 ≤ 3) := p12.2.1 rfl
          clear p12
          show ¬ (10 : Int32) = 0 ∧ ((0 ≤ ((4 * (r8 / 10)) + (r11 - r11 / 10 * 10)).toInt ∧ ((4 * (r8 / 10)) + (r11 - r11 / 10 * 10)).toInt < 16) ∧ (((0 : Int32) = 0 → ((0 ≤ ((4 * (r8 / 10)) + (r11 - r11 / 10 * 10)).toInt ∧ ((4 * (r8 / 10)) + (r11 - r11 / 10 * 10)).toInt < 16) ∧ (qm_PA X 180 23 [(0, .ref 39), (1, .int a), (2, .int (l2 + 1))] [] (qm_row g 45 (upd (g 45) ((4 * (r8 / 10)) + (r11 - r11 / 10 * 10)).toInt.toNat ((g 45 ((4 * (r8 / 10)) + (r11 - r11 / 10 * 10)).toInt.toNat) + 0))) Q))) ∧ (¬ (0 : Int32) = 0 → (qm_PW X 171 [.ref 39, .int l2, .int 2] g _))))
          refine ⟨by decide, ?_⟩
          refine ⟨(by have := ti_div (10 : Int32) 10 rfl r8 (by decide); have := ti_mulL (4 : Int32) 4 rfl (r8 / 10); have := ti_rem (10 : Int32) 10 rfl r11 (by decide); have := ti_add (4 * (r8 / 10)) (r11 - r11 / 10 * 10); omega), ?_⟩
          refine ⟨fun c14 => ?_, fun c15 => ?_⟩
          · refine ⟨(by have := ti_div (10 : Int32) 10 rfl r8 (by decide); have := ti_mulL (4 : Int32) 4 rfl (r8 / 10); have := ti_rem (10 : Int32) 10 rfl r11 (by decide); have := ti_add (4 * (r8 / 10)) (r11 - r11 / 10 * 10); omega), ?_⟩
            exact ih.2 (l2 + 1) (qm_row g 45 (upd (g 45) ((4 * (r8 / 10)) + (r11 - r11 / 10 * 10)).toInt.toNat ((g 45 ((4 * (r8 / 10)) + (r11 - r11 / 10 * 10)).toInt.toNat) + 0))) ⟨(by have := ti_addK l2 (1 : Int32) 1 rfl; have := ti_div (10 : Int32) 10 rfl r8 (by decide); have := ti_mulL (4 : Int32) 4 rfl (r8 / 10); have := ti_rem (10 : Int32) 10 rfl r11 (by decide); have := ti_add (4 * (r8 / 10)) (r11 - r11 / 10 * 10); show (0 ≤ (l2 + 1).toInt ∧ (l2 + 1).toInt ≤ (h 41 4).toInt) ∧ owI (fun t => h 41 (6 + 3 * t)) (fun t => h 41 (7 + 3 * t)) (fun t => h 41 (8 + 3 * t)) a.toInt (l2 + 1).toInt.toNat ((qm_row g 45 (upd (g 45) ((4 * (r8 / 10)) + (r11 - r11 / 10 * 10)).toInt.toNat ((g 45 ((4 * (r8 / 10)) + (r11 - r11 / 10 * 10)).toInt.toNat) + 0))) 45); have e9 : (l2 + 1).toInt.toNat = l2.toInt.toNat + 1 := (by omega); have hkk := hmam.2.2.2.2.2; have hp1 := o10.1; have hp2 := o13.1; rw [w41_g] at hp1 hp2; have q1 := ti_div (10 : Int32) 10 rfl r8 (by decide); have q2 := ti_rem (10 : Int32) 10 rfl r11 (by decide); have q3 := ti_mulL (4 : Int32) 4 rfl (r8 / 10); have q4 := ti_add (4 * (r8 / 10)) (r11 - r11 / 10 * 10); have hv : (0 : Int32).toInt = owT (fun t => h 41 (6 + 3 * t)) (fun t => h 41 (7 + 3 * t)) (fun t => h 41 (8 + 3 * t)) (h 41 (7 + 3 * l2.toInt.toNat)).toInt a.toInt l2.toInt.toNat := (ifP_f (fun w => w.2.2 (show icA (fun t => h 41 (6 + 3 * t)) (fun t => h 41 (7 + 3 * t)) (fun t => h 41 (8 + 3 * t)) l2.toInt.toNat from by have z := (o5.2.resolve_right (fun w => absurd w.1 (by assumption))).2; rw [w41_g] at z; exact z))).symm; exact ⟨by omega, by rw [e9]; exact owI_s hi0.2 hkk (by show 0 ≤ (h 41 (7 + 3 * l2.toInt.toNat)).toInt ∧ (h 41 (7 + 3 * l2.toInt.toNat)).toInt / 10 ≤ 3 ∧ (h 41 (7 + 3 * l2.toInt.toNat)).toInt % 10 ≤ 3; omega) (by omega) (by show _ = 4 * ((h 41 (7 + 3 * l2.toInt.toNat)).toInt / 10) + (h 41 (7 + 3 * l2.toInt.toNat)).toInt % 10; omega) hv rfl⟩), (by exact hgam), (fun k hk => by simp only [qm_row]; rw [if_neg (by omega)]; exact hgf k hk)⟩ (by have := ti_addK l2 (1 : Int32) 1 rfl; show (10 - (l2 + 1).toInt).toNat < n; omega)
          · exact absurd c15 (by decide)
        · refine ty_171 X g l2 (2 : Int32) ⟨hgam, (by have : (2 : Int32).toInt = 2 := rfl; omega)⟩ _ (fun r19 p20 => ?_)
          have o21 : (r19.toInt = (g 41 (8 + 3 * l2.toInt.toNat)).toInt ∧ 0 ≤ r19.toInt ∧ r19.toInt ≤ 99) := p20.2.2 rfl
          clear p20
          show ¬ (10 : Int32) = 0 ∧ ((a.toInt < (r19 - r19 / 10 * 10).toInt → (qm_PW X 171 [.ref 39, .int l2, .int 1] g _)) ∧ ((r19 - r19 / 10 * 10).toInt ≤ a.toInt → (qm_PW X 171 [.ref 39, .int l2, .int 1] g _)))
          refine ⟨by decide, ?_⟩
          refine ⟨fun c22 => ?_, fun c23 => ?_⟩
          · refine ty_171 X g l2 (1 : Int32) ⟨hgam, (by have : (1 : Int32).toInt = 1 := rfl; have := ti_rem (10 : Int32) 10 rfl r19 (by decide); omega)⟩ _ (fun r24 p25 => ?_)
            have o26 : (r24.toInt = (g 41 (7 + 3 * l2.toInt.toNat)).toInt ∧ 0 ≤ r24.toInt ∧ r24.toInt / 10 ≤ 3 ∧ r24.toInt % 10 ≤ 3) := p25.2.1 rfl
            clear p25
            show ¬ (10 : Int32) = 0 ∧ (qm_PW X 171 [.ref 39, .int l2, .int 1] g _)
            refine ⟨by decide, ?_⟩
            refine ty_171 X g l2 (1 : Int32) ⟨hgam, (by have : (1 : Int32).toInt = 1 := rfl; have := ti_rem (10 : Int32) 10 rfl r19 (by decide); omega)⟩ _ (fun r27 p28 => ?_)
            have o29 : (r27.toInt = (g 41 (7 + 3 * l2.toInt.toNat)).toInt ∧ 0 ≤ r27.toInt ∧ r27.toInt / 10 ≤ 3 ∧ r27.toInt % 10 ≤ 3) := p28.2.1 rfl
            clear p28
            show ¬ (10 : Int32) = 0 ∧ ((0 ≤ ((4 * (r24 / 10)) + (r27 - r27 / 10 * 10)).toInt ∧ ((4 * (r24 / 10)) + (r27 - r27 / 10 * 10)).toInt < 16) ∧ (((0 : Int32) = 0 → ((0 ≤ ((4 * (r24 / 10)) + (r27 - r27 / 10 * 10)).toInt ∧ ((4 * (r24 / 10)) + (r27 - r27 / 10 * 10)).toInt < 16) ∧ (qm_PA X 180 23 [(0, .ref 39), (1, .int a), (2, .int (l2 + 1))] [] (qm_row g 45 (upd (g 45) ((4 * (r24 / 10)) + (r27 - r27 / 10 * 10)).toInt.toNat ((g 45 ((4 * (r24 / 10)) + (r27 - r27 / 10 * 10)).toInt.toNat) + 0))) Q))) ∧ (¬ (0 : Int32) = 0 → (qm_PW X 171 [.ref 39, .int l2, .int 2] g _))))
            refine ⟨by decide, ?_⟩
            refine ⟨(by have := ti_div (10 : Int32) 10 rfl r24 (by decide); have := ti_mulL (4 : Int32) 4 rfl (r24 / 10); have := ti_rem (10 : Int32) 10 rfl r27 (by decide); have := ti_add (4 * (r24 / 10)) (r27 - r27 / 10 * 10); have := ti_rem (10 : Int32) 10 rfl r19 (by decide); omega), ?_⟩
            refine ⟨fun c30 => ?_, fun c31 => ?_⟩
            · refine ⟨(by have := ti_div (10 : Int32) 10 rfl r24 (by decide); have := ti_mulL (4 : Int32) 4 rfl (r24 / 10); have := ti_rem (10 : Int32) 10 rfl r27 (by decide); have := ti_add (4 * (r24 / 10)) (r27 - r27 / 10 * 10); have := ti_rem (10 : Int32) 10 rfl r19 (by decide); omega), ?_⟩
              exact ih.2 (l2 + 1) (qm_row g 45 (upd (g 45) ((4 * (r24 / 10)) + (r27 - r27 / 10 * 10)).toInt.toNat ((g 45 ((4 * (r24 / 10)) + (r27 - r27 / 10 * 10)).toInt.toNat) + 0))) ⟨(by have := ti_addK l2 (1 : Int32) 1 rfl; have := ti_div (10 : Int32) 10 rfl r24 (by decide); have := ti_mulL (4 : Int32) 4 rfl (r24 / 10); have := ti_rem (10 : Int32) 10 rfl r27 (by decide); have := ti_add (4 * (r24 / 10)) (r27 - r27 / 10 * 10); have := ti_rem (10 : Int32) 10 rfl r19 (by decide); show (0 ≤ (l2 + 1).toInt ∧ (l2 + 1).toInt ≤ (h 41 4).toInt) ∧ owI (fun t => h 41 (6 + 3 * t)) (fun t => h 41 (7 + 3 * t)) (fun t => h 41 (8 + 3 * t)) a.toInt (l2 + 1).toInt.toNat ((qm_row g 45 (upd (g 45) ((4 * (r24 / 10)) + (r27 - r27 / 10 * 10)).toInt.toNat ((g 45 ((4 * (r24 / 10)) + (r27 - r27 / 10 * 10)).toInt.toNat) + 0))) 45); have e9 : (l2 + 1).toInt.toNat = l2.toInt.toNat + 1 := (by omega); have hkk := hmam.2.2.2.2.2; have hp1 := o26.1; have hp2 := o29.1; rw [w41_g] at hp1 hp2; have q1 := ti_div (10 : Int32) 10 rfl r24 (by decide); have q2 := ti_rem (10 : Int32) 10 rfl r27 (by decide); have q3 := ti_mulL (4 : Int32) 4 rfl (r24 / 10); have q4 := ti_add (4 * (r24 / 10)) (r27 - r27 / 10 * 10); have hk2 := o21.1; rw [w41_g] at hk2; have q6 := ti_rem (10 : Int32) 10 rfl r19 (by decide); have hv : (0 : Int32).toInt = owT (fun t => h 41 (6 + 3 * t)) (fun t => h 41 (7 + 3 * t)) (fun t => h 41 (8 + 3 * t)) (h 41 (7 + 3 * l2.toInt.toNat)).toInt a.toInt l2.toInt.toNat := (ifP_f (fun w => by have w2 : (h 41 (8 + 3 * l2.toInt.toNat)).toInt % 10 ≤ a.toInt := w.2.1; omega)).symm; exact ⟨by omega, by rw [e9]; exact owI_s hi0.2 hkk (by show 0 ≤ (h 41 (7 + 3 * l2.toInt.toNat)).toInt ∧ (h 41 (7 + 3 * l2.toInt.toNat)).toInt / 10 ≤ 3 ∧ (h 41 (7 + 3 * l2.toInt.toNat)).toInt % 10 ≤ 3; omega) (by omega) (by show _ = 4 * ((h 41 (7 + 3 * l2.toInt.toNat)).toInt / 10) + (h 41 (7 + 3 * l2.toInt.toNat)).toInt % 10; omega) hv rfl⟩), (by exact hgam), (fun k hk => by simp only [qm_row]; rw [if_neg (by omega)]; exact hgf k hk)⟩ (by have := ti_addK l2 (1 : Int32) 1 rfl; have := ti_rem (10 : Int32) 10 rfl r19 (by decide); show (10 - (l2 + 1).toInt).toNat < n; omega)
            · exact absurd c31 (by decide)
          · refine ty_171 X g l2 (1 : Int32) ⟨hgam, (by have : (1 : Int32).toInt = 1 := rfl; have := ti_rem (10 : Int32) 10 rfl r19 (by decide); omega)⟩ _ (fun r35 p36 => ?_)
            have o37 : (r35.toInt = (g 41 (7 + 3 * l2.toInt.toNat)).toInt ∧ 0 ≤ r35.toInt ∧ r35.toInt / 10 ≤ 3 ∧ r35.toInt % 10 ≤ 3) := p36.2.1 rfl
            clear p36
            show ¬ (10 : Int32) = 0 ∧ (qm_PW X 171 [.ref 39, .int l2, .int 1] g _)
            refine ⟨by decide, ?_⟩
            refine ty_171 X g l2 (1 : Int32) ⟨hgam, (by have : (1 : Int32).toInt = 1 := rfl; have := ti_rem (10 : Int32) 10 rfl r19 (by decide); omega)⟩ _ (fun r38 p39 => ?_)
            have o40 : (r38.toInt = (g 41 (7 + 3 * l2.toInt.toNat)).toInt ∧ 0 ≤ r38.toInt ∧ r38.toInt / 10 ≤ 3 ∧ r38.toInt % 10 ≤ 3) := p39.2.1 rfl
            clear p39
            show ¬ (10 : Int32) = 0 ∧ ((0 ≤ ((4 * (r35 / 10)) + (r38 - r38 / 10 * 10)).toInt ∧ ((4 * (r35 / 10)) + (r38 - r38 / 10 * 10)).toInt < 16) ∧ (((1 : Int32) = 0 → ((0 ≤ ((4 * (r35 / 10)) + (r38 - r38 / 10 * 10)).toInt ∧ ((4 * (r35 / 10)) + (r38 - r38 / 10 * 10)).toInt < 16) ∧ (qm_PA X 180 23 [(0, .ref 39), (1, .int a), (2, .int (l2 + 1))] [] (qm_row g 45 (upd (g 45) ((4 * (r35 / 10)) + (r38 - r38 / 10 * 10)).toInt.toNat ((g 45 ((4 * (r35 / 10)) + (r38 - r38 / 10 * 10)).toInt.toNat) + 0))) Q))) ∧ (¬ (1 : Int32) = 0 → (qm_PW X 171 [.ref 39, .int l2, .int 2] g _))))
            refine ⟨by decide, ?_⟩
            refine ⟨(by have := ti_div (10 : Int32) 10 rfl r35 (by decide); have := ti_mulL (4 : Int32) 4 rfl (r35 / 10); have := ti_rem (10 : Int32) 10 rfl r38 (by decide); have := ti_add (4 * (r35 / 10)) (r38 - r38 / 10 * 10); have := ti_rem (10 : Int32) 10 rfl r19 (by decide); omega), ?_⟩
            refine ⟨fun c41 => ?_, fun c42 => ?_⟩
            · exact absurd c41 (by decide)
            · refine ty_171 X g l2 (2 : Int32) ⟨hgam, (by have : (2 : Int32).toInt = 2 := rfl; have := ti_rem (10 : Int32) 10 rfl r19 (by decide); omega)⟩ _ (fun r43 p44 => ?_)
              have o45 : (r43.toInt = (g 41 (8 + 3 * l2.toInt.toNat)).toInt ∧ 0 ≤ r43.toInt ∧ r43.toInt ≤ 99) := p44.2.2 rfl
              clear p44
              show ¬ (10 : Int32) = 0 ∧ ((0 ≤ ((4 * (r35 / 10)) + (r38 - r38 / 10 * 10)).toInt ∧ ((4 * (r35 / 10)) + (r38 - r38 / 10 * 10)).toInt < 16) ∧ (qm_PA X 180 23 [(0, .ref 39), (1, .int a), (2, .int (l2 + 1))] [] (qm_row g 45 (upd (g 45) ((4 * (r35 / 10)) + (r38 - r38 / 10 * 10)).toInt.toNat ((g 45 ((4 * (r35 / 10)) + (r38 - r38 / 10 * 10)).toInt.toNat) + (r43 / 10)))) Q))
              refine ⟨by decide, ?_⟩
              refine ⟨(by have := ti_div (10 : Int32) 10 rfl r35 (by decide); have := ti_mulL (4 : Int32) 4 rfl (r35 / 10); have := ti_rem (10 : Int32) 10 rfl r38 (by decide); have := ti_add (4 * (r35 / 10)) (r38 - r38 / 10 * 10); have := ti_rem (10 : Int32) 10 rfl r19 (by decide); omega), ?_⟩
              exact ih.2 (l2 + 1) (qm_row g 45 (upd (g 45) ((4 * (r35 / 10)) + (r38 - r38 / 10 * 10)).toInt.toNat ((g 45 ((4 * (r35 / 10)) + (r38 - r38 / 10 * 10)).toInt.toNat) + (r43 / 10)))) ⟨(by have := ti_addK l2 (1 : Int32) 1 rfl; have := ti_div (10 : Int32) 10 rfl r35 (by decide); have := ti_mulL (4 : Int32) 4 rfl (r35 / 10); have := ti_rem (10 : Int32) 10 rfl r38 (by decide); have := ti_add (4 * (r35 / 10)) (r38 - r38 / 10 * 10); have := ti_div (10 : Int32) 10 rfl r43 (by decide); have := ti_rem (10 : Int32) 10 rfl r19 (by decide); show (0 ≤ (l2 + 1).toInt ∧ (l2 + 1).toInt ≤ (h 41 4).toInt) ∧ owI (fun t => h 41 (6 + 3 * t)) (fun t => h 41 (7 + 3 * t)) (fun t => h 41 (8 + 3 * t)) a.toInt (l2 + 1).toInt.toNat ((qm_row g 45 (upd (g 45) ((4 * (r35 / 10)) + (r38 - r38 / 10 * 10)).toInt.toNat ((g 45 ((4 * (r35 / 10)) + (r38 - r38 / 10 * 10)).toInt.toNat) + (r43 / 10)))) 45); have e9 : (l2 + 1).toInt.toNat = l2.toInt.toNat + 1 := (by omega); have hkk := hmam.2.2.2.2.2; have hp1 := o37.1; have hp2 := o40.1; rw [w41_g] at hp1 hp2; have q1 := ti_div (10 : Int32) 10 rfl r35 (by decide); have q2 := ti_rem (10 : Int32) 10 rfl r38 (by decide); have q3 := ti_mulL (4 : Int32) 4 rfl (r35 / 10); have q4 := ti_add (4 * (r35 / 10)) (r38 - r38 / 10 * 10); have hk2 := o21.1; have hk3 := o45.1; rw [w41_g] at hk2 hk3; have q5 := ti_div (10 : Int32) 10 rfl r43 (by decide); have q6 := ti_rem (10 : Int32) 10 rfl r19 (by decide); have hv : (r43 / 10).toInt = owT (fun t => h 41 (6 + 3 * t)) (fun t => h 41 (7 + 3 * t)) (fun t => h 41 (8 + 3 * t)) (h 41 (7 + 3 * l2.toInt.toNat)).toInt a.toInt l2.toInt.toNat := (by rw [show owT (fun t => h 41 (6 + 3 * t)) (fun t => h 41 (7 + 3 * t)) (fun t => h 41 (8 + 3 * t)) (h 41 (7 + 3 * l2.toInt.toNat)).toInt a.toInt l2.toInt.toNat = (h 41 (8 + 3 * l2.toInt.toNat)).toInt / 10 from ifP_t ⟨rfl, (show (h 41 (8 + 3 * l2.toInt.toNat)).toInt % 10 ≤ a.toInt by omega), (show ¬ icA (fun t => h 41 (6 + 3 * t)) (fun t => h 41 (7 + 3 * t)) (fun t => h 41 (8 + 3 * t)) l2.toInt.toNat from by have z := (o5.2.resolve_left (fun w => absurd (by assumption) w.1)).2; rw [w41_g] at z; exact z)⟩]; omega); exact ⟨by omega, by rw [e9]; exact owI_s hi0.2 hkk (by show 0 ≤ (h 41 (7 + 3 * l2.toInt.toNat)).toInt ∧ (h 41 (7 + 3 * l2.toInt.toNat)).toInt / 10 ≤ 3 ∧ (h 41 (7 + 3 * l2.toInt.toNat)).toInt % 10 ≤ 3; omega) (by omega) (by show _ = 4 * ((h 41 (7 + 3 * l2.toInt.toNat)).toInt / 10) + (h 41 (7 + 3 * l2.toInt.toNat)).toInt % 10; omega) hv rfl⟩), (by exact hgam), (fun k hk => by simp only [qm_row]; rw [if_neg (by omega)]; exact hgf k hk)⟩ (by have := ti_addK l2 (1 : Int32) 1 rfl; have := ti_rem (10 : Int32) 10 rfl r19 (by decide); show (10 - (l2 + 1).toInt).toNat < n; omega)
set_option maxRecDepth 100000 in
set_option maxHeartbeats 4000000 in
theorem ty_180 (X : qm_X) (h : qm_H) (a : Int32) (hp : am h) (Q : qm_Q) (hq : ∀ h' : qm_H, ((∀ k, (k < 45 ∨ 45 < k) → h' k = h k) ∧ (owI (fun t => (h 41 (6 + 3 * t))) (fun t => (h 41 (7 + 3 * t))) (fun t => (h 41 (8 + 3 * t))) a.toInt (h 41 4).toInt.toNat (h' 45))) → Q none h') : qm_PW X 180 [.ref 39, .int a] h Q := by
  have hmam : am h := hp
  have ⟨⟨_, _⟩, ⟨_, _⟩, _, _, _⟩ := hmam
  refine qm_seg_ok (C := qc_180) (rt := none) rfl rfl (cuts := [(2, [0, 1, 2]), (23, [0, 1, 2])]) 400 _ _ _ _ ?_
  show qm_PA X 180 2 [(0, .ref 39), (1, .int a), (2, .int 0)] [] h Q
  exact (ty_180_c X h a hp Q hq _).1 (0 : Int32) h ⟨(by have : (0 : Int32).toInt = 0 := rfl; show (0 ≤ (0 : Int32).toInt ∧ (0 : Int32).toInt ≤ 16) ∧ owz (h 45) (0 : Int32).toInt; exact ⟨by have : (0 : Int32).toInt = 0 := rfl; omega, owz_0⟩), hmam, (fun k hk => rfl)⟩ (Nat.lt_succ_self _)
-- ThreadBankModel.owedBy(I)I
set_option maxRecDepth 100000 in
set_option maxHeartbeats 4000000 in
theorem ty_181 (X : qm_X) (h : qm_H) (a : Int32) (hp : 0 ≤ a.toInt ∧ a.toInt / 10 ≤ 3 ∧ a.toInt % 10 ≤ 3) (Q : qm_Q) (hq : ∀ r : Int32, (r.toInt = (h 45 (4 * (a.toInt / 10).toNat + (a.toInt % 10).toNat)).toInt) → Q (some (.int r)) h) : qm_PW X 181 [.ref 39, .int a] h Q := by
  have hp0 : 0 ≤ a.toInt ∧ a.toInt / 10 ≤ 3 ∧ a.toInt % 10 ≤ 3 := hp
  refine qm_seg_ok (C := qc_181) (rt := some .int) rfl rfl (cuts := []) 400 _ _ _ _ ?_
  show ¬ (10 : Int32) = 0 ∧ (¬ (10 : Int32) = 0 ∧ ((0 ≤ ((4 * (a / 10)) + (a - a / 10 * 10)).toInt ∧ ((4 * (a / 10)) + (a - a / 10 * 10)).toInt < 16) ∧ (Q (some (.int (h 45 ((4 * (a / 10)) + (a - a / 10 * 10)).toInt.toNat))) h)))
  refine ⟨by decide, ?_⟩
  refine ⟨by decide, ?_⟩
  refine ⟨(by have := ti_div (10 : Int32) 10 rfl a (by decide); have := ti_mulL (4 : Int32) 4 rfl (a / 10); have := ti_rem (10 : Int32) 10 rfl a (by decide); have := ti_add (4 * (a / 10)) (a - a / 10 * 10); omega), ?_⟩
  exact hq (h 45 ((4 * (a / 10)) + (a - a / 10 * 10)).toInt.toNat) (by have := ti_div (10 : Int32) 10 rfl a (by decide); have := ti_mulL (4 : Int32) 4 rfl (a / 10); have := ti_rem (10 : Int32) 10 rfl a (by decide); have := ti_add (4 * (a / 10)) (a - a / 10 * 10); show (h 45 ((4 * (a / 10)) + (a - a / 10 * 10)).toInt.toNat).toInt = (h 45 (4 * (a.toInt / 10).toNat + (a.toInt % 10).toNat)).toInt; have q1 := ti_div (10 : Int32) 10 rfl a (by decide); have q2 := ti_rem (10 : Int32) 10 rfl a (by decide); have q3 := ti_mulL (4 : Int32) 4 rfl (a / 10); have q4 := ti_add (4 * (a / 10)) (a - a / 10 * 10); rw [show 4 * (a.toInt / 10).toNat + (a.toInt % 10).toNat = ((4 * (a / 10)) + (a - a / 10 * 10)).toInt.toNat by omega])
-- ThreadBankModel.owed(II)I
set_option maxRecDepth 100000 in
set_option maxHeartbeats 4000000 in
theorem ty_196 (X : qm_X) (h : qm_H) (a : Int32) (b : Int32) (hp : mi h ∧ sm h ∧ zs h ∧ rw_ h) (Q : qm_Q) (hq : ∀ r : Int32, ∀ h' : qm_H, (mi h' ∧ sm h' ∧ zs h' ∧ rw_ h' ∧ (∀ k, (k < 41 ∨ 45 < k ∨ k = 42 ∨ k = 43 ∨ k = 44) → h' k = h k) ∧ (r.toInt = qOwed a.toInt b.toInt (mR h))) → Q (some (.int r)) h') : qm_PW X 196 [.ref 39, .int a, .int b] h Q := by
  have hmmi : mi h := hp.1
  have ⟨⟨_, _⟩, ⟨_, _⟩, ⟨_, _⟩, ⟨_, _⟩, _, _⟩ := hmmi
  have hmsm : sm h := hp.2.1
  have ⟨⟨⟨_, _⟩, _, _⟩, _, _, _⟩ := hmsm
  have hmzs : zs h := hp.2.2.1
  have hmrw : rw_ h := hp.2.2.2
  refine qm_seg_ok (C := qc_196) (rt := some .int) rfl rfl (cuts := []) 400 _ _ _ _ ?_
  show qm_PW X 166 [.ref 39, .int a] h _
  refine ty_166 X h a hmmi _ (fun r1 p2 => ?_)
  have o3 : (r1 = 0 ∨ r1 = 1) ∧ ((r1.toInt = 1 ∧ 0 ≤ a.toInt ∧ a.toInt / 10 < (h 39 3).toInt ∧ a.toInt % 10 < (h 39 3).toInt ∧ ¬ a.toInt / 10 = a.toInt % 10) ∨ (r1.toInt = 0 ∧ ¬ (0 ≤ a.toInt ∧ a.toInt / 10 < (h 39 3).toInt ∧ a.toInt % 10 < (h 39 3).toInt ∧ ¬ a.toInt / 10 = a.toInt % 10))) := p2
  clear p2
  show (r1 = 0 → (Q (some (.int (-1 : Int32))) h)) ∧ (¬ r1 = 0 → (qm_PW X 168 [.int b] h _))
  refine ⟨fun c4 => ?_, fun c5 => ?_⟩
  · have := ti_eqK 0 rfl c4
    exact hq (-1 : Int32) h ⟨hmmi, hmsm, hmzs, hmrw, (fun k hk => rfl), (by show (-1 : Int32).toInt = qOwed a.toInt b.toInt (mR h); rw [ti_n1]; exact (show qOwed a.toInt b.toInt (mR h) = _ from owed_no (by omega)).symm)⟩
  · have := ti_neK 0 rfl c5
    refine ty_168 X h b trivial _ (fun r6 p7 => ?_)
    have o8 : (r6 = 0 ∨ r6 = 1) ∧ ((r6.toInt = 1 ∧ 0 ≤ b.toInt ∧ b.toInt ≤ 1) ∨ (r6.toInt = 0 ∧ ¬ (0 ≤ b.toInt ∧ b.toInt ≤ 1))) := p7
    clear p7
    show (¬ r6 = 0 → (qm_PW X 169 [.ref 39] h _)) ∧ (r6 = 0 → (Q (some (.int (-1 : Int32))) h))
    refine ⟨fun c9 => ?_, fun c10 => ?_⟩
    · have := ti_neK 0 rfl c9
      refine sf_169_39 X h  hmsm _ (fun g11 p12 => ?_)
      obtain ⟨p12_0, p12_1, p12_2⟩ := p12
      have f13 : ∀ k, (k < 41 ∨ 45 < k ∨ k = 42 ∨ k = 43 ∨ k = 44) → g11 k = h k := fun k hk => (p12_1 k (by omega)).trans (rfl)
      have k14 : mi g11 := by unfold mi; rw [p12_1 39 (by omega)]; exact hmmi
      have k15 : sm g11 := by unfold sm; rw [p12_1 40 (by omega)]; exact hmsm
      have k16 : zs g11 := by unfold zs; rw [p12_1 49 (by omega)]; exact hmzs
      have k17 : rw_ g11 := by unfold rw_; rw [p12_1 46 (by omega)]; exact hmrw
      have o18 : (∀ j : Nat, j < 49 → g11 41 j = h 40 j) := p12_2
      clear p12_2
      have w39_g11 : g11 39 = h 39 := (p12_1 39 (by omega))
      have w40_g11 : g11 40 = h 40 := (p12_1 40 (by omega))
      have sA_g11 : ∀ j : Nat, j < 49 → g11 41 j = h 40 j := o18
      have s4_g11 : (g11 41 4).toInt = (h 40 4).toInt := congrArg Int32.toInt (sA_g11 4 (by decide))
      show (¬ b = 0 → ((0 ≤ (5 : Int) ∧ (5 : Int) < 49) ∧ (qm_PW X 180 [.ref 39, .int (g11 41 5)] g11 _))) ∧ (b = 0 → (qm_PW X 180 [.ref 39, .int 9] g11 _))
      refine ⟨fun c19 => ?_, fun c20 => ?_⟩
      · have := ti_neK 0 rfl c19
        refine ⟨by decide, ?_⟩
        refine ty_180 X g11 (g11 41 5) p12_0 _ (fun g21 p22 => ?_)
        obtain ⟨p22_0, p22_1⟩ := p22
        have f23 : ∀ k, (k < 41 ∨ 45 < k ∨ k = 42 ∨ k = 43 ∨ k = 44) → g21 k = h k := fun k hk => (p22_0 k (by omega)).trans (f13 k hk)
        have k24 : mi g21 := by unfold mi; rw [p22_0 39 (by omega)]; exact k14
        have k25 : sm g21 := by unfold sm; rw [p22_0 40 (by omega)]; exact k15
        have k26 : zs g21 := by unfold zs; rw [p22_0 49 (by omega)]; exact k16
        have k27 : rw_ g21 := by unfold rw_; rw [p22_0 46 (by omega)]; exact k17
        have k28 : am g21 := by unfold am; rw [p22_0 41 (by omega)]; exact p12_0
        have o29 : owI (fun t => (g11 41 (6 + 3 * t))) (fun t => (g11 41 (7 + 3 * t))) (fun t => (g11 41 (8 + 3 * t))) (g11 41 5).toInt (g11 41 4).toInt.toNat (g21 45) := p22_1
        clear p22_1
        have w39_g21 : g21 39 = h 39 := (p22_0 39 (by omega)).trans w39_g11
        have w40_g21 : g21 40 = h 40 := (p22_0 40 (by omega)).trans w40_g11
        show qm_PW X 181 [.ref 39, .int a] g21 _
        refine ty_181 X g21 a (by have ⟨⟨_, _⟩, ⟨_, _⟩, ⟨_, _⟩, ⟨_, _⟩, _, _⟩ := hmmi; omega) _ (fun r30 p31 => ?_)
        have o32 : r30.toInt = (g21 45 (4 * (a.toInt / 10).toNat + (a.toInt % 10).toNat)).toInt := p31
        clear p31
        show Q (some (.int r30)) g21
        exact hq r30 g21 ⟨k24, k25, k26, k27, (fun k hk => f23 k hk), (by show r30.toInt = qOwed a.toInt b.toInt (mR h); have e1 := o29 (a.toInt / 10).toNat (a.toInt % 10).toNat (by omega) (by omega); rw [show 10 * (((a.toInt / 10).toNat : Nat) : Int) + (((a.toInt % 10).toNat : Nat) : Int) = a.toInt by omega, show (g11 41 4) = h 40 4 from sA_g11 4 (by decide), ow_41 sA_g11 (by omega)] at e1; exact (o32.trans e1).trans (show qOwed a.toInt b.toInt (mR h) = _ from owed_ok ⟨by omega, by omega⟩ (Or.inr ⟨by omega, (congrArg Int32.toInt (sA_g11 5 (by decide)))⟩)).symm)⟩
      · have := ti_eqK 0 rfl c20
        refine ty_180 X g11 (9 : Int32) p12_0 _ (fun g33 p34 => ?_)
        obtain ⟨p34_0, p34_1⟩ := p34
        have f35 : ∀ k, (k < 41 ∨ 45 < k ∨ k = 42 ∨ k = 43 ∨ k = 44) → g33 k = h k := fun k hk => (p34_0 k (by omega)).trans (f13 k hk)
        have k36 : mi g33 := by unfold mi; rw [p34_0 39 (by omega)]; exact k14
        have k37 : sm g33 := by unfold sm; rw [p34_0 40 (by omega)]; exact k15
        have k38 : zs g33 := by unfold zs; rw [p34_0 49 (by omega)]; exact k16
        have k39 : rw_ g33 := by unfold rw_; rw [p34_0 46 (by omega)]; exact k17
        have k40 : am g33 := by unfold am; rw [p34_0 41 (by omega)]; exact p12_0
        have o41 : owI (fun t => (g11 41 (6 + 3 * t))) (fun t => (g11 41 (7 + 3 * t))) (fun t => (g11 41 (8 + 3 * t))) (9 : Int32).toInt (g11 41 4).toInt.toNat (g33 45) := p34_1
        clear p34_1
        have w39_g33 : g33 39 = h 39 := (p34_0 39 (by omega)).trans w39_g11
        have w40_g33 : g33 40 = h 40 := (p34_0 40 (by omega)).trans w40_g11
        show qm_PW X 181 [.ref 39, .int a] g33 _
        refine ty_181 X g33 a (by have : (9 : Int32).toInt = 9 := rfl; have ⟨⟨_, _⟩, ⟨_, _⟩, ⟨_, _⟩, ⟨_, _⟩, _, _⟩ := hmmi; omega) _ (fun r42 p43 => ?_)
        have o44 : r42.toInt = (g33 45 (4 * (a.toInt / 10).toNat + (a.toInt % 10).toNat)).toInt := p43
        clear p43
        show Q (some (.int r42)) g33
        exact hq r42 g33 ⟨k36, k37, k38, k39, (fun k hk => f35 k hk), (by show r42.toInt = qOwed a.toInt b.toInt (mR h); have e1 := o41 (a.toInt / 10).toNat (a.toInt % 10).toNat (by omega) (by omega); rw [show 10 * (((a.toInt / 10).toNat : Nat) : Int) + (((a.toInt % 10).toNat : Nat) : Int) = a.toInt by omega, show (g11 41 4) = h 40 4 from sA_g11 4 (by decide), ow_41 sA_g11 (by omega)] at e1; exact (o44.trans e1).trans (show qOwed a.toInt b.toInt (mR h) = _ from owed_ok ⟨by omega, by omega⟩ (Or.inl ⟨by omega, rfl⟩)).symm)⟩
    · have := ti_eqK 0 rfl c10
      exact hq (-1 : Int32) h ⟨hmmi, hmsm, hmzs, hmrw, (fun k hk => rfl), (by show (-1 : Int32).toInt = qOwed a.toInt b.toInt (mR h); rw [ti_n1]; exact (show qOwed a.toInt b.toInt (mR h) = _ from owed_no (by omega)).symm)⟩
