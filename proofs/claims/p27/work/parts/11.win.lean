/-! ===== windows of the law's code ===== -/
theorem qm_find_skip {A B : List qm_E} {lo pc : Nat} {I : qm_I} (hA : A.all (fun e => Nat.blt e.1 lo) = true) (hp : lo ≤ pc) (h : qm_find B pc = some I) : qm_find (A ++ B) pc = some I := by
  induction A with
  | nil => exact h
  | cons e t ih =>
    obtain ⟨k, J, j, p⟩ := e
    rw [List.all_cons, Bool.and_eq_true] at hA
    have hk : k < lo := Nat.blt_eq.mp hA.1
    show (if k = pc then some J else qm_find (t ++ B) pc) = some I
    rw [if_neg (by omega)]
    exact ih hA.2
theorem qm_find_in {A B : List qm_E} {pc : Nat} {I : qm_I} (h : qm_find A pc = some I) : qm_find (A ++ B) pc = some I := by
  induction A with
  | nil => cases h
  | cons e t ih =>
    obtain ⟨k, J, j, p⟩ := e
    have h : (if k = pc then some J else qm_find t pc) = some I := h
    show (if k = pc then some J else qm_find (t ++ B) pc) = some I
    by_cases hk : k = pc
    · rw [if_pos hk] at h ⊢
      exact h
    · rw [if_neg hk] at h ⊢
      exact ih h
theorem qm_find_app {A B : List qm_E} {pc : Nat} {I : qm_I} (h : qm_find (A ++ B) pc = some I) : qm_find A pc = some I ∨ qm_find B pc = some I := by
  induction A with
  | nil => exact Or.inr h
  | cons e t ih =>
    obtain ⟨k, J, j, p⟩ := e
    have h : (if k = pc then some J else qm_find (t ++ B) pc) = some I := h
    show (if k = pc then some J else qm_find t pc) = some I ∨ qm_find B pc = some I
    by_cases hk : k = pc
    · rw [if_pos hk] at h ⊢
      exact Or.inl h
    · rw [if_neg hk] at h ⊢
      exact ih h
theorem qm_find_lo {A : List qm_E} {lo pc : Nat} {I : qm_I} (hA : A.all (fun e => Nat.ble lo e.1) = true) (h : qm_find A pc = some I) : lo ≤ pc := by
  obtain ⟨j, p, hm⟩ := qm_find_mem h
  exact Nat.le_of_ble_eq_true (List.all_eq_true.mp hA _ hm)
theorem qm_seg_okw {X : qm_X} {mid : Nat} {C : List qm_E} {rt : Option FieldType} {cuts : List (Nat × List Nat)} {Q : qm_Q} (hS : ∀ (pc : Nat) (I : qm_I), qm_find C pc = some I → qm_at mid pc = some I) (hrt : qm_ret mid = rt) : ∀ (n pc : Nat) (lv : qm_L) (st : List Value) (h : qm_H), qm_seg X mid C rt cuts Q n pc lv st h → qm_PA X mid pc lv st h Q := by
  intro n
  induction n with
  | zero => intro pc lv st h k; exact k
  | succ n ih =>
    intro pc lv st h k
    unfold qm_seg at k
    split at k
    · exact k.elim
    · rename_i I hI
      refine qm_step (I := I) (hS _ _ hI) ?_
      rw [hrt]
      refine qm_ins_mono (fun pc' lv' st' h' k' => ?_) (fun m as P P' hP k' => ?_) k
      · split at k'
        · exact qm_PA.fewer qm_live_sub k'
        · exact ih pc' lv' st' h' k'
      · split at k'
        · exact k'.elim
        · rename_i hne
          exact ⟨hne, qm_PA.mono hP k'⟩
theorem qkp_16 : ∀ (pc : Nat) (I : qm_I), 16 ≤ pc → qm_find qr_16 pc = some I → qm_at 239 pc = some I := fun _ _ _ h => h
theorem qkp_208 : ∀ (pc : Nat) (I : qm_I), 208 ≤ pc → qm_find qr_208 pc = some I → qm_at 239 pc = some I := fun pc I h0 h => qkp_16 pc I (by omega) (qm_find_skip (A := qk_16) (lo := 208) (by decide +kernel) h0 h)
theorem qkp_231 : ∀ (pc : Nat) (I : qm_I), 231 ≤ pc → qm_find qr_231 pc = some I → qm_at 239 pc = some I := fun pc I h0 h => qkp_208 pc I (by omega) (qm_find_skip (A := qk_208) (lo := 231) (by decide +kernel) h0 h)
theorem qkp_254 : ∀ (pc : Nat) (I : qm_I), 254 ≤ pc → qm_find qr_254 pc = some I → qm_at 239 pc = some I := fun pc I h0 h => qkp_231 pc I (by omega) (qm_find_skip (A := qk_231) (lo := 254) (by decide +kernel) h0 h)
theorem qkp_267 : ∀ (pc : Nat) (I : qm_I), 267 ≤ pc → qm_find qr_267 pc = some I → qm_at 239 pc = some I := fun pc I h0 h => qkp_254 pc I (by omega) (qm_find_skip (A := qk_254) (lo := 267) (by decide +kernel) h0 h)
theorem qkp_280 : ∀ (pc : Nat) (I : qm_I), 280 ≤ pc → qm_find qr_280 pc = some I → qm_at 239 pc = some I := fun pc I h0 h => qkp_267 pc I (by omega) (qm_find_skip (A := qk_267) (lo := 280) (by decide +kernel) h0 h)
theorem qkp_303 : ∀ (pc : Nat) (I : qm_I), 303 ≤ pc → qm_find qr_303 pc = some I → qm_at 239 pc = some I := fun pc I h0 h => qkp_280 pc I (by omega) (qm_find_skip (A := qk_280) (lo := 303) (by decide +kernel) h0 h)
theorem qkp_336 : ∀ (pc : Nat) (I : qm_I), 336 ≤ pc → qm_find qr_336 pc = some I → qm_at 239 pc = some I := fun pc I h0 h => qkp_303 pc I (by omega) (qm_find_skip (A := qk_303) (lo := 336) (by decide +kernel) h0 h)
theorem qkp_369 : ∀ (pc : Nat) (I : qm_I), 369 ≤ pc → qm_find qr_369 pc = some I → qm_at 239 pc = some I := fun pc I h0 h => qkp_336 pc I (by omega) (qm_find_skip (A := qk_336) (lo := 369) (by decide +kernel) h0 h)
theorem qkp_402 : ∀ (pc : Nat) (I : qm_I), 402 ≤ pc → qm_find qr_402 pc = some I → qm_at 239 pc = some I := fun pc I h0 h => qkp_369 pc I (by omega) (qm_find_skip (A := qk_369) (lo := 402) (by decide +kernel) h0 h)
theorem qkp_445 : ∀ (pc : Nat) (I : qm_I), 445 ≤ pc → qm_find qr_445 pc = some I → qm_at 239 pc = some I := fun pc I h0 h => qkp_402 pc I (by omega) (qm_find_skip (A := qk_402) (lo := 445) (by decide +kernel) h0 h)
theorem qkp_468 : ∀ (pc : Nat) (I : qm_I), 468 ≤ pc → qm_find qr_468 pc = some I → qm_at 239 pc = some I := fun pc I h0 h => qkp_445 pc I (by omega) (qm_find_skip (A := qk_445) (lo := 468) (by decide +kernel) h0 h)
theorem qkp_501 : ∀ (pc : Nat) (I : qm_I), 501 ≤ pc → qm_find qr_501 pc = some I → qm_at 239 pc = some I := fun pc I h0 h => qkp_468 pc I (by omega) (qm_find_skip (A := qk_468) (lo := 501) (by decide +kernel) h0 h)
theorem qkp_524 : ∀ (pc : Nat) (I : qm_I), 524 ≤ pc → qm_find qr_524 pc = some I → qm_at 239 pc = some I := fun pc I h0 h => qkp_501 pc I (by omega) (qm_find_skip (A := qk_501) (lo := 524) (by decide +kernel) h0 h)
theorem qkp_557 : ∀ (pc : Nat) (I : qm_I), 557 ≤ pc → qm_find qr_557 pc = some I → qm_at 239 pc = some I := fun pc I h0 h => qkp_524 pc I (by omega) (qm_find_skip (A := qk_524) (lo := 557) (by decide +kernel) h0 h)
theorem qkp_580 : ∀ (pc : Nat) (I : qm_I), 580 ≤ pc → qm_find qr_580 pc = some I → qm_at 239 pc = some I := fun pc I h0 h => qkp_557 pc I (by omega) (qm_find_skip (A := qk_557) (lo := 580) (by decide +kernel) h0 h)
theorem qkp_613 : ∀ (pc : Nat) (I : qm_I), 613 ≤ pc → qm_find qr_613 pc = some I → qm_at 239 pc = some I := fun pc I h0 h => qkp_580 pc I (by omega) (qm_find_skip (A := qk_580) (lo := 613) (by decide +kernel) h0 h)
theorem qkp_636 : ∀ (pc : Nat) (I : qm_I), 636 ≤ pc → qm_find qr_636 pc = some I → qm_at 239 pc = some I := fun pc I h0 h => qkp_613 pc I (by omega) (qm_find_skip (A := qk_613) (lo := 636) (by decide +kernel) h0 h)
theorem qkp_659 : ∀ (pc : Nat) (I : qm_I), 659 ≤ pc → qm_find qr_659 pc = some I → qm_at 239 pc = some I := fun pc I h0 h => qkp_636 pc I (by omega) (qm_find_skip (A := qk_636) (lo := 659) (by decide +kernel) h0 h)
theorem qkp_682 : ∀ (pc : Nat) (I : qm_I), 682 ≤ pc → qm_find qr_682 pc = some I → qm_at 239 pc = some I := fun pc I h0 h => qkp_659 pc I (by omega) (qm_find_skip (A := qk_659) (lo := 682) (by decide +kernel) h0 h)
theorem qkp_705 : ∀ (pc : Nat) (I : qm_I), 705 ≤ pc → qm_find qr_705 pc = some I → qm_at 239 pc = some I := fun pc I h0 h => qkp_682 pc I (by omega) (qm_find_skip (A := qk_682) (lo := 705) (by decide +kernel) h0 h)
theorem qkp_718 : ∀ (pc : Nat) (I : qm_I), 718 ≤ pc → qm_find qr_718 pc = some I → qm_at 239 pc = some I := fun pc I h0 h => qkp_705 pc I (by omega) (qm_find_skip (A := qk_705) (lo := 718) (by decide +kernel) h0 h)
theorem qkp_731 : ∀ (pc : Nat) (I : qm_I), 731 ≤ pc → qm_find qr_731 pc = some I → qm_at 239 pc = some I := fun pc I h0 h => qkp_718 pc I (by omega) (qm_find_skip (A := qk_718) (lo := 731) (by decide +kernel) h0 h)
theorem qkp_744 : ∀ (pc : Nat) (I : qm_I), 744 ≤ pc → qm_find qr_744 pc = some I → qm_at 239 pc = some I := fun pc I h0 h => qkp_731 pc I (by omega) (qm_find_skip (A := qk_731) (lo := 744) (by decide +kernel) h0 h)
theorem qkp_767 : ∀ (pc : Nat) (I : qm_I), 767 ≤ pc → qm_find qr_767 pc = some I → qm_at 239 pc = some I := fun pc I h0 h => qkp_744 pc I (by omega) (qm_find_skip (A := qk_744) (lo := 767) (by decide +kernel) h0 h)
theorem qkp_780 : ∀ (pc : Nat) (I : qm_I), 780 ≤ pc → qm_find qr_780 pc = some I → qm_at 239 pc = some I := fun pc I h0 h => qkp_767 pc I (by omega) (qm_find_skip (A := qk_767) (lo := 780) (by decide +kernel) h0 h)
theorem qkp_803 : ∀ (pc : Nat) (I : qm_I), 803 ≤ pc → qm_find qr_803 pc = some I → qm_at 239 pc = some I := fun pc I h0 h => qkp_780 pc I (by omega) (qm_find_skip (A := qk_780) (lo := 803) (by decide +kernel) h0 h)
theorem qkp_826 : ∀ (pc : Nat) (I : qm_I), 826 ≤ pc → qm_find qr_826 pc = some I → qm_at 239 pc = some I := fun pc I h0 h => qkp_803 pc I (by omega) (qm_find_skip (A := qk_803) (lo := 826) (by decide +kernel) h0 h)
theorem qkp_869 : ∀ (pc : Nat) (I : qm_I), 869 ≤ pc → qm_find qr_869 pc = some I → qm_at 239 pc = some I := fun pc I h0 h => qkp_826 pc I (by omega) (qm_find_skip (A := qk_826) (lo := 869) (by decide +kernel) h0 h)
theorem qkp_902 : ∀ (pc : Nat) (I : qm_I), 902 ≤ pc → qm_find qr_902 pc = some I → qm_at 239 pc = some I := fun pc I h0 h => qkp_869 pc I (by omega) (qm_find_skip (A := qk_869) (lo := 902) (by decide +kernel) h0 h)
theorem qkp_935 : ∀ (pc : Nat) (I : qm_I), 935 ≤ pc → qm_find qr_935 pc = some I → qm_at 239 pc = some I := fun pc I h0 h => qkp_902 pc I (by omega) (qm_find_skip (A := qk_902) (lo := 935) (by decide +kernel) h0 h)
theorem qkp_968 : ∀ (pc : Nat) (I : qm_I), 968 ≤ pc → qm_find qr_968 pc = some I → qm_at 239 pc = some I := fun pc I h0 h => qkp_935 pc I (by omega) (qm_find_skip (A := qk_935) (lo := 968) (by decide +kernel) h0 h)
theorem qkp_991 : ∀ (pc : Nat) (I : qm_I), 991 ≤ pc → qm_find qr_991 pc = some I → qm_at 239 pc = some I := fun pc I h0 h => qkp_968 pc I (by omega) (qm_find_skip (A := qk_968) (lo := 991) (by decide +kernel) h0 h)
theorem qkp_1014 : ∀ (pc : Nat) (I : qm_I), 1014 ≤ pc → qm_find qr_1014 pc = some I → qm_at 239 pc = some I := fun pc I h0 h => qkp_991 pc I (by omega) (qm_find_skip (A := qk_991) (lo := 1014) (by decide +kernel) h0 h)
theorem qkp_1057 : ∀ (pc : Nat) (I : qm_I), 1057 ≤ pc → qm_find qr_1057 pc = some I → qm_at 239 pc = some I := fun pc I h0 h => qkp_1014 pc I (by omega) (qm_find_skip (A := qk_1014) (lo := 1057) (by decide +kernel) h0 h)
theorem qkp_1080 : ∀ (pc : Nat) (I : qm_I), 1080 ≤ pc → qm_find qr_1080 pc = some I → qm_at 239 pc = some I := fun pc I h0 h => qkp_1057 pc I (by omega) (qm_find_skip (A := qk_1057) (lo := 1080) (by decide +kernel) h0 h)
theorem qkp_1103 : ∀ (pc : Nat) (I : qm_I), 1103 ≤ pc → qm_find qr_1103 pc = some I → qm_at 239 pc = some I := fun pc I h0 h => qkp_1080 pc I (by omega) (qm_find_skip (A := qk_1080) (lo := 1103) (by decide +kernel) h0 h)
theorem qkp_1146 : ∀ (pc : Nat) (I : qm_I), 1146 ≤ pc → qm_find qr_1146 pc = some I → qm_at 239 pc = some I := fun pc I h0 h => qkp_1103 pc I (by omega) (qm_find_skip (A := qk_1103) (lo := 1146) (by decide +kernel) h0 h)
theorem qkp_1189 : ∀ (pc : Nat) (I : qm_I), 1189 ≤ pc → qm_find qr_1189 pc = some I → qm_at 239 pc = some I := fun pc I h0 h => qkp_1146 pc I (by omega) (qm_find_skip (A := qk_1146) (lo := 1189) (by decide +kernel) h0 h)
theorem qkp_1242 : ∀ (pc : Nat) (I : qm_I), 1242 ≤ pc → qm_find qr_1242 pc = some I → qm_at 239 pc = some I := fun pc I h0 h => qkp_1189 pc I (by omega) (qm_find_skip (A := qk_1189) (lo := 1242) (by decide +kernel) h0 h)
theorem qkp_1255 : ∀ (pc : Nat) (I : qm_I), 1255 ≤ pc → qm_find qr_1255 pc = some I → qm_at 239 pc = some I := fun pc I h0 h => qkp_1242 pc I (by omega) (qm_find_skip (A := qk_1242) (lo := 1255) (by decide +kernel) h0 h)
theorem qkp_1278 : ∀ (pc : Nat) (I : qm_I), 1278 ≤ pc → qm_find qr_1278 pc = some I → qm_at 239 pc = some I := fun pc I h0 h => qkp_1255 pc I (by omega) (qm_find_skip (A := qk_1255) (lo := 1278) (by decide +kernel) h0 h)
theorem qkq_208 : ∀ (pc : Nat) (I : qm_I), qm_find qk_208 pc = some I → qm_at 239 pc = some I := fun pc I h => qkp_208 pc I (qm_find_lo (by decide +kernel) h) (qm_find_in h)
theorem qkq_231 : ∀ (pc : Nat) (I : qm_I), qm_find qk_231 pc = some I → qm_at 239 pc = some I := fun pc I h => qkp_231 pc I (qm_find_lo (by decide +kernel) h) (qm_find_in h)
theorem qkq_254 : ∀ (pc : Nat) (I : qm_I), qm_find qk_254 pc = some I → qm_at 239 pc = some I := fun pc I h => qkp_254 pc I (qm_find_lo (by decide +kernel) h) (qm_find_in h)
theorem qkq_267 : ∀ (pc : Nat) (I : qm_I), qm_find qk_267 pc = some I → qm_at 239 pc = some I := fun pc I h => qkp_267 pc I (qm_find_lo (by decide +kernel) h) (qm_find_in h)
theorem qkq_280 : ∀ (pc : Nat) (I : qm_I), qm_find qk_280 pc = some I → qm_at 239 pc = some I := fun pc I h => qkp_280 pc I (qm_find_lo (by decide +kernel) h) (qm_find_in h)
theorem qkq_303 : ∀ (pc : Nat) (I : qm_I), qm_find qk_303 pc = some I → qm_at 239 pc = some I := fun pc I h => qkp_303 pc I (qm_find_lo (by decide +kernel) h) (qm_find_in h)
theorem qkq_336 : ∀ (pc : Nat) (I : qm_I), qm_find qk_336 pc = some I → qm_at 239 pc = some I := fun pc I h => qkp_336 pc I (qm_find_lo (by decide +kernel) h) (qm_find_in h)
theorem qkq_369 : ∀ (pc : Nat) (I : qm_I), qm_find qk_369 pc = some I → qm_at 239 pc = some I := fun pc I h => qkp_369 pc I (qm_find_lo (by decide +kernel) h) (qm_find_in h)
theorem qkq_402 : ∀ (pc : Nat) (I : qm_I), qm_find qk_402 pc = some I → qm_at 239 pc = some I := fun pc I h => qkp_402 pc I (qm_find_lo (by decide +kernel) h) (qm_find_in h)
theorem qkq_445 : ∀ (pc : Nat) (I : qm_I), qm_find qk_445 pc = some I → qm_at 239 pc = some I := fun pc I h => qkp_445 pc I (qm_find_lo (by decide +kernel) h) (qm_find_in h)
theorem qkq_468 : ∀ (pc : Nat) (I : qm_I), qm_find qk_468 pc = some I → qm_at 239 pc = some I := fun pc I h => qkp_468 pc I (qm_find_lo (by decide +kernel) h) (qm_find_in h)
theorem qkq_501 : ∀ (pc : Nat) (I : qm_I), qm_find qk_501 pc = some I → qm_at 239 pc = some I := fun pc I h => qkp_501 pc I (qm_find_lo (by decide +kernel) h) (qm_find_in h)
theorem qkq_524 : ∀ (pc : Nat) (I : qm_I), qm_find qk_524 pc = some I → qm_at 239 pc = some I := fun pc I h => qkp_524 pc I (qm_find_lo (by decide +kernel) h) (qm_find_in h)
theorem qkq_557 : ∀ (pc : Nat) (I : qm_I), qm_find qk_557 pc = some I → qm_at 239 pc = some I := fun pc I h => qkp_557 pc I (qm_find_lo (by decide +kernel) h) (qm_find_in h)
theorem qkq_580 : ∀ (pc : Nat) (I : qm_I), qm_find qk_580 pc = some I → qm_at 239 pc = some I := fun pc I h => qkp_580 pc I (qm_find_lo (by decide +kernel) h) (qm_find_in h)
theorem qkq_613 : ∀ (pc : Nat) (I : qm_I), qm_find qk_613 pc = some I → qm_at 239 pc = some I := fun pc I h => qkp_613 pc I (qm_find_lo (by decide +kernel) h) (qm_find_in h)
theorem qkq_636 : ∀ (pc : Nat) (I : qm_I), qm_find qk_636 pc = some I → qm_at 239 pc = some I := fun pc I h => qkp_636 pc I (qm_find_lo (by decide +kernel) h) (qm_find_in h)
theorem qkq_659 : ∀ (pc : Nat) (I : qm_I), qm_find qk_659 pc = some I → qm_at 239 pc = some I := fun pc I h => qkp_659 pc I (qm_find_lo (by decide +kernel) h) (qm_find_in h)
theorem qkq_682 : ∀ (pc : Nat) (I : qm_I), qm_find qk_682 pc = some I → qm_at 239 pc = some I := fun pc I h => qkp_682 pc I (qm_find_lo (by decide +kernel) h) (qm_find_in h)
theorem qkq_705 : ∀ (pc : Nat) (I : qm_I), qm_find qk_705 pc = some I → qm_at 239 pc = some I := fun pc I h => qkp_705 pc I (qm_find_lo (by decide +kernel) h) (qm_find_in h)
theorem qkq_718 : ∀ (pc : Nat) (I : qm_I), qm_find qk_718 pc = some I → qm_at 239 pc = some I := fun pc I h => qkp_718 pc I (qm_find_lo (by decide +kernel) h) (qm_find_in h)
theorem qkq_731 : ∀ (pc : Nat) (I : qm_I), qm_find qk_731 pc = some I → qm_at 239 pc = some I := fun pc I h => qkp_731 pc I (qm_find_lo (by decide +kernel) h) (qm_find_in h)
theorem qkq_744 : ∀ (pc : Nat) (I : qm_I), qm_find qk_744 pc = some I → qm_at 239 pc = some I := fun pc I h => qkp_744 pc I (qm_find_lo (by decide +kernel) h) (qm_find_in h)
theorem qkq_767 : ∀ (pc : Nat) (I : qm_I), qm_find qk_767 pc = some I → qm_at 239 pc = some I := fun pc I h => qkp_767 pc I (qm_find_lo (by decide +kernel) h) (qm_find_in h)
theorem qkq_780 : ∀ (pc : Nat) (I : qm_I), qm_find qk_780 pc = some I → qm_at 239 pc = some I := fun pc I h => qkp_780 pc I (qm_find_lo (by decide +kernel) h) (qm_find_in h)
theorem qkq_803 : ∀ (pc : Nat) (I : qm_I), qm_find qk_803 pc = some I → qm_at 239 pc = some I := fun pc I h => qkp_803 pc I (qm_find_lo (by decide +kernel) h) (qm_find_in h)
theorem qkq_826 : ∀ (pc : Nat) (I : qm_I), qm_find qk_826 pc = some I → qm_at 239 pc = some I := fun pc I h => qkp_826 pc I (qm_find_lo (by decide +kernel) h) (qm_find_in h)
theorem qkq_869 : ∀ (pc : Nat) (I : qm_I), qm_find qk_869 pc = some I → qm_at 239 pc = some I := fun pc I h => qkp_869 pc I (qm_find_lo (by decide +kernel) h) (qm_find_in h)
theorem qkq_902 : ∀ (pc : Nat) (I : qm_I), qm_find qk_902 pc = some I → qm_at 239 pc = some I := fun pc I h => qkp_902 pc I (qm_find_lo (by decide +kernel) h) (qm_find_in h)
theorem qkq_935 : ∀ (pc : Nat) (I : qm_I), qm_find qk_935 pc = some I → qm_at 239 pc = some I := fun pc I h => qkp_935 pc I (qm_find_lo (by decide +kernel) h) (qm_find_in h)
theorem qkq_968 : ∀ (pc : Nat) (I : qm_I), qm_find qk_968 pc = some I → qm_at 239 pc = some I := fun pc I h => qkp_968 pc I (qm_find_lo (by decide +kernel) h) (qm_find_in h)
theorem qkq_991 : ∀ (pc : Nat) (I : qm_I), qm_find qk_991 pc = some I → qm_at 239 pc = some I := fun pc I h => qkp_991 pc I (qm_find_lo (by decide +kernel) h) (qm_find_in h)
theorem qkq_1014 : ∀ (pc : Nat) (I : qm_I), qm_find qk_1014 pc = some I → qm_at 239 pc = some I := fun pc I h => qkp_1014 pc I (qm_find_lo (by decide +kernel) h) (qm_find_in h)
theorem qkq_1057 : ∀ (pc : Nat) (I : qm_I), qm_find qk_1057 pc = some I → qm_at 239 pc = some I := fun pc I h => qkp_1057 pc I (qm_find_lo (by decide +kernel) h) (qm_find_in h)
theorem qkq_1080 : ∀ (pc : Nat) (I : qm_I), qm_find qk_1080 pc = some I → qm_at 239 pc = some I := fun pc I h => qkp_1080 pc I (qm_find_lo (by decide +kernel) h) (qm_find_in h)
theorem qkq_1103 : ∀ (pc : Nat) (I : qm_I), qm_find qk_1103 pc = some I → qm_at 239 pc = some I := fun pc I h => qkp_1103 pc I (qm_find_lo (by decide +kernel) h) (qm_find_in h)
theorem qkq_1146 : ∀ (pc : Nat) (I : qm_I), qm_find qk_1146 pc = some I → qm_at 239 pc = some I := fun pc I h => qkp_1146 pc I (qm_find_lo (by decide +kernel) h) (qm_find_in h)
theorem qkq_1189 : ∀ (pc : Nat) (I : qm_I), qm_find qk_1189 pc = some I → qm_at 239 pc = some I := fun pc I h => qkp_1189 pc I (qm_find_lo (by decide +kernel) h) (qm_find_in h)
theorem qkq_1242 : ∀ (pc : Nat) (I : qm_I), qm_find qk_1242 pc = some I → qm_at 239 pc = some I := fun pc I h => qkp_1242 pc I (qm_find_lo (by decide +kernel) h) (qm_find_in h)
theorem qkq_1255 : ∀ (pc : Nat) (I : qm_I), qm_find qk_1255 pc = some I → qm_at 239 pc = some I := fun pc I h => qkp_1255 pc I (qm_find_lo (by decide +kernel) h) (qm_find_in h)
theorem qkq_1278 : ∀ (pc : Nat) (I : qm_I), qm_find qk_1278 pc = some I → qm_at 239 pc = some I := fun pc I h => qkp_1278 pc I (qm_find_lo (by decide +kernel) h) (h)
theorem qkw_208 : ∀ (pc : Nat) (I : qm_I), qm_find (qk_208 ++ qk_1278) pc = some I → qm_at 239 pc = some I := fun pc I h => (qm_find_app h).elim (qkq_208 pc I) (qkq_1278 pc I)
theorem qkw_231 : ∀ (pc : Nat) (I : qm_I), qm_find (qk_231 ++ qk_1278) pc = some I → qm_at 239 pc = some I := fun pc I h => (qm_find_app h).elim (qkq_231 pc I) (qkq_1278 pc I)
theorem qkw_254 : ∀ (pc : Nat) (I : qm_I), qm_find (qk_254 ++ qk_1278) pc = some I → qm_at 239 pc = some I := fun pc I h => (qm_find_app h).elim (qkq_254 pc I) (qkq_1278 pc I)
theorem qkw_267 : ∀ (pc : Nat) (I : qm_I), qm_find (qk_267 ++ qk_1278) pc = some I → qm_at 239 pc = some I := fun pc I h => (qm_find_app h).elim (qkq_267 pc I) (qkq_1278 pc I)
theorem qkw_280 : ∀ (pc : Nat) (I : qm_I), qm_find (qk_280 ++ qk_1278) pc = some I → qm_at 239 pc = some I := fun pc I h => (qm_find_app h).elim (qkq_280 pc I) (qkq_1278 pc I)
theorem qkw_303 : ∀ (pc : Nat) (I : qm_I), qm_find (qk_303 ++ qk_1278) pc = some I → qm_at 239 pc = some I := fun pc I h => (qm_find_app h).elim (qkq_303 pc I) (qkq_1278 pc I)
theorem qkw_336 : ∀ (pc : Nat) (I : qm_I), qm_find (qk_336 ++ qk_1278) pc = some I → qm_at 239 pc = some I := fun pc I h => (qm_find_app h).elim (qkq_336 pc I) (qkq_1278 pc I)
theorem qkw_369 : ∀ (pc : Nat) (I : qm_I), qm_find (qk_369 ++ qk_1278) pc = some I → qm_at 239 pc = some I := fun pc I h => (qm_find_app h).elim (qkq_369 pc I) (qkq_1278 pc I)
theorem qkw_402 : ∀ (pc : Nat) (I : qm_I), qm_find (qk_402 ++ qk_1278) pc = some I → qm_at 239 pc = some I := fun pc I h => (qm_find_app h).elim (qkq_402 pc I) (qkq_1278 pc I)
theorem qkw_445 : ∀ (pc : Nat) (I : qm_I), qm_find (qk_445 ++ qk_1278) pc = some I → qm_at 239 pc = some I := fun pc I h => (qm_find_app h).elim (qkq_445 pc I) (qkq_1278 pc I)
theorem qkw_468 : ∀ (pc : Nat) (I : qm_I), qm_find (qk_468 ++ qk_1278) pc = some I → qm_at 239 pc = some I := fun pc I h => (qm_find_app h).elim (qkq_468 pc I) (qkq_1278 pc I)
theorem qkw_501 : ∀ (pc : Nat) (I : qm_I), qm_find (qk_501 ++ qk_1278) pc = some I → qm_at 239 pc = some I := fun pc I h => (qm_find_app h).elim (qkq_501 pc I) (qkq_1278 pc I)
theorem qkw_524 : ∀ (pc : Nat) (I : qm_I), qm_find (qk_524 ++ qk_1278) pc = some I → qm_at 239 pc = some I := fun pc I h => (qm_find_app h).elim (qkq_524 pc I) (qkq_1278 pc I)
theorem qkw_557 : ∀ (pc : Nat) (I : qm_I), qm_find (qk_557 ++ qk_1278) pc = some I → qm_at 239 pc = some I := fun pc I h => (qm_find_app h).elim (qkq_557 pc I) (qkq_1278 pc I)
theorem qkw_580 : ∀ (pc : Nat) (I : qm_I), qm_find (qk_580 ++ qk_1278) pc = some I → qm_at 239 pc = some I := fun pc I h => (qm_find_app h).elim (qkq_580 pc I) (qkq_1278 pc I)
theorem qkw_613 : ∀ (pc : Nat) (I : qm_I), qm_find (qk_613 ++ qk_1278) pc = some I → qm_at 239 pc = some I := fun pc I h => (qm_find_app h).elim (qkq_613 pc I) (qkq_1278 pc I)
theorem qkw_636 : ∀ (pc : Nat) (I : qm_I), qm_find (qk_636 ++ qk_1278) pc = some I → qm_at 239 pc = some I := fun pc I h => (qm_find_app h).elim (qkq_636 pc I) (qkq_1278 pc I)
theorem qkw_659 : ∀ (pc : Nat) (I : qm_I), qm_find (qk_659 ++ qk_1278) pc = some I → qm_at 239 pc = some I := fun pc I h => (qm_find_app h).elim (qkq_659 pc I) (qkq_1278 pc I)
theorem qkw_682 : ∀ (pc : Nat) (I : qm_I), qm_find (qk_682 ++ qk_1278) pc = some I → qm_at 239 pc = some I := fun pc I h => (qm_find_app h).elim (qkq_682 pc I) (qkq_1278 pc I)
theorem qkw_705 : ∀ (pc : Nat) (I : qm_I), qm_find (qk_705 ++ qk_1278) pc = some I → qm_at 239 pc = some I := fun pc I h => (qm_find_app h).elim (qkq_705 pc I) (qkq_1278 pc I)
theorem qkw_718 : ∀ (pc : Nat) (I : qm_I), qm_find (qk_718 ++ qk_1278) pc = some I → qm_at 239 pc = some I := fun pc I h => (qm_find_app h).elim (qkq_718 pc I) (qkq_1278 pc I)
theorem qkw_731 : ∀ (pc : Nat) (I : qm_I), qm_find (qk_731 ++ qk_1278) pc = some I → qm_at 239 pc = some I := fun pc I h => (qm_find_app h).elim (qkq_731 pc I) (qkq_1278 pc I)
theorem qkw_744 : ∀ (pc : Nat) (I : qm_I), qm_find (qk_744 ++ qk_1278) pc = some I → qm_at 239 pc = some I := fun pc I h => (qm_find_app h).elim (qkq_744 pc I) (qkq_1278 pc I)
theorem qkw_767 : ∀ (pc : Nat) (I : qm_I), qm_find (qk_767 ++ qk_1278) pc = some I → qm_at 239 pc = some I := fun pc I h => (qm_find_app h).elim (qkq_767 pc I) (qkq_1278 pc I)
theorem qkw_780 : ∀ (pc : Nat) (I : qm_I), qm_find (qk_780 ++ qk_1278) pc = some I → qm_at 239 pc = some I := fun pc I h => (qm_find_app h).elim (qkq_780 pc I) (qkq_1278 pc I)
theorem qkw_803 : ∀ (pc : Nat) (I : qm_I), qm_find (qk_803 ++ qk_1278) pc = some I → qm_at 239 pc = some I := fun pc I h => (qm_find_app h).elim (qkq_803 pc I) (qkq_1278 pc I)
theorem qkw_826 : ∀ (pc : Nat) (I : qm_I), qm_find (qk_826 ++ qk_1278) pc = some I → qm_at 239 pc = some I := fun pc I h => (qm_find_app h).elim (qkq_826 pc I) (qkq_1278 pc I)
theorem qkw_869 : ∀ (pc : Nat) (I : qm_I), qm_find (qk_869 ++ qk_1278) pc = some I → qm_at 239 pc = some I := fun pc I h => (qm_find_app h).elim (qkq_869 pc I) (qkq_1278 pc I)
theorem qkw_902 : ∀ (pc : Nat) (I : qm_I), qm_find (qk_902 ++ qk_1278) pc = some I → qm_at 239 pc = some I := fun pc I h => (qm_find_app h).elim (qkq_902 pc I) (qkq_1278 pc I)
theorem qkw_935 : ∀ (pc : Nat) (I : qm_I), qm_find (qk_935 ++ qk_1278) pc = some I → qm_at 239 pc = some I := fun pc I h => (qm_find_app h).elim (qkq_935 pc I) (qkq_1278 pc I)
theorem qkw_968 : ∀ (pc : Nat) (I : qm_I), qm_find (qk_968 ++ qk_1278) pc = some I → qm_at 239 pc = some I := fun pc I h => (qm_find_app h).elim (qkq_968 pc I) (qkq_1278 pc I)
theorem qkw_991 : ∀ (pc : Nat) (I : qm_I), qm_find (qk_991 ++ qk_1278) pc = some I → qm_at 239 pc = some I := fun pc I h => (qm_find_app h).elim (qkq_991 pc I) (qkq_1278 pc I)
theorem qkw_1014 : ∀ (pc : Nat) (I : qm_I), qm_find (qk_1014 ++ qk_1278) pc = some I → qm_at 239 pc = some I := fun pc I h => (qm_find_app h).elim (qkq_1014 pc I) (qkq_1278 pc I)
theorem qkw_1057 : ∀ (pc : Nat) (I : qm_I), qm_find (qk_1057 ++ qk_1278) pc = some I → qm_at 239 pc = some I := fun pc I h => (qm_find_app h).elim (qkq_1057 pc I) (qkq_1278 pc I)
theorem qkw_1080 : ∀ (pc : Nat) (I : qm_I), qm_find (qk_1080 ++ qk_1278) pc = some I → qm_at 239 pc = some I := fun pc I h => (qm_find_app h).elim (qkq_1080 pc I) (qkq_1278 pc I)
theorem qkw_1103 : ∀ (pc : Nat) (I : qm_I), qm_find (qk_1103 ++ qk_1278) pc = some I → qm_at 239 pc = some I := fun pc I h => (qm_find_app h).elim (qkq_1103 pc I) (qkq_1278 pc I)
theorem qkw_1146 : ∀ (pc : Nat) (I : qm_I), qm_find (qk_1146 ++ qk_1278) pc = some I → qm_at 239 pc = some I := fun pc I h => (qm_find_app h).elim (qkq_1146 pc I) (qkq_1278 pc I)
theorem qkw_1189 : ∀ (pc : Nat) (I : qm_I), qm_find (qk_1189 ++ qk_1278) pc = some I → qm_at 239 pc = some I := fun pc I h => (qm_find_app h).elim (qkq_1189 pc I) (qkq_1278 pc I)
theorem qkw_1242 : ∀ (pc : Nat) (I : qm_I), qm_find (qk_1242 ++ qk_1278) pc = some I → qm_at 239 pc = some I := fun pc I h => (qm_find_app h).elim (qkq_1242 pc I) (qkq_1278 pc I)
theorem qkw_1255 : ∀ (pc : Nat) (I : qm_I), qm_find (qk_1255 ++ qk_1278) pc = some I → qm_at 239 pc = some I := fun pc I h => (qm_find_app h).elim (qkq_1255 pc I) (qkq_1278 pc I)
theorem qkw_1278 : ∀ (pc : Nat) (I : qm_I), qm_find (qk_1278 ++ qk_1278) pc = some I → qm_at 239 pc = some I := fun pc I h => (qm_find_app h).elim (qkq_1278 pc I) (qkq_1278 pc I)
