/-! ===== stretches: what a method needs from a pc to the next cuts, by evaluation ===== -/
noncomputable def qm_live (live : List Nat) (lv : qm_L) : qm_L := live.filterMap (fun k => (lv.lookup k).map (fun v => (k, v)))
noncomputable def qm_seg (X : qm_X) (mid : Nat) (C : List qm_E) (rt : Option FieldType) (cuts : List (Nat × List Nat)) (Q : qm_Q) : Nat → Nat → qm_L → List Value → qm_H → Prop
  | 0, pc, lv, st, h => qm_PA X mid pc lv st h Q
  | n + 1, pc, lv, st, h => match qm_find C pc with
    | none => False
    | some I => qm_ins X rt qm_cls qm_ml I lv st h (fun pc' lv' st' h' => match cuts.lookup pc' with
      | some live => qm_PA X mid pc' (qm_live live lv') st' h' Q
      | none => qm_seg X mid C rt cuts Q n pc' lv' st' h') (fun m as P => if m = 239 then False else qm_PW X m as h P) Q
theorem qm_live_sub {live : List Nat} {lv : qm_L} : ∀ q ∈ qm_live live lv, q ∈ lv := by
  intro q hq
  obtain ⟨k, -, h⟩ := List.mem_filterMap.mp hq
  cases hc : lv.lookup k with
  | none => rw [hc] at h; cases h
  | some v =>
    rw [hc] at h
    cases h
    exact qm_lk hc
theorem qm_seg_ok {X : qm_X} {mid : Nat} {C : List qm_E} {rt : Option FieldType} {cuts : List (Nat × List Nat)} {Q : qm_Q} (hC : qm_code mid = C) (hrt : qm_ret mid = rt) : ∀ (n pc : Nat) (lv : qm_L) (st : List Value) (h : qm_H), qm_seg X mid C rt cuts Q n pc lv st h → qm_PA X mid pc lv st h Q := by
  intro n
  induction n with
  | zero => intro pc lv st h k; exact k
  | succ n ih =>
    intro pc lv st h k
    unfold qm_seg at k
    split at k
    · exact k.elim
    · rename_i I hI
      refine qm_step (I := I) (by unfold qm_at; rw [hC]; exact hI) ?_
      rw [hrt]
      refine qm_ins_mono (fun pc' lv' st' h' k' => ?_) (fun m as P P' hP k' => ?_) k
      · split at k'
        · exact qm_PA.fewer qm_live_sub k'
        · exact ih pc' lv' st' h' k'
      · split at k'
        · exact k'.elim
        · rename_i hne
          exact ⟨hne, qm_PA.mono hP k'⟩
