theorem tp_text {h g : qm_H} (t : tp h) (e2 : (g 23 2).toInt = 0) (e9 : (g 39 9).toInt = 0) (r24 : g 24 = h 24) (r44 : g 44 = h 44) : tp g := by
  refine ⟨by omega, ?_, bt_0 e9⟩
  rw [r24, r44]; exact t.2.1
/-- the faults of the latest texts are one -/
noncomputable def ff (h : qm_H) : Prop := (h 23 4).toInt = (h 39 14).toInt
