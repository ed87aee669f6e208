/-- a THREAD's hand is a CLERK's -/
theorem wf_hd {cl th dy sn : Int32} {kd pl pa kn sp ss : Nat → Int32} (h : wfM (mkM cl th dy sn kd pl pa kn sp ss)) {j : Nat} (hj : (j : Int) < th.toInt) : 0 ≤ (pl j / 10).toInt ∧ (pl j / 10).toInt < cl.toInt ∧ cl.toInt ≤ 4 := by
  have a := ((wf_raw h).2.2.1 j hj).1
  unfold okPl at a
  have b := (wf_raw h).1.1
  have e := ti_div (10 : Int32) 10 rfl (pl j) (by decide) (by omega)
  omega
noncomputable def c20 : Nat → Int := fun _ => 20
