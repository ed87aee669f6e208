/-! ===== what is owed ===== -/
noncomputable def wc (h : qm_H) : Prop := wfM (mC h)
noncomputable def wr (h : qm_H) : Prop := wfM (mR h)
theorem wf_tr2 {M N : Mem} (h : wfM M) (e : N = M) : wfM N := e ▸ h
