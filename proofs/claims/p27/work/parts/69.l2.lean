set_option maxRecDepth 100000 in
set_option maxHeartbeats 4000000 in
theorem lw_t208 (X : qm_X) (h : qm_H) (l3 : Int32) (Q : qm_Q) (hX : X.1 ≤ 320) (hi : 0 ≤ l3.toInt ∧ l3.toInt + 5 ≤ X.1) (hp : mq 1 h ∧ mq 8 h ∧ mq 15 h ∧ sq h ∧ mi h ∧ sm h ∧ zs h ∧ rw_ h ∧ tp h ∧ mm h) (ih : ∀ g : qm_H, (mq 1 g ∧ mq 8 g ∧ mq 15 g ∧ sq g ∧ mi g ∧ sm g ∧ zs g ∧ rw_ g ∧ tp g ∧ mm g) → qm_PA X 239 18 [(0, .ref 130), (1, .ref 0), (2, .ref 39), (3, .int (l3 + 5))] [] g Q) : qm_PA X 239 208 [(0, .ref 130), (1, .ref 0), (2, .ref 39), (3, .int l3)] [] h Q := by
  have hm1 : mq 1 h := hp.1
  have hm8 : mq 8 h := hp.2.1
  have hm15 : mq 15 h := hp.2.2.1
  have hmsq : sq h := hp.2.2.2.1
  have hmmi : mi h := hp.2.2.2.2.1
  have hmsm : sm h := hp.2.2.2.2.2.1
  have hmzs : zs h := hp.2.2.2.2.2.2.1
  have hmrw : rw_ h := hp.2.2.2.2.2.2.2.1
  have hmtp : tp h := hp.2.2.2.2.2.2.2.2.1
  have hmmm : mm h := hp.2.2.2.2.2.2.2.2.2
  have hrt0 : (h 23 2).toInt = (h 39 9).toInt := hmtp.1
  have hbt : bt (h 44) (h 39 9).toInt := hmtp.2.2
  have ⟨⟨_, _⟩, ⟨_, _⟩, ⟨_, _⟩, ⟨_, _⟩, _, _⟩ := hmmi
  refine qm_seg_okw (C := qk_208 ++ qk_1278) (rt := some .boolean) qkw_208 rfl (cuts := [(18, [0, 1, 2, 3])]) 1500 _ _ _ _ ?_
  show (0 ≤ (l3 + 1).toInt ∧ (l3 + 1).toInt < (X.1 : Int)) ∧ (qm_PW X 90 [.ref 0, .int (X.2 (l3 + 1).toInt.toNat)] h _)
  refine ⟨(by have := ti_addK l3 (1 : Int32) 1 rfl; omega), ?_⟩
  refine tx_90 X h (X.2 (l3 + 1).toInt.toNat) ⟨hm1, hm8, hm15, hmsq⟩ _ (fun r1 g2 p3 => ?_)
  have f4 : ∀ k, (k < 0 ∨ 50 < k) → g2 k = h k := fun k hk => (p3.2.2.2.2.1 k (by omega)).trans (rfl)
  have k5 : mi g2 := by unfold mi; rw [p3.2.2.2.2.1 39 (by omega)]; exact hmmi
  have k6 : sm g2 := by unfold sm; rw [p3.2.2.2.2.1 40 (by omega)]; exact hmsm
  have k7 : zs g2 := by unfold zs; rw [p3.2.2.2.2.1 49 (by omega)]; exact hmzs
  have k8 : rw_ g2 := by unfold rw_; rw [p3.2.2.2.2.1 46 (by omega)]; exact hmrw
  have k9 : mm g2 := mm_keep hmmm (fun k h1 h2 => p3.2.2.2.2.1 k (by omega)) (fun k h1 h2 => p3.2.2.2.2.1 k (by omega)) (congrFun (p3.2.2.2.2.1 39 (by omega)) 3) (p3.2.2.2.2.1 40 (by omega)) (p3.2.2.2.2.1 42 (by omega)) (fun k h1 h2 => p3.2.2.2.2.1 k (by omega))
  have k10 : wc g2 := wf_tr2 (show wc h from hmmm.1.2) (mC_of (fun k h1 h2 => p3.2.2.2.2.1 k (by omega)))
  have k11 : wr g2 := wf_tr2 (show wr h from wf_tr2 hmmm.1.2 hmmm.1.1.symm) (mR_of (congrFun (p3.2.2.2.2.1 39 (by omega)) 3) (p3.2.2.2.2.1 40 (by omega)))
  have o12 : True ∧ (((g2 23 4).toInt = (h 23 4).toInt)) ∧ fdQ (X.2 (l3 + 1).toInt.toNat) (h 23 2).toInt (g2 23 2).toInt (h 24) (g2 24) := p3.2.2.2.2.2
  have e39_9_g2 : (g2 39 9).toInt = (h 39 9).toInt := congrArg (fun f : Nat → Int32 => (f 9).toInt) (p3.2.2.2.2.1 39 (by omega))
  have e39_14_g2 : (g2 39 14).toInt = (h 39 14).toInt := congrArg (fun f : Nat → Int32 => (f 14).toInt) (p3.2.2.2.2.1 39 (by omega))
  have w22_g2 : g2 22 = h 22 := p3.2.2.2.2.1 22 (by omega)
  have w42_g2 : g2 42 = h 42 := p3.2.2.2.2.1 42 (by omega)
  have w44_g2 : g2 44 = h 44 := p3.2.2.2.2.1 44 (by omega)
  have e44_g2 : g2 44 = h 44 := w44_g2
  have e9_g2 : (g2 39 9).toInt = (h 39 9).toInt := e39_9_g2
  show (0 ≤ (l3 + 1).toInt ∧ (l3 + 1).toInt < (X.1 : Int)) ∧ (qm_PW X 145 [.ref 39, .int (X.2 (l3 + 1).toInt.toNat)] g2 _)
  refine ⟨(by have := ti_addK l3 (1 : Int32) 1 rfl; omega), ?_⟩
  refine tx_145 X g2 (X.2 (l3 + 1).toInt.toNat) ⟨k5, k6, k7, k8⟩ _ (fun r13 g14 p15 => ?_)
  have f16 : ∀ k, (k < 0 ∨ 50 < k) → g14 k = h k := fun k hk => (p15.2.2.2.2.2.1 k (by omega)).trans (f4 k hk)
  have k17 : mq 1 g14 := by unfold mq; rw [p15.2.2.2.2.2.1 1 (by omega)]; exact p3.1
  have k18 : mq 8 g14 := by unfold mq; rw [p15.2.2.2.2.2.1 8 (by omega)]; exact p3.2.1
  have k19 : mq 15 g14 := by unfold mq; rw [p15.2.2.2.2.2.1 15 (by omega)]; exact p3.2.2.1
  have k20 : sq g14 := by unfold sq; rw [p15.2.2.2.2.2.1 37 (by omega)]; exact p3.2.2.2.1
  have k21 : wc g14 := wf_tr2 k10 (mC_of (fun k h1 h2 => p15.2.2.2.2.2.1 k (by omega)))
  have o22 : (((g14 39 14).toInt = (g2 39 14).toInt)) ∧ fdQ (X.2 (l3 + 1).toInt.toNat) (g2 39 9).toInt (g14 39 9).toInt (g2 44) (g14 44) := p15.2.2.2.2.2.2
  have e23_2_g14 : (g14 23 2).toInt = (g2 23 2).toInt := congrArg (fun f : Nat → Int32 => (f 2).toInt) (p15.2.2.2.2.2.1 23 (by omega))
  have e23_4_g14 : (g14 23 4).toInt = (g2 23 4).toInt := congrArg (fun f : Nat → Int32 => (f 4).toInt) (p15.2.2.2.2.2.1 23 (by omega))
  have w22_g14 : g14 22 = g2 22 := p15.2.2.2.2.2.1 22 (by omega)
  have w24_g14 : g14 24 = g2 24 := p15.2.2.2.2.2.1 24 (by omega)
  have w42_g14 : g14 42 = g2 42 := p15.2.2.2.2.2.1 42 (by omega)
  have s3_g14 : g14 39 3 = g2 39 3 := p15.2.2.2.2.1
  show qm_PA X 239 18 [(0, .ref 130), (1, .ref 0), (2, .ref 39), (3, .int (l3 + 5))] [] g14 Q
  exact ih g14 ⟨k17, k18, k19, k20, p15.1, p15.2.1, p15.2.2.1, p15.2.2.2.1, (by exact tp_feed (a := (X.2 (l3 + 1).toInt.toNat)) hmtp (by rw [e23_2_g14, w24_g14]; exact o12.2.2) (by have q := o22.2; rw [e39_9_g2, w44_g2] at q; exact q)), (by exact (mm_keep (mm_keep hmmm (fun k h1 h2 => p3.2.2.2.2.1 k (by omega)) (fun k h1 h2 => p3.2.2.2.2.1 k (by omega)) (congrFun (p3.2.2.2.2.1 39 (by omega)) 3) (p3.2.2.2.2.1 40 (by omega)) (p3.2.2.2.2.1 42 (by omega)) (fun k h1 h2 => p3.2.2.2.2.1 k (by omega))) (fun k h1 h2 => p15.2.2.2.2.2.1 k (by omega)) (fun k h1 h2 => p15.2.2.2.2.2.1 k (by omega)) s3_g14 (p15.2.2.2.2.2.1 40 (by omega)) (p15.2.2.2.2.2.1 42 (by omega)) (fun k h1 h2 => p15.2.2.2.2.2.1 k (by omega))))⟩
set_option maxRecDepth 100000 in
set_option maxHeartbeats 4000000 in
theorem lw_t231 (X : qm_X) (h : qm_H) (l3 : Int32) (Q : qm_Q) (hX : X.1 ≤ 320) (hi : 0 ≤ l3.toInt ∧ l3.toInt + 5 ≤ X.1) (hp : mq 1 h ∧ mq 8 h ∧ mq 15 h ∧ sq h ∧ mi h ∧ sm h ∧ zs h ∧ rw_ h ∧ tp h ∧ mm h) (ih : ∀ g : qm_H, (mq 1 g ∧ mq 8 g ∧ mq 15 g ∧ sq g ∧ mi g ∧ sm g ∧ zs g ∧ rw_ g ∧ tp g ∧ mm g) → qm_PA X 239 18 [(0, .ref 130), (1, .ref 0), (2, .ref 39), (3, .int (l3 + 5))] [] g Q) : qm_PA X 239 231 [(0, .ref 130), (1, .ref 0), (2, .ref 39), (3, .int l3)] [] h Q := by
  have hm1 : mq 1 h := hp.1
  have hm8 : mq 8 h := hp.2.1
  have hm15 : mq 15 h := hp.2.2.1
  have hmsq : sq h := hp.2.2.2.1
  have hmmi : mi h := hp.2.2.2.2.1
  have hmsm : sm h := hp.2.2.2.2.2.1
  have hmzs : zs h := hp.2.2.2.2.2.2.1
  have hmrw : rw_ h := hp.2.2.2.2.2.2.2.1
  have hmtp : tp h := hp.2.2.2.2.2.2.2.2.1
  have hmmm : mm h := hp.2.2.2.2.2.2.2.2.2
  have hrt0 : (h 23 2).toInt = (h 39 9).toInt := hmtp.1
  have hbt : bt (h 44) (h 39 9).toInt := hmtp.2.2
  have ⟨⟨_, _⟩, ⟨_, _⟩, ⟨_, _⟩, ⟨_, _⟩, _, _⟩ := hmmi
  refine qm_seg_okw (C := qk_231 ++ qk_1278) (rt := some .boolean) qkw_231 rfl (cuts := [(18, [0, 1, 2, 3])]) 1500 _ _ _ _ ?_
  show (0 ≤ (l3 + 1).toInt ∧ (l3 + 1).toInt < (X.1 : Int)) ∧ (qm_PW X 91 [.ref 0, .int (X.2 (l3 + 1).toInt.toNat)] h _)
  refine ⟨(by have := ti_addK l3 (1 : Int32) 1 rfl; omega), ?_⟩
  refine tx_91 X h (X.2 (l3 + 1).toInt.toNat) ⟨hm1, hm8, hm15, hmsq⟩ _ (fun r1 g2 p3 => ?_)
  have f4 : ∀ k, (k < 0 ∨ 50 < k) → g2 k = h k := fun k hk => (p3.2.2.2.2.1 k (by omega)).trans (rfl)
  have k5 : mi g2 := by unfold mi; rw [p3.2.2.2.2.1 39 (by omega)]; exact hmmi
  have k6 : sm g2 := by unfold sm; rw [p3.2.2.2.2.1 40 (by omega)]; exact hmsm
  have k7 : zs g2 := by unfold zs; rw [p3.2.2.2.2.1 49 (by omega)]; exact hmzs
  have k8 : rw_ g2 := by unfold rw_; rw [p3.2.2.2.2.1 46 (by omega)]; exact hmrw
  have k9 : mm g2 := mm_keep hmmm (fun k h1 h2 => p3.2.2.2.2.1 k (by omega)) (fun k h1 h2 => p3.2.2.2.2.1 k (by omega)) (congrFun (p3.2.2.2.2.1 39 (by omega)) 3) (p3.2.2.2.2.1 40 (by omega)) (p3.2.2.2.2.1 42 (by omega)) (fun k h1 h2 => p3.2.2.2.2.1 k (by omega))
  have k10 : wc g2 := wf_tr2 (show wc h from hmmm.1.2) (mC_of (fun k h1 h2 => p3.2.2.2.2.1 k (by omega)))
  have k11 : wr g2 := wf_tr2 (show wr h from wf_tr2 hmmm.1.2 hmmm.1.1.symm) (mR_of (congrFun (p3.2.2.2.2.1 39 (by omega)) 3) (p3.2.2.2.2.1 40 (by omega)))
  have o12 : (((0 ≤ (X.2 (l3 + 1).toInt.toNat).toInt ∧ (X.2 (l3 + 1).toInt.toNat).toInt ≤ (h 23 2).toInt) ∧ (g2 23 2).toInt = (X.2 (l3 + 1).toInt.toNat).toInt) ∨ (¬ (0 ≤ (X.2 (l3 + 1).toInt.toNat).toInt ∧ (X.2 (l3 + 1).toInt.toNat).toInt ≤ (h 23 2).toInt) ∧ (g2 23 2).toInt = (h 23 2).toInt)) ∧ (((g2 23 4).toInt = (h 23 4).toInt)) := p3.2.2.2.2.2
  have e39_9_g2 : (g2 39 9).toInt = (h 39 9).toInt := congrArg (fun f : Nat → Int32 => (f 9).toInt) (p3.2.2.2.2.1 39 (by omega))
  have e39_14_g2 : (g2 39 14).toInt = (h 39 14).toInt := congrArg (fun f : Nat → Int32 => (f 14).toInt) (p3.2.2.2.2.1 39 (by omega))
  have w22_g2 : g2 22 = h 22 := p3.2.2.2.2.1 22 (by omega)
  have w24_g2 : g2 24 = h 24 := p3.2.2.2.2.1 24 (by omega)
  have w42_g2 : g2 42 = h 42 := p3.2.2.2.2.1 42 (by omega)
  have w44_g2 : g2 44 = h 44 := p3.2.2.2.2.1 44 (by omega)
  have e44_g2 : g2 44 = h 44 := w44_g2
  have e9_g2 : (g2 39 9).toInt = (h 39 9).toInt := e39_9_g2
  show (0 ≤ (l3 + 1).toInt ∧ (l3 + 1).toInt < (X.1 : Int)) ∧ (qm_PW X 146 [.ref 39, .int (X.2 (l3 + 1).toInt.toNat)] g2 _)
  refine ⟨(by have := ti_addK l3 (1 : Int32) 1 rfl; omega), ?_⟩
  refine tx_146 X g2 (X.2 (l3 + 1).toInt.toNat) ⟨k5, k6, k7, k8⟩ _ (fun r13 g14 p15 => ?_)
  have f16 : ∀ k, (k < 0 ∨ 50 < k) → g14 k = h k := fun k hk => (p15.2.2.2.2.2.1 k (by omega)).trans (f4 k hk)
  have k17 : mq 1 g14 := by unfold mq; rw [p15.2.2.2.2.2.1 1 (by omega)]; exact p3.1
  have k18 : mq 8 g14 := by unfold mq; rw [p15.2.2.2.2.2.1 8 (by omega)]; exact p3.2.1
  have k19 : mq 15 g14 := by unfold mq; rw [p15.2.2.2.2.2.1 15 (by omega)]; exact p3.2.2.1
  have k20 : sq g14 := by unfold sq; rw [p15.2.2.2.2.2.1 37 (by omega)]; exact p3.2.2.2.1
  have k21 : wc g14 := wf_tr2 k10 (mC_of (fun k h1 h2 => p15.2.2.2.2.2.1 k (by omega)))
  have o22 : (((0 ≤ (X.2 (l3 + 1).toInt.toNat).toInt ∧ (X.2 (l3 + 1).toInt.toNat).toInt ≤ (g2 39 9).toInt) ∧ (g14 39 9).toInt = (X.2 (l3 + 1).toInt.toNat).toInt) ∨ (¬ (0 ≤ (X.2 (l3 + 1).toInt.toNat).toInt ∧ (X.2 (l3 + 1).toInt.toNat).toInt ≤ (g2 39 9).toInt) ∧ (g14 39 9).toInt = (g2 39 9).toInt)) ∧ (((g14 39 14).toInt = (g2 39 14).toInt)) := p15.2.2.2.2.2.2
  have e23_2_g14 : (g14 23 2).toInt = (g2 23 2).toInt := congrArg (fun f : Nat → Int32 => (f 2).toInt) (p15.2.2.2.2.2.1 23 (by omega))
  have e23_4_g14 : (g14 23 4).toInt = (g2 23 4).toInt := congrArg (fun f : Nat → Int32 => (f 4).toInt) (p15.2.2.2.2.2.1 23 (by omega))
  have w22_g14 : g14 22 = g2 22 := p15.2.2.2.2.2.1 22 (by omega)
  have w24_g14 : g14 24 = g2 24 := p15.2.2.2.2.2.1 24 (by omega)
  have w42_g14 : g14 42 = g2 42 := p15.2.2.2.2.2.1 42 (by omega)
  have w44_g14 : g14 44 = g2 44 := p15.2.2.2.2.2.1 44 (by omega)
  have s3_g14 : g14 39 3 = g2 39 3 := p15.2.2.2.2.1
  show qm_PA X 239 18 [(0, .ref 130), (1, .ref 0), (2, .ref 39), (3, .int (l3 + 5))] [] g14 Q
  exact ih g14 ⟨k17, k18, k19, k20, p15.1, p15.2.1, p15.2.2.1, p15.2.2.2.1, (by exact tp_end hmtp (by omega) (by omega) (w24_g14.trans w24_g2) (w44_g14.trans w44_g2)), (by exact (mm_keep (mm_keep hmmm (fun k h1 h2 => p3.2.2.2.2.1 k (by omega)) (fun k h1 h2 => p3.2.2.2.2.1 k (by omega)) (congrFun (p3.2.2.2.2.1 39 (by omega)) 3) (p3.2.2.2.2.1 40 (by omega)) (p3.2.2.2.2.1 42 (by omega)) (fun k h1 h2 => p3.2.2.2.2.1 k (by omega))) (fun k h1 h2 => p15.2.2.2.2.2.1 k (by omega)) (fun k h1 h2 => p15.2.2.2.2.2.1 k (by omega)) s3_g14 (p15.2.2.2.2.2.1 40 (by omega)) (p15.2.2.2.2.2.1 42 (by omega)) (fun k h1 h2 => p15.2.2.2.2.2.1 k (by omega))))⟩
set_option maxRecDepth 100000 in
set_option maxHeartbeats 4000000 in
theorem lw_t254 (X : qm_X) (h : qm_H) (l3 : Int32) (Q : qm_Q) (hX : X.1 ≤ 320) (hi : 0 ≤ l3.toInt ∧ l3.toInt + 5 ≤ X.1) (hp : mq 1 h ∧ mq 8 h ∧ mq 15 h ∧ sq h ∧ mi h ∧ sm h ∧ zs h ∧ rw_ h ∧ tp h ∧ mm h) (ih : ∀ g : qm_H, (mq 1 g ∧ mq 8 g ∧ mq 15 g ∧ sq g ∧ mi g ∧ sm g ∧ zs g ∧ rw_ g ∧ tp g ∧ mm g) → qm_PA X 239 18 [(0, .ref 130), (1, .ref 0), (2, .ref 39), (3, .int (l3 + 5))] [] g Q) : qm_PA X 239 254 [(0, .ref 130), (1, .ref 0), (2, .ref 39), (3, .int l3)] [] h Q := by
  have hm1 : mq 1 h := hp.1
  have hm8 : mq 8 h := hp.2.1
  have hm15 : mq 15 h := hp.2.2.1
  have hmsq : sq h := hp.2.2.2.1
  have hmmi : mi h := hp.2.2.2.2.1
  have hmsm : sm h := hp.2.2.2.2.2.1
  have hmzs : zs h := hp.2.2.2.2.2.2.1
  have hmrw : rw_ h := hp.2.2.2.2.2.2.2.1
  have hmtp : tp h := hp.2.2.2.2.2.2.2.2.1
  have hmmm : mm h := hp.2.2.2.2.2.2.2.2.2
  have hrt0 : (h 23 2).toInt = (h 39 9).toInt := hmtp.1
  have hbt : bt (h 44) (h 39 9).toInt := hmtp.2.2
  have ⟨⟨_, _⟩, ⟨_, _⟩, ⟨_, _⟩, ⟨_, _⟩, _, _⟩ := hmmi
  refine qm_seg_okw (C := qk_254 ++ qk_1278) (rt := some .boolean) qkw_254 rfl (cuts := [(18, [0, 1, 2, 3])]) 1500 _ _ _ _ ?_
  show qm_PW X 92 [.ref 0] h _
  refine tx_92 X h  ⟨hm1, hm8, hm15, hmsq, (by show 0 ≤ (h 23 2).toInt ∧ (h 23 2).toInt ≤ 160; omega)⟩ _ (fun r1 g2 p3 => ?_)
  have f4 : ∀ k, (k < 0 ∨ 50 < k) → g2 k = h k := fun k hk => (p3.2.2.2.2.1 k (by omega)).trans (rfl)
  have k5 : mi g2 := by unfold mi; rw [p3.2.2.2.2.1 39 (by omega)]; exact hmmi
  have k6 : sm g2 := by unfold sm; rw [p3.2.2.2.2.1 40 (by omega)]; exact hmsm
  have k7 : zs g2 := by unfold zs; rw [p3.2.2.2.2.1 49 (by omega)]; exact hmzs
  have k8 : rw_ g2 := by unfold rw_; rw [p3.2.2.2.2.1 46 (by omega)]; exact hmrw
  have k9 : wr g2 := wf_tr2 (show wr h from wf_tr2 hmmm.1.2 hmmm.1.1.symm) (mR_of (congrFun (p3.2.2.2.2.1 39 (by omega)) 3) (p3.2.2.2.2.1 40 (by omega)))
  have o10 : (g2 23 2).toInt = 0 ∧ (g2 24) = (h 24) ∧ txQ (txF (h 24) (h 23 2).toInt.toNat 161 0 0 txS) r1.toInt (g2 23 4).toInt (h 23 2).toInt ∧ ikQ (g2 23 4).toInt (h 22) (g2 22) ∧ txM (g2 23 4).toInt (txF (h 24) (h 23 2).toInt.toNat 161 0 0 txS) (mC h) (mC g2) := p3.2.2.2.2.2
  have e39_9_g2 : (g2 39 9).toInt = (h 39 9).toInt := congrArg (fun f : Nat → Int32 => (f 9).toInt) (p3.2.2.2.2.1 39 (by omega))
  have e39_14_g2 : (g2 39 14).toInt = (h 39 14).toInt := congrArg (fun f : Nat → Int32 => (f 14).toInt) (p3.2.2.2.2.1 39 (by omega))
  have w42_g2 : g2 42 = h 42 := p3.2.2.2.2.1 42 (by omega)
  have w44_g2 : g2 44 = h 44 := p3.2.2.2.2.1 44 (by omega)
  have e44_g2 : g2 44 = h 44 := w44_g2
  have e9_g2 : (g2 39 9).toInt = (h 39 9).toInt := e39_9_g2
  show qm_PW X 162 [.ref 39] g2 _
  refine tx_162 X g2  ⟨k5, k6, k7, k8, (by show bt (g2 44) (g2 39 9).toInt; rw [e44_g2, e9_g2]; exact hbt)⟩ _ (fun r11 g12 p13 => ?_)
  have f14 : ∀ k, (k < 0 ∨ 50 < k) → g12 k = h k := fun k hk => (p13.2.2.2.2.1 k (by omega)).trans (f4 k hk)
  have k15 : mq 1 g12 := by unfold mq; rw [p13.2.2.2.2.1 1 (by omega)]; exact p3.1
  have k16 : mq 8 g12 := by unfold mq; rw [p13.2.2.2.2.1 8 (by omega)]; exact p3.2.1
  have k17 : mq 15 g12 := by unfold mq; rw [p13.2.2.2.2.1 15 (by omega)]; exact p3.2.2.1
  have k18 : sq g12 := by unfold sq; rw [p13.2.2.2.2.1 37 (by omega)]; exact p3.2.2.2.1
  have o19 : (g12 39 9).toInt = 0 ∧ (g12 44) = (g2 44) ∧ txQ (txF (g2 44) (g2 39 9).toInt.toNat 161 0 0 txS) r11.toInt (g12 39 14).toInt (g2 39 9).toInt ∧ ikQ (g12 39 14).toInt (g2 42) (g12 42) ∧ txM (g12 39 14).toInt (txF (g2 44) (g2 39 9).toInt.toNat 161 0 0 txS) (mR g2) (mR g12) ∧ txE (g12 39 14).toInt g2 g12 := p13.2.2.2.2.2
  have e23_2_g12 : (g12 23 2).toInt = (g2 23 2).toInt := congrArg (fun f : Nat → Int32 => (f 2).toInt) (p13.2.2.2.2.1 23 (by omega))
  have e23_4_g12 : (g12 23 4).toInt = (g2 23 4).toInt := congrArg (fun f : Nat → Int32 => (f 4).toInt) (p13.2.2.2.2.1 23 (by omega))
  have w22_g12 : g12 22 = g2 22 := p13.2.2.2.2.1 22 (by omega)
  have w24_g12 : g12 24 = g2 24 := p13.2.2.2.2.1 24 (by omega)
  show qm_PA X 239 18 [(0, .ref 130), (1, .ref 0), (2, .ref 39), (3, .int (l3 + 5))] [] g12 Q
  exact ih g12 ⟨k15, k16, k17, k18, p13.1, p13.2.1, p13.2.2.1, p13.2.2.2.1, (by exact tp_text hmtp (by omega) (by omega) (w24_g12.trans o10.2.1) (o19.2.1.trans w44_g2)), (by have qa := o10.2.2.1; have qb := o19.2.2.1; have qc := o19.2.2.2.2.1; rw [w44_g2, e39_9_g2, ← hmtp.2.1, ← hrt0] at qb qc; exact mm_text hmmm o10.2.2.2 ⟨o19.2.2.2.1, qc⟩ (txQ_one qa qb).2 qa (wfS_tx _ _ _ _ wfS_0) (fun i hi => p3.2.2.2.2.1 i (by omega)) (fun i hi => p13.2.2.2.2.1 i (by omega)) o19.2.2.2.2.2)⟩
set_option maxRecDepth 100000 in
set_option maxHeartbeats 4000000 in
theorem lw_t267 (X : qm_X) (h : qm_H) (l3 : Int32) (Q : qm_Q) (hX : X.1 ≤ 320) (hi : 0 ≤ l3.toInt ∧ l3.toInt + 5 ≤ X.1) (hp : mq 1 h ∧ mq 8 h ∧ mq 15 h ∧ sq h ∧ mi h ∧ sm h ∧ zs h ∧ rw_ h ∧ tp h ∧ mm h) (ih : ∀ g : qm_H, (mq 1 g ∧ mq 8 g ∧ mq 15 g ∧ sq g ∧ mi g ∧ sm g ∧ zs g ∧ rw_ g ∧ tp g ∧ mm g) → qm_PA X 239 18 [(0, .ref 130), (1, .ref 0), (2, .ref 39), (3, .int (l3 + 5))] [] g Q) : qm_PA X 239 267 [(0, .ref 130), (1, .ref 0), (2, .ref 39), (3, .int l3)] [] h Q := by
  have hm1 : mq 1 h := hp.1
  have hm8 : mq 8 h := hp.2.1
  have hm15 : mq 15 h := hp.2.2.1
  have hmsq : sq h := hp.2.2.2.1
  have hmmi : mi h := hp.2.2.2.2.1
  have hmsm : sm h := hp.2.2.2.2.2.1
  have hmzs : zs h := hp.2.2.2.2.2.2.1
  have hmrw : rw_ h := hp.2.2.2.2.2.2.2.1
  have hmtp : tp h := hp.2.2.2.2.2.2.2.2.1
  have hmmm : mm h := hp.2.2.2.2.2.2.2.2.2
  refine qm_seg_okw (C := qk_267 ++ qk_1278) (rt := some .boolean) qkw_267 rfl (cuts := [(18, [0, 1, 2, 3])]) 1500 _ _ _ _ ?_
  show qm_PW X 93 [.ref 0] h _
  refine tx_93 X h  trivial _ (fun r1 p2 => ?_)
  have o3 : r1.toInt = (h 23 4).toInt := p2
  show qm_PW X 163 [.ref 39] h _
  refine tx_163 X h  trivial _ (fun r4 p5 => ?_)
  have o6 : r4.toInt = (h 39 14).toInt := p5
  show qm_PA X 239 18 [(0, .ref 130), (1, .ref 0), (2, .ref 39), (3, .int (l3 + 5))] [] h Q
  exact ih h ⟨hm1, hm8, hm15, hmsq, hmmi, hmsm, hmzs, hmrw, hmtp, hmmm⟩
set_option maxRecDepth 100000 in
set_option maxHeartbeats 4000000 in
theorem lw_t280 (X : qm_X) (h : qm_H) (l3 : Int32) (Q : qm_Q) (hX : X.1 ≤ 320) (hi : 0 ≤ l3.toInt ∧ l3.toInt + 5 ≤ X.1) (hp : mq 1 h ∧ mq 8 h ∧ mq 15 h ∧ sq h ∧ mi h ∧ sm h ∧ zs h ∧ rw_ h ∧ tp h ∧ mm h) (ih : ∀ g : qm_H, (mq 1 g ∧ mq 8 g ∧ mq 15 g ∧ sq g ∧ mi g ∧ sm g ∧ zs g ∧ rw_ g ∧ tp g ∧ mm g) → qm_PA X 239 18 [(0, .ref 130), (1, .ref 0), (2, .ref 39), (3, .int (l3 + 5))] [] g Q) : qm_PA X 239 280 [(0, .ref 130), (1, .ref 0), (2, .ref 39), (3, .int l3)] [] h Q := by
  have hm1 : mq 1 h := hp.1
  have hm8 : mq 8 h := hp.2.1
  have hm15 : mq 15 h := hp.2.2.1
  have hmsq : sq h := hp.2.2.2.1
  have hmmi : mi h := hp.2.2.2.2.1
  have hmsm : sm h := hp.2.2.2.2.2.1
  have hmzs : zs h := hp.2.2.2.2.2.2.1
  have hmrw : rw_ h := hp.2.2.2.2.2.2.2.1
  have hmtp : tp h := hp.2.2.2.2.2.2.2.2.1
  have hmmm : mm h := hp.2.2.2.2.2.2.2.2.2
  refine qm_seg_okw (C := qk_280 ++ qk_1278) (rt := some .boolean) qkw_280 rfl (cuts := [(18, [0, 1, 2, 3])]) 1500 _ _ _ _ ?_
  show (0 ≤ (l3 + 1).toInt ∧ (l3 + 1).toInt < (X.1 : Int)) ∧ (qm_PW X 94 [.ref 0, .int (X.2 (l3 + 1).toInt.toNat)] h _)
  refine ⟨(by have := ti_addK l3 (1 : Int32) 1 rfl; omega), ?_⟩
  refine sf_94_0 X h (X.2 (l3 + 1).toInt.toNat) hm1 _ (fun r1 p2 => ?_)
  show (0 ≤ (l3 + 1).toInt ∧ (l3 + 1).toInt < (X.1 : Int)) ∧ (qm_PW X 184 [.ref 39, .int (X.2 (l3 + 1).toInt.toNat)] h _)
  refine ⟨(by have := ti_addK l3 (1 : Int32) 1 rfl; omega), ?_⟩
  refine sf_184_39 X h (X.2 (l3 + 1).toInt.toNat) ⟨hmmi, hmsm, hmzs, hmrw⟩ _ (fun r3 g4 p5 => ?_)
  have f6 : ∀ k, (k < 0 ∨ 50 < k) → g4 k = h k := fun k hk => (p5.2.2.2.2 k (by omega)).trans (rfl)
  have k7 : mq 1 g4 := by unfold mq; rw [p5.2.2.2.2 1 (by omega)]; exact hm1
  have k8 : mq 8 g4 := by unfold mq; rw [p5.2.2.2.2 8 (by omega)]; exact hm8
  have k9 : mq 15 g4 := by unfold mq; rw [p5.2.2.2.2 15 (by omega)]; exact hm15
  have k10 : sq g4 := by unfold sq; rw [p5.2.2.2.2 37 (by omega)]; exact hmsq
  have k11 : tp g4 := by unfold tp; rw [p5.2.2.2.2 23 (by omega)]; rw [p5.2.2.2.2 24 (by omega)]; rw [p5.2.2.2.2 39 (by omega)]; rw [p5.2.2.2.2 44 (by omega)]; exact hmtp
  have k12 : mm g4 := mm_keep hmmm (fun k h1 h2 => p5.2.2.2.2 k (by omega)) (fun k h1 h2 => p5.2.2.2.2 k (by omega)) (congrFun (p5.2.2.2.2 39 (by omega)) 3) (p5.2.2.2.2 40 (by omega)) (p5.2.2.2.2 42 (by omega)) (fun k h1 h2 => p5.2.2.2.2 k (by omega))
  have k13 : wc g4 := wf_tr2 (show wc h from hmmm.1.2) (mC_of (fun k h1 h2 => p5.2.2.2.2 k (by omega)))
  have k14 : wr g4 := wf_tr2 (show wr h from wf_tr2 hmmm.1.2 hmmm.1.1.symm) (mR_of (congrFun (p5.2.2.2.2 39 (by omega)) 3) (p5.2.2.2.2 40 (by omega)))
  have e39_9_g4 : (g4 39 9).toInt = (h 39 9).toInt := congrArg (fun f : Nat → Int32 => (f 9).toInt) (p5.2.2.2.2 39 (by omega))
  have e39_14_g4 : (g4 39 14).toInt = (h 39 14).toInt := congrArg (fun f : Nat → Int32 => (f 14).toInt) (p5.2.2.2.2 39 (by omega))
  have e23_2_g4 : (g4 23 2).toInt = (h 23 2).toInt := congrArg (fun f : Nat → Int32 => (f 2).toInt) (p5.2.2.2.2 23 (by omega))
  have e23_4_g4 : (g4 23 4).toInt = (h 23 4).toInt := congrArg (fun f : Nat → Int32 => (f 4).toInt) (p5.2.2.2.2 23 (by omega))
  have w22_g4 : g4 22 = h 22 := p5.2.2.2.2 22 (by omega)
  have w24_g4 : g4 24 = h 24 := p5.2.2.2.2 24 (by omega)
  have w42_g4 : g4 42 = h 42 := p5.2.2.2.2 42 (by omega)
  have w44_g4 : g4 44 = h 44 := p5.2.2.2.2 44 (by omega)
  have e44_g4 : g4 44 = h 44 := w44_g4
  have e9_g4 : (g4 39 9).toInt = (h 39 9).toInt := e39_9_g4
  show qm_PA X 239 18 [(0, .ref 130), (1, .ref 0), (2, .ref 39), (3, .int (l3 + 5))] [] g4 Q
  exact ih g4 ⟨k7, k8, k9, k10, p5.1, p5.2.1, p5.2.2.1, p5.2.2.2.1, k11, k12⟩
set_option maxRecDepth 100000 in
set_option maxHeartbeats 4000000 in
theorem lw_t303 (X : qm_X) (h : qm_H) (l3 : Int32) (Q : qm_Q) (hX : X.1 ≤ 320) (hi : 0 ≤ l3.toInt ∧ l3.toInt + 5 ≤ X.1) (hp : mq 1 h ∧ mq 8 h ∧ mq 15 h ∧ sq h ∧ mi h ∧ sm h ∧ zs h ∧ rw_ h ∧ tp h ∧ mm h) (ih : ∀ g : qm_H, (mq 1 g ∧ mq 8 g ∧ mq 15 g ∧ sq g ∧ mi g ∧ sm g ∧ zs g ∧ rw_ g ∧ tp g ∧ mm g) → qm_PA X 239 18 [(0, .ref 130), (1, .ref 0), (2, .ref 39), (3, .int (l3 + 5))] [] g Q) : qm_PA X 239 303 [(0, .ref 130), (1, .ref 0), (2, .ref 39), (3, .int l3)] [] h Q := by
  have hm1 : mq 1 h := hp.1
  have hm8 : mq 8 h := hp.2.1
  have hm15 : mq 15 h := hp.2.2.1
  have hmsq : sq h := hp.2.2.2.1
  have hmmi : mi h := hp.2.2.2.2.1
  have hmsm : sm h := hp.2.2.2.2.2.1
  have hmzs : zs h := hp.2.2.2.2.2.2.1
  have hmrw : rw_ h := hp.2.2.2.2.2.2.2.1
  have hmtp : tp h := hp.2.2.2.2.2.2.2.2.1
  have hmmm : mm h := hp.2.2.2.2.2.2.2.2.2
  refine qm_seg_okw (C := qk_303 ++ qk_1278) (rt := some .boolean) qkw_303 rfl (cuts := [(18, [0, 1, 2, 3])]) 1500 _ _ _ _ ?_
  show (0 ≤ (l3 + 1).toInt ∧ (l3 + 1).toInt < (X.1 : Int)) ∧ ((0 ≤ (l3 + 2).toInt ∧ (l3 + 2).toInt < (X.1 : Int)) ∧ (qm_PW X 95 [.ref 0, .int (X.2 (l3 + 1).toInt.toNat), .int (X.2 (l3 + 2).toInt.toNat)] h _))
  refine ⟨(by have := ti_addK l3 (1 : Int32) 1 rfl; omega), ?_⟩
  refine ⟨(by have := ti_addK l3 (2 : Int32) 2 rfl; omega), ?_⟩
  refine sf_95_0 X h (X.2 (l3 + 1).toInt.toNat) (X.2 (l3 + 2).toInt.toNat) hm1 _ (fun r1 p2 => ?_)
  show (0 ≤ (l3 + 1).toInt ∧ (l3 + 1).toInt < (X.1 : Int)) ∧ ((0 ≤ (l3 + 2).toInt ∧ (l3 + 2).toInt < (X.1 : Int)) ∧ (qm_PW X 185 [.ref 39, .int (X.2 (l3 + 1).toInt.toNat), .int (X.2 (l3 + 2).toInt.toNat)] h _))
  refine ⟨(by have := ti_addK l3 (1 : Int32) 1 rfl; omega), ?_⟩
  refine ⟨(by have := ti_addK l3 (2 : Int32) 2 rfl; omega), ?_⟩
  refine sf_185_39 X h (X.2 (l3 + 1).toInt.toNat) (X.2 (l3 + 2).toInt.toNat) ⟨hmmi, hmsm, hmzs, hmrw⟩ _ (fun r3 g4 p5 => ?_)
  have f6 : ∀ k, (k < 0 ∨ 50 < k) → g4 k = h k := fun k hk => (p5.2.2.2.2 k (by omega)).trans (rfl)
  have k7 : mq 1 g4 := by unfold mq; rw [p5.2.2.2.2 1 (by omega)]; exact hm1
  have k8 : mq 8 g4 := by unfold mq; rw [p5.2.2.2.2 8 (by omega)]; exact hm8
  have k9 : mq 15 g4 := by unfold mq; rw [p5.2.2.2.2 15 (by omega)]; exact hm15
  have k10 : sq g4 := by unfold sq; rw [p5.2.2.2.2 37 (by omega)]; exact hmsq
  have k11 : tp g4 := by unfold tp; rw [p5.2.2.2.2 23 (by omega)]; rw [p5.2.2.2.2 24 (by omega)]; rw [p5.2.2.2.2 39 (by omega)]; rw [p5.2.2.2.2 44 (by omega)]; exact hmtp
  have k12 : mm g4 := mm_keep hmmm (fun k h1 h2 => p5.2.2.2.2 k (by omega)) (fun k h1 h2 => p5.2.2.2.2 k (by omega)) (congrFun (p5.2.2.2.2 39 (by omega)) 3) (p5.2.2.2.2 40 (by omega)) (p5.2.2.2.2 42 (by omega)) (fun k h1 h2 => p5.2.2.2.2 k (by omega))
  have k13 : wc g4 := wf_tr2 (show wc h from hmmm.1.2) (mC_of (fun k h1 h2 => p5.2.2.2.2 k (by omega)))
  have k14 : wr g4 := wf_tr2 (show wr h from wf_tr2 hmmm.1.2 hmmm.1.1.symm) (mR_of (congrFun (p5.2.2.2.2 39 (by omega)) 3) (p5.2.2.2.2 40 (by omega)))
  have e39_9_g4 : (g4 39 9).toInt = (h 39 9).toInt := congrArg (fun f : Nat → Int32 => (f 9).toInt) (p5.2.2.2.2 39 (by omega))
  have e39_14_g4 : (g4 39 14).toInt = (h 39 14).toInt := congrArg (fun f : Nat → Int32 => (f 14).toInt) (p5.2.2.2.2 39 (by omega))
  have e23_2_g4 : (g4 23 2).toInt = (h 23 2).toInt := congrArg (fun f : Nat → Int32 => (f 2).toInt) (p5.2.2.2.2 23 (by omega))
  have e23_4_g4 : (g4 23 4).toInt = (h 23 4).toInt := congrArg (fun f : Nat → Int32 => (f 4).toInt) (p5.2.2.2.2 23 (by omega))
  have w22_g4 : g4 22 = h 22 := p5.2.2.2.2 22 (by omega)
  have w24_g4 : g4 24 = h 24 := p5.2.2.2.2 24 (by omega)
  have w42_g4 : g4 42 = h 42 := p5.2.2.2.2 42 (by omega)
  have w44_g4 : g4 44 = h 44 := p5.2.2.2.2 44 (by omega)
  show qm_PA X 239 18 [(0, .ref 130), (1, .ref 0), (2, .ref 39), (3, .int (l3 + 5))] [] g4 Q
  exact ih g4 ⟨k7, k8, k9, k10, p5.1, p5.2.1, p5.2.2.1, p5.2.2.2.1, k11, k12⟩
set_option maxRecDepth 100000 in
set_option maxHeartbeats 4000000 in
theorem lw_t336 (X : qm_X) (h : qm_H) (l3 : Int32) (Q : qm_Q) (hX : X.1 ≤ 320) (hi : 0 ≤ l3.toInt ∧ l3.toInt + 5 ≤ X.1) (hp : mq 1 h ∧ mq 8 h ∧ mq 15 h ∧ sq h ∧ mi h ∧ sm h ∧ zs h ∧ rw_ h ∧ tp h ∧ mm h) (ih : ∀ g : qm_H, (mq 1 g ∧ mq 8 g ∧ mq 15 g ∧ sq g ∧ mi g ∧ sm g ∧ zs g ∧ rw_ g ∧ tp g ∧ mm g) → qm_PA X 239 18 [(0, .ref 130), (1, .ref 0), (2, .ref 39), (3, .int (l3 + 5))] [] g Q) : qm_PA X 239 336 [(0, .ref 130), (1, .ref 0), (2, .ref 39), (3, .int l3)] [] h Q := by
  have hm1 : mq 1 h := hp.1
  have hm8 : mq 8 h := hp.2.1
  have hm15 : mq 15 h := hp.2.2.1
  have hmsq : sq h := hp.2.2.2.1
  have hmmi : mi h := hp.2.2.2.2.1
  have hmsm : sm h := hp.2.2.2.2.2.1
  have hmzs : zs h := hp.2.2.2.2.2.2.1
  have hmrw : rw_ h := hp.2.2.2.2.2.2.2.1
  have hmtp : tp h := hp.2.2.2.2.2.2.2.2.1
  have hmmm : mm h := hp.2.2.2.2.2.2.2.2.2
  refine qm_seg_okw (C := qk_336 ++ qk_1278) (rt := some .boolean) qkw_336 rfl (cuts := [(18, [0, 1, 2, 3])]) 1500 _ _ _ _ ?_
  show (0 ≤ (l3 + 1).toInt ∧ (l3 + 1).toInt < (X.1 : Int)) ∧ ((0 ≤ (l3 + 2).toInt ∧ (l3 + 2).toInt < (X.1 : Int)) ∧ (qm_PW X 96 [.ref 0, .int (X.2 (l3 + 1).toInt.toNat), .int (X.2 (l3 + 2).toInt.toNat)] h _))
  refine ⟨(by have := ti_addK l3 (1 : Int32) 1 rfl; omega), ?_⟩
  refine ⟨(by have := ti_addK l3 (2 : Int32) 2 rfl; omega), ?_⟩
  refine sf_96_0 X h (X.2 (l3 + 1).toInt.toNat) (X.2 (l3 + 2).toInt.toNat) hm1 _ (fun r1 p2 => ?_)
  show (0 ≤ (l3 + 1).toInt ∧ (l3 + 1).toInt < (X.1 : Int)) ∧ ((0 ≤ (l3 + 2).toInt ∧ (l3 + 2).toInt < (X.1 : Int)) ∧ (qm_PW X 186 [.ref 39, .int (X.2 (l3 + 1).toInt.toNat), .int (X.2 (l3 + 2).toInt.toNat)] h _))
  refine ⟨(by have := ti_addK l3 (1 : Int32) 1 rfl; omega), ?_⟩
  refine ⟨(by have := ti_addK l3 (2 : Int32) 2 rfl; omega), ?_⟩
  refine sf_186_39 X h (X.2 (l3 + 1).toInt.toNat) (X.2 (l3 + 2).toInt.toNat) ⟨hmmi, hmsm, hmzs, hmrw⟩ _ (fun r3 g4 p5 => ?_)
  have f6 : ∀ k, (k < 0 ∨ 50 < k) → g4 k = h k := fun k hk => (p5.2.2.2.2 k (by omega)).trans (rfl)
  have k7 : mq 1 g4 := by unfold mq; rw [p5.2.2.2.2 1 (by omega)]; exact hm1
  have k8 : mq 8 g4 := by unfold mq; rw [p5.2.2.2.2 8 (by omega)]; exact hm8
  have k9 : mq 15 g4 := by unfold mq; rw [p5.2.2.2.2 15 (by omega)]; exact hm15
  have k10 : sq g4 := by unfold sq; rw [p5.2.2.2.2 37 (by omega)]; exact hmsq
  have k11 : tp g4 := by unfold tp; rw [p5.2.2.2.2 23 (by omega)]; rw [p5.2.2.2.2 24 (by omega)]; rw [p5.2.2.2.2 39 (by omega)]; rw [p5.2.2.2.2 44 (by omega)]; exact hmtp
  have k12 : mm g4 := mm_keep hmmm (fun k h1 h2 => p5.2.2.2.2 k (by omega)) (fun k h1 h2 => p5.2.2.2.2 k (by omega)) (congrFun (p5.2.2.2.2 39 (by omega)) 3) (p5.2.2.2.2 40 (by omega)) (p5.2.2.2.2 42 (by omega)) (fun k h1 h2 => p5.2.2.2.2 k (by omega))
  have k13 : wc g4 := wf_tr2 (show wc h from hmmm.1.2) (mC_of (fun k h1 h2 => p5.2.2.2.2 k (by omega)))
  have k14 : wr g4 := wf_tr2 (show wr h from wf_tr2 hmmm.1.2 hmmm.1.1.symm) (mR_of (congrFun (p5.2.2.2.2 39 (by omega)) 3) (p5.2.2.2.2 40 (by omega)))
  have e39_9_g4 : (g4 39 9).toInt = (h 39 9).toInt := congrArg (fun f : Nat → Int32 => (f 9).toInt) (p5.2.2.2.2 39 (by omega))
  have e39_14_g4 : (g4 39 14).toInt = (h 39 14).toInt := congrArg (fun f : Nat → Int32 => (f 14).toInt) (p5.2.2.2.2 39 (by omega))
  have e23_2_g4 : (g4 23 2).toInt = (h 23 2).toInt := congrArg (fun f : Nat → Int32 => (f 2).toInt) (p5.2.2.2.2 23 (by omega))
  have e23_4_g4 : (g4 23 4).toInt = (h 23 4).toInt := congrArg (fun f : Nat → Int32 => (f 4).toInt) (p5.2.2.2.2 23 (by omega))
  have w22_g4 : g4 22 = h 22 := p5.2.2.2.2 22 (by omega)
  have w24_g4 : g4 24 = h 24 := p5.2.2.2.2 24 (by omega)
  have w42_g4 : g4 42 = h 42 := p5.2.2.2.2 42 (by omega)
  have w44_g4 : g4 44 = h 44 := p5.2.2.2.2 44 (by omega)
  have e44_g4 : g4 44 = h 44 := w44_g4
  have e9_g4 : (g4 39 9).toInt = (h 39 9).toInt := e39_9_g4
  show qm_PA X 239 18 [(0, .ref 130), (1, .ref 0), (2, .ref 39), (3, .int (l3 + 5))] [] g4 Q
  exact ih g4 ⟨k7, k8, k9, k10, p5.1, p5.2.1, p5.2.2.1, p5.2.2.2.1, k11, k12⟩
set_option maxRecDepth 100000 in
set_option maxHeartbeats 4000000 in
theorem lw_t369 (X : qm_X) (h : qm_H) (l3 : Int32) (Q : qm_Q) (hX : X.1 ≤ 320) (hi : 0 ≤ l3.toInt ∧ l3.toInt + 5 ≤ X.1) (hp : mq 1 h ∧ mq 8 h ∧ mq 15 h ∧ sq h ∧ mi h ∧ sm h ∧ zs h ∧ rw_ h ∧ tp h ∧ mm h) (ih : ∀ g : qm_H, (mq 1 g ∧ mq 8 g ∧ mq 15 g ∧ sq g ∧ mi g ∧ sm g ∧ zs g ∧ rw_ g ∧ tp g ∧ mm g) → qm_PA X 239 18 [(0, .ref 130), (1, .ref 0), (2, .ref 39), (3, .int (l3 + 5))] [] g Q) : qm_PA X 239 369 [(0, .ref 130), (1, .ref 0), (2, .ref 39), (3, .int l3)] [] h Q := by
  have hm1 : mq 1 h := hp.1
  have hm8 : mq 8 h := hp.2.1
  have hm15 : mq 15 h := hp.2.2.1
  have hmsq : sq h := hp.2.2.2.1
  have hmmi : mi h := hp.2.2.2.2.1
  have hmsm : sm h := hp.2.2.2.2.2.1
  have hmzs : zs h := hp.2.2.2.2.2.2.1
  have hmrw : rw_ h := hp.2.2.2.2.2.2.2.1
  have hmtp : tp h := hp.2.2.2.2.2.2.2.2.1
  have hmmm : mm h := hp.2.2.2.2.2.2.2.2.2
  refine qm_seg_okw (C := qk_369 ++ qk_1278) (rt := some .boolean) qkw_369 rfl (cuts := [(18, [0, 1, 2, 3])]) 1500 _ _ _ _ ?_
  show (0 ≤ (l3 + 1).toInt ∧ (l3 + 1).toInt < (X.1 : Int)) ∧ ((0 ≤ (l3 + 2).toInt ∧ (l3 + 2).toInt < (X.1 : Int)) ∧ (qm_PW X 97 [.ref 0, .int (X.2 (l3 + 1).toInt.toNat), .int (X.2 (l3 + 2).toInt.toNat)] h _))
  refine ⟨(by have := ti_addK l3 (1 : Int32) 1 rfl; omega), ?_⟩
  refine ⟨(by have := ti_addK l3 (2 : Int32) 2 rfl; omega), ?_⟩
  refine sf_97_0 X h (X.2 (l3 + 1).toInt.toNat) (X.2 (l3 + 2).toInt.toNat) hm1 _ (fun r1 p2 => ?_)
  show (0 ≤ (l3 + 1).toInt ∧ (l3 + 1).toInt < (X.1 : Int)) ∧ ((0 ≤ (l3 + 2).toInt ∧ (l3 + 2).toInt < (X.1 : Int)) ∧ (qm_PW X 187 [.ref 39, .int (X.2 (l3 + 1).toInt.toNat), .int (X.2 (l3 + 2).toInt.toNat)] h _))
  refine ⟨(by have := ti_addK l3 (1 : Int32) 1 rfl; omega), ?_⟩
  refine ⟨(by have := ti_addK l3 (2 : Int32) 2 rfl; omega), ?_⟩
  refine sf_187_39 X h (X.2 (l3 + 1).toInt.toNat) (X.2 (l3 + 2).toInt.toNat) ⟨hmmi, hmsm, hmzs, hmrw⟩ _ (fun r3 g4 p5 => ?_)
  have f6 : ∀ k, (k < 0 ∨ 50 < k) → g4 k = h k := fun k hk => (p5.2.2.2.2 k (by omega)).trans (rfl)
  have k7 : mq 1 g4 := by unfold mq; rw [p5.2.2.2.2 1 (by omega)]; exact hm1
  have k8 : mq 8 g4 := by unfold mq; rw [p5.2.2.2.2 8 (by omega)]; exact hm8
  have k9 : mq 15 g4 := by unfold mq; rw [p5.2.2.2.2 15 (by omega)]; exact hm15
  have k10 : sq g4 := by unfold sq; rw [p5.2.2.2.2 37 (by omega)]; exact hmsq
  have k11 : tp g4 := by unfold tp; rw [p5.2.2.2.2 23 (by omega)]; rw [p5.2.2.2.2 24 (by omega)]; rw [p5.2.2.2.2 39 (by omega)]; rw [p5.2.2.2.2 44 (by omega)]; exact hmtp
  have k12 : mm g4 := mm_keep hmmm (fun k h1 h2 => p5.2.2.2.2 k (by omega)) (fun k h1 h2 => p5.2.2.2.2 k (by omega)) (congrFun (p5.2.2.2.2 39 (by omega)) 3) (p5.2.2.2.2 40 (by omega)) (p5.2.2.2.2 42 (by omega)) (fun k h1 h2 => p5.2.2.2.2 k (by omega))
  have k13 : wc g4 := wf_tr2 (show wc h from hmmm.1.2) (mC_of (fun k h1 h2 => p5.2.2.2.2 k (by omega)))
  have k14 : wr g4 := wf_tr2 (show wr h from wf_tr2 hmmm.1.2 hmmm.1.1.symm) (mR_of (congrFun (p5.2.2.2.2 39 (by omega)) 3) (p5.2.2.2.2 40 (by omega)))
  have e39_9_g4 : (g4 39 9).toInt = (h 39 9).toInt := congrArg (fun f : Nat → Int32 => (f 9).toInt) (p5.2.2.2.2 39 (by omega))
  have e39_14_g4 : (g4 39 14).toInt = (h 39 14).toInt := congrArg (fun f : Nat → Int32 => (f 14).toInt) (p5.2.2.2.2 39 (by omega))
  have e23_2_g4 : (g4 23 2).toInt = (h 23 2).toInt := congrArg (fun f : Nat → Int32 => (f 2).toInt) (p5.2.2.2.2 23 (by omega))
  have e23_4_g4 : (g4 23 4).toInt = (h 23 4).toInt := congrArg (fun f : Nat → Int32 => (f 4).toInt) (p5.2.2.2.2 23 (by omega))
  have w22_g4 : g4 22 = h 22 := p5.2.2.2.2 22 (by omega)
  have w24_g4 : g4 24 = h 24 := p5.2.2.2.2 24 (by omega)
  have w42_g4 : g4 42 = h 42 := p5.2.2.2.2 42 (by omega)
  have w44_g4 : g4 44 = h 44 := p5.2.2.2.2 44 (by omega)
  have e44_g4 : g4 44 = h 44 := w44_g4
  have e9_g4 : (g4 39 9).toInt = (h 39 9).toInt := e39_9_g4
  show qm_PA X 239 18 [(0, .ref 130), (1, .ref 0), (2, .ref 39), (3, .int (l3 + 5))] [] g4 Q
  exact ih g4 ⟨k7, k8, k9, k10, p5.1, p5.2.1, p5.2.2.1, p5.2.2.2.1, k11, k12⟩
set_option maxRecDepth 100000 in
set_option maxHeartbeats 4000000 in
theorem lw_t402 (X : qm_X) (h : qm_H) (l3 : Int32) (Q : qm_Q) (hX : X.1 ≤ 320) (hi : 0 ≤ l3.toInt ∧ l3.toInt + 5 ≤ X.1) (hp : mq 1 h ∧ mq 8 h ∧ mq 15 h ∧ sq h ∧ mi h ∧ sm h ∧ zs h ∧ rw_ h ∧ tp h ∧ mm h) (ih : ∀ g : qm_H, (mq 1 g ∧ mq 8 g ∧ mq 15 g ∧ sq g ∧ mi g ∧ sm g ∧ zs g ∧ rw_ g ∧ tp g ∧ mm g) → qm_PA X 239 18 [(0, .ref 130), (1, .ref 0), (2, .ref 39), (3, .int (l3 + 5))] [] g Q) : qm_PA X 239 402 [(0, .ref 130), (1, .ref 0), (2, .ref 39), (3, .int l3)] [] h Q := by
  have hm1 : mq 1 h := hp.1
  have hm8 : mq 8 h := hp.2.1
  have hm15 : mq 15 h := hp.2.2.1
  have hmsq : sq h := hp.2.2.2.1
  have hmmi : mi h := hp.2.2.2.2.1
  have hmsm : sm h := hp.2.2.2.2.2.1
  have hmzs : zs h := hp.2.2.2.2.2.2.1
  have hmrw : rw_ h := hp.2.2.2.2.2.2.2.1
  have hmtp : tp h := hp.2.2.2.2.2.2.2.2.1
  have hmmm : mm h := hp.2.2.2.2.2.2.2.2.2
  have hrt0 : (h 23 2).toInt = (h 39 9).toInt := hmtp.1
  have hbt : bt (h 44) (h 39 9).toInt := hmtp.2.2
  have ⟨⟨_, _⟩, ⟨_, _⟩, ⟨_, _⟩, ⟨_, _⟩, _, _⟩ := hmmi
  refine qm_seg_okw (C := qk_402 ++ qk_1278) (rt := some .boolean) qkw_402 rfl (cuts := [(18, [0, 1, 2, 3])]) 1500 _ _ _ _ ?_
  show (0 ≤ (l3 + 1).toInt ∧ (l3 + 1).toInt < (X.1 : Int)) ∧ ((0 ≤ (l3 + 2).toInt ∧ (l3 + 2).toInt < (X.1 : Int)) ∧ ((0 ≤ (l3 + 3).toInt ∧ (l3 + 3).toInt < (X.1 : Int)) ∧ (qm_PW X 98 [.ref 0, .int (X.2 (l3 + 1).toInt.toNat), .int (X.2 (l3 + 2).toInt.toNat), .int (X.2 (l3 + 3).toInt.toNat)] h _)))
  refine ⟨(by have := ti_addK l3 (1 : Int32) 1 rfl; omega), ?_⟩
  refine ⟨(by have := ti_addK l3 (2 : Int32) 2 rfl; omega), ?_⟩
  refine ⟨(by have := ti_addK l3 (3 : Int32) 3 rfl; omega), ?_⟩
  refine ty_98 X h (X.2 (l3 + 1).toInt.toNat) (X.2 (l3 + 2).toInt.toNat) (X.2 (l3 + 3).toInt.toNat) ⟨hm1, hm8, hm15, hmsq⟩ _ (fun r1 g2 p3 => ?_)
  have f4 : ∀ k, (k < 0 ∨ 50 < k) → g2 k = h k := fun k hk => (p3.2.2.2.2.1 k (by omega)).trans (rfl)
  have k5 : mi g2 := by unfold mi; rw [p3.2.2.2.2.1 39 (by omega)]; exact hmmi
  have k6 : sm g2 := by unfold sm; rw [p3.2.2.2.2.1 40 (by omega)]; exact hmsm
  have k7 : zs g2 := by unfold zs; rw [p3.2.2.2.2.1 49 (by omega)]; exact hmzs
  have k8 : rw_ g2 := by unfold rw_; rw [p3.2.2.2.2.1 46 (by omega)]; exact hmrw
  have k9 : tp g2 := by unfold tp; rw [p3.2.2.2.2.1 23 (by omega)]; rw [p3.2.2.2.2.1 24 (by omega)]; rw [p3.2.2.2.2.1 39 (by omega)]; rw [p3.2.2.2.2.1 44 (by omega)]; exact hmtp
  have k10 : wr g2 := wf_tr2 (show wr h from wf_tr2 hmmm.1.2 hmmm.1.1.symm) (mR_of (congrFun (p3.2.2.2.2.1 39 (by omega)) 3) (p3.2.2.2.2.1 40 (by omega)))
  have o11 : r1.toInt = (opTie (X.2 (l3 + 1).toInt.toNat) (X.2 (l3 + 2).toInt.toNat) (X.2 (l3 + 3).toInt.toNat) (mC h)).1 ∧ mC g2 = (opTie (X.2 (l3 + 1).toInt.toNat) (X.2 (l3 + 2).toInt.toNat) (X.2 (l3 + 3).toInt.toNat) (mC h)).2 := p3.2.2.2.2.2
  have e39_9_g2 : (g2 39 9).toInt = (h 39 9).toInt := congrArg (fun f : Nat → Int32 => (f 9).toInt) (p3.2.2.2.2.1 39 (by omega))
  have e39_14_g2 : (g2 39 14).toInt = (h 39 14).toInt := congrArg (fun f : Nat → Int32 => (f 14).toInt) (p3.2.2.2.2.1 39 (by omega))
  have e23_2_g2 : (g2 23 2).toInt = (h 23 2).toInt := congrArg (fun f : Nat → Int32 => (f 2).toInt) (p3.2.2.2.2.1 23 (by omega))
  have e23_4_g2 : (g2 23 4).toInt = (h 23 4).toInt := congrArg (fun f : Nat → Int32 => (f 4).toInt) (p3.2.2.2.2.1 23 (by omega))
  have w22_g2 : g2 22 = h 22 := p3.2.2.2.2.1 22 (by omega)
  have w24_g2 : g2 24 = h 24 := p3.2.2.2.2.1 24 (by omega)
  have w42_g2 : g2 42 = h 42 := p3.2.2.2.2.1 42 (by omega)
  have w44_g2 : g2 44 = h 44 := p3.2.2.2.2.1 44 (by omega)
  have e44_g2 : g2 44 = h 44 := w44_g2
  have e9_g2 : (g2 39 9).toInt = (h 39 9).toInt := e39_9_g2
  show (0 ≤ (l3 + 1).toInt ∧ (l3 + 1).toInt < (X.1 : Int)) ∧ ((0 ≤ (l3 + 2).toInt ∧ (l3 + 2).toInt < (X.1 : Int)) ∧ ((0 ≤ (l3 + 3).toInt ∧ (l3 + 3).toInt < (X.1 : Int)) ∧ (qm_PW X 189 [.ref 39, .int (X.2 (l3 + 1).toInt.toNat), .int (X.2 (l3 + 2).toInt.toNat), .int (X.2 (l3 + 3).toInt.toNat)] g2 _)))
  refine ⟨(by have := ti_addK l3 (1 : Int32) 1 rfl; have := ti_addK l3 (2 : Int32) 2 rfl; have := ti_addK l3 (3 : Int32) 3 rfl; omega), ?_⟩
  refine ⟨(by have := ti_addK l3 (2 : Int32) 2 rfl; have := ti_addK l3 (1 : Int32) 1 rfl; have := ti_addK l3 (3 : Int32) 3 rfl; omega), ?_⟩
  refine ⟨(by have := ti_addK l3 (3 : Int32) 3 rfl; have := ti_addK l3 (1 : Int32) 1 rfl; have := ti_addK l3 (2 : Int32) 2 rfl; omega), ?_⟩
  refine ty_189 X g2 (X.2 (l3 + 1).toInt.toNat) (X.2 (l3 + 2).toInt.toNat) (X.2 (l3 + 3).toInt.toNat) ⟨k5, k6, k7, k8⟩ _ (fun r12 g13 p14 => ?_)
  have f15 : ∀ k, (k < 0 ∨ 50 < k) → g13 k = h k := fun k hk => (p14.2.2.2.2.1 k (by omega)).trans (f4 k hk)
  have k16 : mq 1 g13 := by unfold mq; rw [p14.2.2.2.2.1 1 (by omega)]; exact p3.1
  have k17 : mq 8 g13 := by unfold mq; rw [p14.2.2.2.2.1 8 (by omega)]; exact p3.2.1
  have k18 : mq 15 g13 := by unfold mq; rw [p14.2.2.2.2.1 15 (by omega)]; exact p3.2.2.1
  have k19 : sq g13 := by unfold sq; rw [p14.2.2.2.2.1 37 (by omega)]; exact p3.2.2.2.1
  have k20 : tp g13 := by unfold tp; rw [p14.2.2.2.2.1 23 (by omega)]; rw [p14.2.2.2.2.1 24 (by omega)]; rw [p14.2.2.2.2.1 39 (by omega)]; rw [p14.2.2.2.2.1 44 (by omega)]; exact k9
  have o21 : (wfM (mR g2) → r12.toInt = (opTie (X.2 (l3 + 1).toInt.toNat) (X.2 (l3 + 2).toInt.toNat) (X.2 (l3 + 3).toInt.toNat) (mR g2)).1 ∧ mR g13 = (opTie (X.2 (l3 + 1).toInt.toNat) (X.2 (l3 + 2).toInt.toNat) (X.2 (l3 + 3).toInt.toNat) (mR g2)).2) ∧ (∀ j : Nat, 49 ≤ j → (g13 40) j = (g2 40) j) := p14.2.2.2.2.2
  have e39_9_g13 : (g13 39 9).toInt = (g2 39 9).toInt := congrArg (fun f : Nat → Int32 => (f 9).toInt) (p14.2.2.2.2.1 39 (by omega))
  have e39_14_g13 : (g13 39 14).toInt = (g2 39 14).toInt := congrArg (fun f : Nat → Int32 => (f 14).toInt) (p14.2.2.2.2.1 39 (by omega))
  have e23_2_g13 : (g13 23 2).toInt = (g2 23 2).toInt := congrArg (fun f : Nat → Int32 => (f 2).toInt) (p14.2.2.2.2.1 23 (by omega))
  have e23_4_g13 : (g13 23 4).toInt = (g2 23 4).toInt := congrArg (fun f : Nat → Int32 => (f 4).toInt) (p14.2.2.2.2.1 23 (by omega))
  have w22_g13 : g13 22 = g2 22 := p14.2.2.2.2.1 22 (by omega)
  have w24_g13 : g13 24 = g2 24 := p14.2.2.2.2.1 24 (by omega)
  have w42_g13 : g13 42 = g2 42 := p14.2.2.2.2.1 42 (by omega)
  have w44_g13 : g13 44 = g2 44 := p14.2.2.2.2.1 44 (by omega)
  show qm_PA X 239 18 [(0, .ref 130), (1, .ref 0), (2, .ref 39), (3, .int (l3 + 5))] [] g13 Q
  exact ih g13 ⟨k16, k17, k18, k19, p14.1, p14.2.1, p14.2.2.1, p14.2.2.2.1, k20, (by exact (mm_op (opTie (X.2 (l3 + 1).toInt.toNat) (X.2 (l3 + 2).toInt.toNat) (X.2 (l3 + 3).toInt.toNat)) (fun M w => wf_tie w) hmmm o11 o21 (fun i hi => p3.2.2.2.2.1 i (by omega)) (fun i hi => p14.2.2.2.2.1 i (by omega)) (fun i hi => p14.2.2.2.2.1 i (by omega)) (congrFun (p14.2.2.2.2.1 39 (by omega)) 3)).1)⟩
set_option maxRecDepth 100000 in
set_option maxHeartbeats 4000000 in
theorem lw_t445 (X : qm_X) (h : qm_H) (l3 : Int32) (Q : qm_Q) (hX : X.1 ≤ 320) (hi : 0 ≤ l3.toInt ∧ l3.toInt + 5 ≤ X.1) (hp : mq 1 h ∧ mq 8 h ∧ mq 15 h ∧ sq h ∧ mi h ∧ sm h ∧ zs h ∧ rw_ h ∧ tp h ∧ mm h) (ih : ∀ g : qm_H, (mq 1 g ∧ mq 8 g ∧ mq 15 g ∧ sq g ∧ mi g ∧ sm g ∧ zs g ∧ rw_ g ∧ tp g ∧ mm g) → qm_PA X 239 18 [(0, .ref 130), (1, .ref 0), (2, .ref 39), (3, .int (l3 + 5))] [] g Q) : qm_PA X 239 445 [(0, .ref 130), (1, .ref 0), (2, .ref 39), (3, .int l3)] [] h Q := by
  have hm1 : mq 1 h := hp.1
  have hm8 : mq 8 h := hp.2.1
  have hm15 : mq 15 h := hp.2.2.1
  have hmsq : sq h := hp.2.2.2.1
  have hmmi : mi h := hp.2.2.2.2.1
  have hmsm : sm h := hp.2.2.2.2.2.1
  have hmzs : zs h := hp.2.2.2.2.2.2.1
  have hmrw : rw_ h := hp.2.2.2.2.2.2.2.1
  have hmtp : tp h := hp.2.2.2.2.2.2.2.2.1
  have hmmm : mm h := hp.2.2.2.2.2.2.2.2.2
  have hrt0 : (h 23 2).toInt = (h 39 9).toInt := hmtp.1
  have hbt : bt (h 44) (h 39 9).toInt := hmtp.2.2
  have ⟨⟨_, _⟩, ⟨_, _⟩, ⟨_, _⟩, ⟨_, _⟩, _, _⟩ := hmmi
  refine qm_seg_okw (C := qk_445 ++ qk_1278) (rt := some .boolean) qkw_445 rfl (cuts := [(18, [0, 1, 2, 3])]) 1500 _ _ _ _ ?_
  show (0 ≤ (l3 + 1).toInt ∧ (l3 + 1).toInt < (X.1 : Int)) ∧ (qm_PW X 99 [.ref 0, .int (X.2 (l3 + 1).toInt.toNat)] h _)
  refine ⟨(by have := ti_addK l3 (1 : Int32) 1 rfl; omega), ?_⟩
  refine ty_99 X h (X.2 (l3 + 1).toInt.toNat) ⟨hm1, hm8, hm15, hmsq⟩ _ (fun r1 g2 p3 => ?_)
  have f4 : ∀ k, (k < 0 ∨ 50 < k) → g2 k = h k := fun k hk => (p3.2.2.2.2.1 k (by omega)).trans (rfl)
  have k5 : mi g2 := by unfold mi; rw [p3.2.2.2.2.1 39 (by omega)]; exact hmmi
  have k6 : sm g2 := by unfold sm; rw [p3.2.2.2.2.1 40 (by omega)]; exact hmsm
  have k7 : zs g2 := by unfold zs; rw [p3.2.2.2.2.1 49 (by omega)]; exact hmzs
  have k8 : rw_ g2 := by unfold rw_; rw [p3.2.2.2.2.1 46 (by omega)]; exact hmrw
  have k9 : tp g2 := by unfold tp; rw [p3.2.2.2.2.1 23 (by omega)]; rw [p3.2.2.2.2.1 24 (by omega)]; rw [p3.2.2.2.2.1 39 (by omega)]; rw [p3.2.2.2.2.1 44 (by omega)]; exact hmtp
  have k10 : wr g2 := wf_tr2 (show wr h from wf_tr2 hmmm.1.2 hmmm.1.1.symm) (mR_of (congrFun (p3.2.2.2.2.1 39 (by omega)) 3) (p3.2.2.2.2.1 40 (by omega)))
  have o11 : r1.toInt = (opCut (X.2 (l3 + 1).toInt.toNat) (mC h)).1 ∧ mC g2 = (opCut (X.2 (l3 + 1).toInt.toNat) (mC h)).2 := p3.2.2.2.2.2
  have e39_9_g2 : (g2 39 9).toInt = (h 39 9).toInt := congrArg (fun f : Nat → Int32 => (f 9).toInt) (p3.2.2.2.2.1 39 (by omega))
  have e39_14_g2 : (g2 39 14).toInt = (h 39 14).toInt := congrArg (fun f : Nat → Int32 => (f 14).toInt) (p3.2.2.2.2.1 39 (by omega))
  have e23_2_g2 : (g2 23 2).toInt = (h 23 2).toInt := congrArg (fun f : Nat → Int32 => (f 2).toInt) (p3.2.2.2.2.1 23 (by omega))
  have e23_4_g2 : (g2 23 4).toInt = (h 23 4).toInt := congrArg (fun f : Nat → Int32 => (f 4).toInt) (p3.2.2.2.2.1 23 (by omega))
  have w22_g2 : g2 22 = h 22 := p3.2.2.2.2.1 22 (by omega)
  have w24_g2 : g2 24 = h 24 := p3.2.2.2.2.1 24 (by omega)
  have w42_g2 : g2 42 = h 42 := p3.2.2.2.2.1 42 (by omega)
  have w44_g2 : g2 44 = h 44 := p3.2.2.2.2.1 44 (by omega)
  have e44_g2 : g2 44 = h 44 := w44_g2
  have e9_g2 : (g2 39 9).toInt = (h 39 9).toInt := e39_9_g2
  show (0 ≤ (l3 + 1).toInt ∧ (l3 + 1).toInt < (X.1 : Int)) ∧ (qm_PW X 190 [.ref 39, .int (X.2 (l3 + 1).toInt.toNat)] g2 _)
  refine ⟨(by have := ti_addK l3 (1 : Int32) 1 rfl; omega), ?_⟩
  refine ty_190 X g2 (X.2 (l3 + 1).toInt.toNat) ⟨k5, k6, k7, k8⟩ _ (fun r12 g13 p14 => ?_)
  have f15 : ∀ k, (k < 0 ∨ 50 < k) → g13 k = h k := fun k hk => (p14.2.2.2.2.1 k (by omega)).trans (f4 k hk)
  have k16 : mq 1 g13 := by unfold mq; rw [p14.2.2.2.2.1 1 (by omega)]; exact p3.1
  have k17 : mq 8 g13 := by unfold mq; rw [p14.2.2.2.2.1 8 (by omega)]; exact p3.2.1
  have k18 : mq 15 g13 := by unfold mq; rw [p14.2.2.2.2.1 15 (by omega)]; exact p3.2.2.1
  have k19 : sq g13 := by unfold sq; rw [p14.2.2.2.2.1 37 (by omega)]; exact p3.2.2.2.1
  have k20 : tp g13 := by unfold tp; rw [p14.2.2.2.2.1 23 (by omega)]; rw [p14.2.2.2.2.1 24 (by omega)]; rw [p14.2.2.2.2.1 39 (by omega)]; rw [p14.2.2.2.2.1 44 (by omega)]; exact k9
  have o21 : (wfM (mR g2) → r12.toInt = (opCut (X.2 (l3 + 1).toInt.toNat) (mR g2)).1 ∧ mR g13 = (opCut (X.2 (l3 + 1).toInt.toNat) (mR g2)).2) ∧ (∀ j : Nat, 49 ≤ j → (g13 40) j = (g2 40) j) := p14.2.2.2.2.2
  have e39_9_g13 : (g13 39 9).toInt = (g2 39 9).toInt := congrArg (fun f : Nat → Int32 => (f 9).toInt) (p14.2.2.2.2.1 39 (by omega))
  have e39_14_g13 : (g13 39 14).toInt = (g2 39 14).toInt := congrArg (fun f : Nat → Int32 => (f 14).toInt) (p14.2.2.2.2.1 39 (by omega))
  have e23_2_g13 : (g13 23 2).toInt = (g2 23 2).toInt := congrArg (fun f : Nat → Int32 => (f 2).toInt) (p14.2.2.2.2.1 23 (by omega))
  have e23_4_g13 : (g13 23 4).toInt = (g2 23 4).toInt := congrArg (fun f : Nat → Int32 => (f 4).toInt) (p14.2.2.2.2.1 23 (by omega))
  have w22_g13 : g13 22 = g2 22 := p14.2.2.2.2.1 22 (by omega)
  have w24_g13 : g13 24 = g2 24 := p14.2.2.2.2.1 24 (by omega)
  have w42_g13 : g13 42 = g2 42 := p14.2.2.2.2.1 42 (by omega)
  have w44_g13 : g13 44 = g2 44 := p14.2.2.2.2.1 44 (by omega)
  show qm_PA X 239 18 [(0, .ref 130), (1, .ref 0), (2, .ref 39), (3, .int (l3 + 5))] [] g13 Q
  exact ih g13 ⟨k16, k17, k18, k19, p14.1, p14.2.1, p14.2.2.1, p14.2.2.2.1, k20, (by exact (mm_op (opCut (X.2 (l3 + 1).toInt.toNat)) (fun M w => wf_cut w) hmmm o11 o21 (fun i hi => p3.2.2.2.2.1 i (by omega)) (fun i hi => p14.2.2.2.2.1 i (by omega)) (fun i hi => p14.2.2.2.2.1 i (by omega)) (congrFun (p14.2.2.2.2.1 39 (by omega)) 3)).1)⟩
set_option maxRecDepth 100000 in
set_option maxHeartbeats 4000000 in
theorem lw_t468 (X : qm_X) (h : qm_H) (l3 : Int32) (Q : qm_Q) (hX : X.1 ≤ 320) (hi : 0 ≤ l3.toInt ∧ l3.toInt + 5 ≤ X.1) (hp : mq 1 h ∧ mq 8 h ∧ mq 15 h ∧ sq h ∧ mi h ∧ sm h ∧ zs h ∧ rw_ h ∧ tp h ∧ mm h) (ih : ∀ g : qm_H, (mq 1 g ∧ mq 8 g ∧ mq 15 g ∧ sq g ∧ mi g ∧ sm g ∧ zs g ∧ rw_ g ∧ tp g ∧ mm g) → qm_PA X 239 18 [(0, .ref 130), (1, .ref 0), (2, .ref 39), (3, .int (l3 + 5))] [] g Q) : qm_PA X 239 468 [(0, .ref 130), (1, .ref 0), (2, .ref 39), (3, .int l3)] [] h Q := by
  have hm1 : mq 1 h := hp.1
  have hm8 : mq 8 h := hp.2.1
  have hm15 : mq 15 h := hp.2.2.1
  have hmsq : sq h := hp.2.2.2.1
  have hmmi : mi h := hp.2.2.2.2.1
  have hmsm : sm h := hp.2.2.2.2.2.1
  have hmzs : zs h := hp.2.2.2.2.2.2.1
  have hmrw : rw_ h := hp.2.2.2.2.2.2.2.1
  have hmtp : tp h := hp.2.2.2.2.2.2.2.2.1
  have hmmm : mm h := hp.2.2.2.2.2.2.2.2.2
  have hrt0 : (h 23 2).toInt = (h 39 9).toInt := hmtp.1
  have hbt : bt (h 44) (h 39 9).toInt := hmtp.2.2
  have ⟨⟨_, _⟩, ⟨_, _⟩, ⟨_, _⟩, ⟨_, _⟩, _, _⟩ := hmmi
  refine qm_seg_okw (C := qk_468 ++ qk_1278) (rt := some .boolean) qkw_468 rfl (cuts := [(18, [0, 1, 2, 3])]) 1500 _ _ _ _ ?_
  show (0 ≤ (l3 + 1).toInt ∧ (l3 + 1).toInt < (X.1 : Int)) ∧ ((0 ≤ (l3 + 2).toInt ∧ (l3 + 2).toInt < (X.1 : Int)) ∧ (qm_PW X 100 [.ref 0, .int (X.2 (l3 + 1).toInt.toNat), .int (X.2 (l3 + 2).toInt.toNat)] h _))
  refine ⟨(by have := ti_addK l3 (1 : Int32) 1 rfl; omega), ?_⟩
  refine ⟨(by have := ti_addK l3 (2 : Int32) 2 rfl; omega), ?_⟩
  refine ty_100 X h (X.2 (l3 + 1).toInt.toNat) (X.2 (l3 + 2).toInt.toNat) ⟨hm1, hm8, hm15, hmsq⟩ _ (fun r1 g2 p3 => ?_)
  have f4 : ∀ k, (k < 0 ∨ 50 < k) → g2 k = h k := fun k hk => (p3.2.2.2.2.1 k (by omega)).trans (rfl)
  have k5 : mi g2 := by unfold mi; rw [p3.2.2.2.2.1 39 (by omega)]; exact hmmi
  have k6 : sm g2 := by unfold sm; rw [p3.2.2.2.2.1 40 (by omega)]; exact hmsm
  have k7 : zs g2 := by unfold zs; rw [p3.2.2.2.2.1 49 (by omega)]; exact hmzs
  have k8 : rw_ g2 := by unfold rw_; rw [p3.2.2.2.2.1 46 (by omega)]; exact hmrw
  have k9 : tp g2 := by unfold tp; rw [p3.2.2.2.2.1 23 (by omega)]; rw [p3.2.2.2.2.1 24 (by omega)]; rw [p3.2.2.2.2.1 39 (by omega)]; rw [p3.2.2.2.2.1 44 (by omega)]; exact hmtp
  have k10 : wr g2 := wf_tr2 (show wr h from wf_tr2 hmmm.1.2 hmmm.1.1.symm) (mR_of (congrFun (p3.2.2.2.2.1 39 (by omega)) 3) (p3.2.2.2.2.1 40 (by omega)))
  have o11 : r1.toInt = (opMove (X.2 (l3 + 1).toInt.toNat) (X.2 (l3 + 2).toInt.toNat) (mC h)).1 ∧ mC g2 = (opMove (X.2 (l3 + 1).toInt.toNat) (X.2 (l3 + 2).toInt.toNat) (mC h)).2 := p3.2.2.2.2.2
  have e39_9_g2 : (g2 39 9).toInt = (h 39 9).toInt := congrArg (fun f : Nat → Int32 => (f 9).toInt) (p3.2.2.2.2.1 39 (by omega))
  have e39_14_g2 : (g2 39 14).toInt = (h 39 14).toInt := congrArg (fun f : Nat → Int32 => (f 14).toInt) (p3.2.2.2.2.1 39 (by omega))
  have e23_2_g2 : (g2 23 2).toInt = (h 23 2).toInt := congrArg (fun f : Nat → Int32 => (f 2).toInt) (p3.2.2.2.2.1 23 (by omega))
  have e23_4_g2 : (g2 23 4).toInt = (h 23 4).toInt := congrArg (fun f : Nat → Int32 => (f 4).toInt) (p3.2.2.2.2.1 23 (by omega))
  have w22_g2 : g2 22 = h 22 := p3.2.2.2.2.1 22 (by omega)
  have w24_g2 : g2 24 = h 24 := p3.2.2.2.2.1 24 (by omega)
  have w42_g2 : g2 42 = h 42 := p3.2.2.2.2.1 42 (by omega)
  have w44_g2 : g2 44 = h 44 := p3.2.2.2.2.1 44 (by omega)
  have e44_g2 : g2 44 = h 44 := w44_g2
  have e9_g2 : (g2 39 9).toInt = (h 39 9).toInt := e39_9_g2
  show (0 ≤ (l3 + 1).toInt ∧ (l3 + 1).toInt < (X.1 : Int)) ∧ ((0 ≤ (l3 + 2).toInt ∧ (l3 + 2).toInt < (X.1 : Int)) ∧ (qm_PW X 191 [.ref 39, .int (X.2 (l3 + 1).toInt.toNat), .int (X.2 (l3 + 2).toInt.toNat)] g2 _))
  refine ⟨(by have := ti_addK l3 (1 : Int32) 1 rfl; have := ti_addK l3 (2 : Int32) 2 rfl; omega), ?_⟩
  refine ⟨(by have := ti_addK l3 (2 : Int32) 2 rfl; have := ti_addK l3 (1 : Int32) 1 rfl; omega), ?_⟩
  refine ty_191 X g2 (X.2 (l3 + 1).toInt.toNat) (X.2 (l3 + 2).toInt.toNat) ⟨k5, k6, k7, k8⟩ _ (fun r12 g13 p14 => ?_)
  have f15 : ∀ k, (k < 0 ∨ 50 < k) → g13 k = h k := fun k hk => (p14.2.2.2.2.1 k (by omega)).trans (f4 k hk)
  have k16 : mq 1 g13 := by unfold mq; rw [p14.2.2.2.2.1 1 (by omega)]; exact p3.1
  have k17 : mq 8 g13 := by unfold mq; rw [p14.2.2.2.2.1 8 (by omega)]; exact p3.2.1
  have k18 : mq 15 g13 := by unfold mq; rw [p14.2.2.2.2.1 15 (by omega)]; exact p3.2.2.1
  have k19 : sq g13 := by unfold sq; rw [p14.2.2.2.2.1 37 (by omega)]; exact p3.2.2.2.1
  have k20 : tp g13 := by unfold tp; rw [p14.2.2.2.2.1 23 (by omega)]; rw [p14.2.2.2.2.1 24 (by omega)]; rw [p14.2.2.2.2.1 39 (by omega)]; rw [p14.2.2.2.2.1 44 (by omega)]; exact k9
  have o21 : (wfM (mR g2) → r12.toInt = (opMove (X.2 (l3 + 1).toInt.toNat) (X.2 (l3 + 2).toInt.toNat) (mR g2)).1 ∧ mR g13 = (opMove (X.2 (l3 + 1).toInt.toNat) (X.2 (l3 + 2).toInt.toNat) (mR g2)).2) ∧ (∀ j : Nat, 49 ≤ j → (g13 40) j = (g2 40) j) := p14.2.2.2.2.2
  have e39_9_g13 : (g13 39 9).toInt = (g2 39 9).toInt := congrArg (fun f : Nat → Int32 => (f 9).toInt) (p14.2.2.2.2.1 39 (by omega))
  have e39_14_g13 : (g13 39 14).toInt = (g2 39 14).toInt := congrArg (fun f : Nat → Int32 => (f 14).toInt) (p14.2.2.2.2.1 39 (by omega))
  have e23_2_g13 : (g13 23 2).toInt = (g2 23 2).toInt := congrArg (fun f : Nat → Int32 => (f 2).toInt) (p14.2.2.2.2.1 23 (by omega))
  have e23_4_g13 : (g13 23 4).toInt = (g2 23 4).toInt := congrArg (fun f : Nat → Int32 => (f 4).toInt) (p14.2.2.2.2.1 23 (by omega))
  have w22_g13 : g13 22 = g2 22 := p14.2.2.2.2.1 22 (by omega)
  have w24_g13 : g13 24 = g2 24 := p14.2.2.2.2.1 24 (by omega)
  have w42_g13 : g13 42 = g2 42 := p14.2.2.2.2.1 42 (by omega)
  have w44_g13 : g13 44 = g2 44 := p14.2.2.2.2.1 44 (by omega)
  show qm_PA X 239 18 [(0, .ref 130), (1, .ref 0), (2, .ref 39), (3, .int (l3 + 5))] [] g13 Q
  exact ih g13 ⟨k16, k17, k18, k19, p14.1, p14.2.1, p14.2.2.1, p14.2.2.2.1, k20, (by exact (mm_op (opMove (X.2 (l3 + 1).toInt.toNat) (X.2 (l3 + 2).toInt.toNat)) (fun M w => wf_move w) hmmm o11 o21 (fun i hi => p3.2.2.2.2.1 i (by omega)) (fun i hi => p14.2.2.2.2.1 i (by omega)) (fun i hi => p14.2.2.2.2.1 i (by omega)) (congrFun (p14.2.2.2.2.1 39 (by omega)) 3)).1)⟩
set_option maxRecDepth 100000 in
set_option maxHeartbeats 4000000 in
theorem lw_t501 (X : qm_X) (h : qm_H) (l3 : Int32) (Q : qm_Q) (hX : X.1 ≤ 320) (hi : 0 ≤ l3.toInt ∧ l3.toInt + 5 ≤ X.1) (hp : mq 1 h ∧ mq 8 h ∧ mq 15 h ∧ sq h ∧ mi h ∧ sm h ∧ zs h ∧ rw_ h ∧ tp h ∧ mm h) (ih : ∀ g : qm_H, (mq 1 g ∧ mq 8 g ∧ mq 15 g ∧ sq g ∧ mi g ∧ sm g ∧ zs g ∧ rw_ g ∧ tp g ∧ mm g) → qm_PA X 239 18 [(0, .ref 130), (1, .ref 0), (2, .ref 39), (3, .int (l3 + 5))] [] g Q) : qm_PA X 239 501 [(0, .ref 130), (1, .ref 0), (2, .ref 39), (3, .int l3)] [] h Q := by
  have hm1 : mq 1 h := hp.1
  have hm8 : mq 8 h := hp.2.1
  have hm15 : mq 15 h := hp.2.2.1
  have hmsq : sq h := hp.2.2.2.1
  have hmmi : mi h := hp.2.2.2.2.1
  have hmsm : sm h := hp.2.2.2.2.2.1
  have hmzs : zs h := hp.2.2.2.2.2.2.1
  have hmrw : rw_ h := hp.2.2.2.2.2.2.2.1
  have hmtp : tp h := hp.2.2.2.2.2.2.2.2.1
  have hmmm : mm h := hp.2.2.2.2.2.2.2.2.2
  have hrt0 : (h 23 2).toInt = (h 39 9).toInt := hmtp.1
  have hbt : bt (h 44) (h 39 9).toInt := hmtp.2.2
  have ⟨⟨_, _⟩, ⟨_, _⟩, ⟨_, _⟩, ⟨_, _⟩, _, _⟩ := hmmi
  refine qm_seg_okw (C := qk_501 ++ qk_1278) (rt := some .boolean) qkw_501 rfl (cuts := [(18, [0, 1, 2, 3])]) 1500 _ _ _ _ ?_
  show (0 ≤ (l3 + 1).toInt ∧ (l3 + 1).toInt < (X.1 : Int)) ∧ (qm_PW X 101 [.ref 0, .int (X.2 (l3 + 1).toInt.toNat)] h _)
  refine ⟨(by have := ti_addK l3 (1 : Int32) 1 rfl; omega), ?_⟩
  refine ty_101 X h (X.2 (l3 + 1).toInt.toNat) ⟨hm1, hm8, hm15, hmsq⟩ _ (fun r1 g2 p3 => ?_)
  have f4 : ∀ k, (k < 0 ∨ 50 < k) → g2 k = h k := fun k hk => (p3.2.2.2.2.1 k (by omega)).trans (rfl)
  have k5 : mi g2 := by unfold mi; rw [p3.2.2.2.2.1 39 (by omega)]; exact hmmi
  have k6 : sm g2 := by unfold sm; rw [p3.2.2.2.2.1 40 (by omega)]; exact hmsm
  have k7 : zs g2 := by unfold zs; rw [p3.2.2.2.2.1 49 (by omega)]; exact hmzs
  have k8 : rw_ g2 := by unfold rw_; rw [p3.2.2.2.2.1 46 (by omega)]; exact hmrw
  have k9 : tp g2 := by unfold tp; rw [p3.2.2.2.2.1 23 (by omega)]; rw [p3.2.2.2.2.1 24 (by omega)]; rw [p3.2.2.2.2.1 39 (by omega)]; rw [p3.2.2.2.2.1 44 (by omega)]; exact hmtp
  have k10 : wr g2 := wf_tr2 (show wr h from wf_tr2 hmmm.1.2 hmmm.1.1.symm) (mR_of (congrFun (p3.2.2.2.2.1 39 (by omega)) 3) (p3.2.2.2.2.1 40 (by omega)))
  have o11 : r1.toInt = (opLose (X.2 (l3 + 1).toInt.toNat) (mC h)).1 ∧ mC g2 = (opLose (X.2 (l3 + 1).toInt.toNat) (mC h)).2 := p3.2.2.2.2.2
  have e39_9_g2 : (g2 39 9).toInt = (h 39 9).toInt := congrArg (fun f : Nat → Int32 => (f 9).toInt) (p3.2.2.2.2.1 39 (by omega))
  have e39_14_g2 : (g2 39 14).toInt = (h 39 14).toInt := congrArg (fun f : Nat → Int32 => (f 14).toInt) (p3.2.2.2.2.1 39 (by omega))
  have e23_2_g2 : (g2 23 2).toInt = (h 23 2).toInt := congrArg (fun f : Nat → Int32 => (f 2).toInt) (p3.2.2.2.2.1 23 (by omega))
  have e23_4_g2 : (g2 23 4).toInt = (h 23 4).toInt := congrArg (fun f : Nat → Int32 => (f 4).toInt) (p3.2.2.2.2.1 23 (by omega))
  have w22_g2 : g2 22 = h 22 := p3.2.2.2.2.1 22 (by omega)
  have w24_g2 : g2 24 = h 24 := p3.2.2.2.2.1 24 (by omega)
  have w42_g2 : g2 42 = h 42 := p3.2.2.2.2.1 42 (by omega)
  have w44_g2 : g2 44 = h 44 := p3.2.2.2.2.1 44 (by omega)
  have e44_g2 : g2 44 = h 44 := w44_g2
  have e9_g2 : (g2 39 9).toInt = (h 39 9).toInt := e39_9_g2
  show (0 ≤ (l3 + 1).toInt ∧ (l3 + 1).toInt < (X.1 : Int)) ∧ (qm_PW X 193 [.ref 39, .int (X.2 (l3 + 1).toInt.toNat)] g2 _)
  refine ⟨(by have := ti_addK l3 (1 : Int32) 1 rfl; omega), ?_⟩
  refine ty_193 X g2 (X.2 (l3 + 1).toInt.toNat) ⟨k5, k6, k7, k8⟩ _ (fun r12 g13 p14 => ?_)
  have f15 : ∀ k, (k < 0 ∨ 50 < k) → g13 k = h k := fun k hk => (p14.2.2.2.2.1 k (by omega)).trans (f4 k hk)
  have k16 : mq 1 g13 := by unfold mq; rw [p14.2.2.2.2.1 1 (by omega)]; exact p3.1
  have k17 : mq 8 g13 := by unfold mq; rw [p14.2.2.2.2.1 8 (by omega)]; exact p3.2.1
  have k18 : mq 15 g13 := by unfold mq; rw [p14.2.2.2.2.1 15 (by omega)]; exact p3.2.2.1
  have k19 : sq g13 := by unfold sq; rw [p14.2.2.2.2.1 37 (by omega)]; exact p3.2.2.2.1
  have k20 : tp g13 := by unfold tp; rw [p14.2.2.2.2.1 23 (by omega)]; rw [p14.2.2.2.2.1 24 (by omega)]; rw [p14.2.2.2.2.1 39 (by omega)]; rw [p14.2.2.2.2.1 44 (by omega)]; exact k9
  have o21 : (wfM (mR g2) → r12.toInt = (opLose (X.2 (l3 + 1).toInt.toNat) (mR g2)).1 ∧ mR g13 = (opLose (X.2 (l3 + 1).toInt.toNat) (mR g2)).2) ∧ (∀ j : Nat, 49 ≤ j → (g13 40) j = (g2 40) j) := p14.2.2.2.2.2
  have e39_9_g13 : (g13 39 9).toInt = (g2 39 9).toInt := congrArg (fun f : Nat → Int32 => (f 9).toInt) (p14.2.2.2.2.1 39 (by omega))
  have e39_14_g13 : (g13 39 14).toInt = (g2 39 14).toInt := congrArg (fun f : Nat → Int32 => (f 14).toInt) (p14.2.2.2.2.1 39 (by omega))
  have e23_2_g13 : (g13 23 2).toInt = (g2 23 2).toInt := congrArg (fun f : Nat → Int32 => (f 2).toInt) (p14.2.2.2.2.1 23 (by omega))
  have e23_4_g13 : (g13 23 4).toInt = (g2 23 4).toInt := congrArg (fun f : Nat → Int32 => (f 4).toInt) (p14.2.2.2.2.1 23 (by omega))
  have w22_g13 : g13 22 = g2 22 := p14.2.2.2.2.1 22 (by omega)
  have w24_g13 : g13 24 = g2 24 := p14.2.2.2.2.1 24 (by omega)
  have w42_g13 : g13 42 = g2 42 := p14.2.2.2.2.1 42 (by omega)
  have w44_g13 : g13 44 = g2 44 := p14.2.2.2.2.1 44 (by omega)
  show qm_PA X 239 18 [(0, .ref 130), (1, .ref 0), (2, .ref 39), (3, .int (l3 + 5))] [] g13 Q
  exact ih g13 ⟨k16, k17, k18, k19, p14.1, p14.2.1, p14.2.2.1, p14.2.2.2.1, k20, (by exact (mm_op (opLose (X.2 (l3 + 1).toInt.toNat)) (fun M w => wf_lose w) hmmm o11 o21 (fun i hi => p3.2.2.2.2.1 i (by omega)) (fun i hi => p14.2.2.2.2.1 i (by omega)) (fun i hi => p14.2.2.2.2.1 i (by omega)) (congrFun (p14.2.2.2.2.1 39 (by omega)) 3)).1)⟩
set_option maxRecDepth 100000 in
set_option maxHeartbeats 4000000 in
theorem lw_t524 (X : qm_X) (h : qm_H) (l3 : Int32) (Q : qm_Q) (hX : X.1 ≤ 320) (hi : 0 ≤ l3.toInt ∧ l3.toInt + 5 ≤ X.1) (hp : mq 1 h ∧ mq 8 h ∧ mq 15 h ∧ sq h ∧ mi h ∧ sm h ∧ zs h ∧ rw_ h ∧ tp h ∧ mm h) (ih : ∀ g : qm_H, (mq 1 g ∧ mq 8 g ∧ mq 15 g ∧ sq g ∧ mi g ∧ sm g ∧ zs g ∧ rw_ g ∧ tp g ∧ mm g) → qm_PA X 239 18 [(0, .ref 130), (1, .ref 0), (2, .ref 39), (3, .int (l3 + 5))] [] g Q) : qm_PA X 239 524 [(0, .ref 130), (1, .ref 0), (2, .ref 39), (3, .int l3)] [] h Q := by
  have hm1 : mq 1 h := hp.1
  have hm8 : mq 8 h := hp.2.1
  have hm15 : mq 15 h := hp.2.2.1
  have hmsq : sq h := hp.2.2.2.1
  have hmmi : mi h := hp.2.2.2.2.1
  have hmsm : sm h := hp.2.2.2.2.2.1
  have hmzs : zs h := hp.2.2.2.2.2.2.1
  have hmrw : rw_ h := hp.2.2.2.2.2.2.2.1
  have hmtp : tp h := hp.2.2.2.2.2.2.2.2.1
  have hmmm : mm h := hp.2.2.2.2.2.2.2.2.2
  have hrt0 : (h 23 2).toInt = (h 39 9).toInt := hmtp.1
  have hbt : bt (h 44) (h 39 9).toInt := hmtp.2.2
  have ⟨⟨_, _⟩, ⟨_, _⟩, ⟨_, _⟩, ⟨_, _⟩, _, _⟩ := hmmi
  refine qm_seg_okw (C := qk_524 ++ qk_1278) (rt := some .boolean) qkw_524 rfl (cuts := [(18, [0, 1, 2, 3])]) 1500 _ _ _ _ ?_
  show (0 ≤ (l3 + 1).toInt ∧ (l3 + 1).toInt < (X.1 : Int)) ∧ ((0 ≤ (l3 + 2).toInt ∧ (l3 + 2).toInt < (X.1 : Int)) ∧ (qm_PW X 102 [.ref 0, .int (X.2 (l3 + 1).toInt.toNat), .int (X.2 (l3 + 2).toInt.toNat)] h _))
  refine ⟨(by have := ti_addK l3 (1 : Int32) 1 rfl; omega), ?_⟩
  refine ⟨(by have := ti_addK l3 (2 : Int32) 2 rfl; omega), ?_⟩
  refine ty_102 X h (X.2 (l3 + 1).toInt.toNat) (X.2 (l3 + 2).toInt.toNat) ⟨hm1, hm8, hm15, hmsq⟩ _ (fun r1 g2 p3 => ?_)
  have f4 : ∀ k, (k < 0 ∨ 50 < k) → g2 k = h k := fun k hk => (p3.2.2.2.2.1 k (by omega)).trans (rfl)
  have k5 : mi g2 := by unfold mi; rw [p3.2.2.2.2.1 39 (by omega)]; exact hmmi
  have k6 : sm g2 := by unfold sm; rw [p3.2.2.2.2.1 40 (by omega)]; exact hmsm
  have k7 : zs g2 := by unfold zs; rw [p3.2.2.2.2.1 49 (by omega)]; exact hmzs
  have k8 : rw_ g2 := by unfold rw_; rw [p3.2.2.2.2.1 46 (by omega)]; exact hmrw
  have k9 : tp g2 := by unfold tp; rw [p3.2.2.2.2.1 23 (by omega)]; rw [p3.2.2.2.2.1 24 (by omega)]; rw [p3.2.2.2.2.1 39 (by omega)]; rw [p3.2.2.2.2.1 44 (by omega)]; exact hmtp
  have k10 : wr g2 := wf_tr2 (show wr h from wf_tr2 hmmm.1.2 hmmm.1.1.symm) (mR_of (congrFun (p3.2.2.2.2.1 39 (by omega)) 3) (p3.2.2.2.2.1 40 (by omega)))
  have o11 : r1.toInt = (opTeach (X.2 (l3 + 1).toInt.toNat) (X.2 (l3 + 2).toInt.toNat) (mC h)).1 ∧ mC g2 = (opTeach (X.2 (l3 + 1).toInt.toNat) (X.2 (l3 + 2).toInt.toNat) (mC h)).2 := p3.2.2.2.2.2
  have e39_9_g2 : (g2 39 9).toInt = (h 39 9).toInt := congrArg (fun f : Nat → Int32 => (f 9).toInt) (p3.2.2.2.2.1 39 (by omega))
  have e39_14_g2 : (g2 39 14).toInt = (h 39 14).toInt := congrArg (fun f : Nat → Int32 => (f 14).toInt) (p3.2.2.2.2.1 39 (by omega))
  have e23_2_g2 : (g2 23 2).toInt = (h 23 2).toInt := congrArg (fun f : Nat → Int32 => (f 2).toInt) (p3.2.2.2.2.1 23 (by omega))
  have e23_4_g2 : (g2 23 4).toInt = (h 23 4).toInt := congrArg (fun f : Nat → Int32 => (f 4).toInt) (p3.2.2.2.2.1 23 (by omega))
  have w22_g2 : g2 22 = h 22 := p3.2.2.2.2.1 22 (by omega)
  have w24_g2 : g2 24 = h 24 := p3.2.2.2.2.1 24 (by omega)
  have w42_g2 : g2 42 = h 42 := p3.2.2.2.2.1 42 (by omega)
  have w44_g2 : g2 44 = h 44 := p3.2.2.2.2.1 44 (by omega)
  have e44_g2 : g2 44 = h 44 := w44_g2
  have e9_g2 : (g2 39 9).toInt = (h 39 9).toInt := e39_9_g2
  show (0 ≤ (l3 + 1).toInt ∧ (l3 + 1).toInt < (X.1 : Int)) ∧ ((0 ≤ (l3 + 2).toInt ∧ (l3 + 2).toInt < (X.1 : Int)) ∧ (qm_PW X 194 [.ref 39, .int (X.2 (l3 + 1).toInt.toNat), .int (X.2 (l3 + 2).toInt.toNat)] g2 _))
  refine ⟨(by have := ti_addK l3 (1 : Int32) 1 rfl; have := ti_addK l3 (2 : Int32) 2 rfl; omega), ?_⟩
  refine ⟨(by have := ti_addK l3 (2 : Int32) 2 rfl; have := ti_addK l3 (1 : Int32) 1 rfl; omega), ?_⟩
  refine ty_194 X g2 (X.2 (l3 + 1).toInt.toNat) (X.2 (l3 + 2).toInt.toNat) ⟨k5, k6, k7, k8⟩ _ (fun r12 g13 p14 => ?_)
  have f15 : ∀ k, (k < 0 ∨ 50 < k) → g13 k = h k := fun k hk => (p14.2.2.2.2.1 k (by omega)).trans (f4 k hk)
  have k16 : mq 1 g13 := by unfold mq; rw [p14.2.2.2.2.1 1 (by omega)]; exact p3.1
  have k17 : mq 8 g13 := by unfold mq; rw [p14.2.2.2.2.1 8 (by omega)]; exact p3.2.1
  have k18 : mq 15 g13 := by unfold mq; rw [p14.2.2.2.2.1 15 (by omega)]; exact p3.2.2.1
  have k19 : sq g13 := by unfold sq; rw [p14.2.2.2.2.1 37 (by omega)]; exact p3.2.2.2.1
  have k20 : tp g13 := by unfold tp; rw [p14.2.2.2.2.1 23 (by omega)]; rw [p14.2.2.2.2.1 24 (by omega)]; rw [p14.2.2.2.2.1 39 (by omega)]; rw [p14.2.2.2.2.1 44 (by omega)]; exact k9
  have o21 : (wfM (mR g2) → r12.toInt = (opTeach (X.2 (l3 + 1).toInt.toNat) (X.2 (l3 + 2).toInt.toNat) (mR g2)).1 ∧ mR g13 = (opTeach (X.2 (l3 + 1).toInt.toNat) (X.2 (l3 + 2).toInt.toNat) (mR g2)).2) ∧ (∀ j : Nat, 49 ≤ j → (g13 40) j = (g2 40) j) := p14.2.2.2.2.2
  have e39_9_g13 : (g13 39 9).toInt = (g2 39 9).toInt := congrArg (fun f : Nat → Int32 => (f 9).toInt) (p14.2.2.2.2.1 39 (by omega))
  have e39_14_g13 : (g13 39 14).toInt = (g2 39 14).toInt := congrArg (fun f : Nat → Int32 => (f 14).toInt) (p14.2.2.2.2.1 39 (by omega))
  have e23_2_g13 : (g13 23 2).toInt = (g2 23 2).toInt := congrArg (fun f : Nat → Int32 => (f 2).toInt) (p14.2.2.2.2.1 23 (by omega))
  have e23_4_g13 : (g13 23 4).toInt = (g2 23 4).toInt := congrArg (fun f : Nat → Int32 => (f 4).toInt) (p14.2.2.2.2.1 23 (by omega))
  have w22_g13 : g13 22 = g2 22 := p14.2.2.2.2.1 22 (by omega)
  have w24_g13 : g13 24 = g2 24 := p14.2.2.2.2.1 24 (by omega)
  have w42_g13 : g13 42 = g2 42 := p14.2.2.2.2.1 42 (by omega)
  have w44_g13 : g13 44 = g2 44 := p14.2.2.2.2.1 44 (by omega)
  show qm_PA X 239 18 [(0, .ref 130), (1, .ref 0), (2, .ref 39), (3, .int (l3 + 5))] [] g13 Q
  exact ih g13 ⟨k16, k17, k18, k19, p14.1, p14.2.1, p14.2.2.1, p14.2.2.2.1, k20, (by exact (mm_op (opTeach (X.2 (l3 + 1).toInt.toNat) (X.2 (l3 + 2).toInt.toNat)) (fun M w => wf_teach w) hmmm o11 o21 (fun i hi => p3.2.2.2.2.1 i (by omega)) (fun i hi => p14.2.2.2.2.1 i (by omega)) (fun i hi => p14.2.2.2.2.1 i (by omega)) (congrFun (p14.2.2.2.2.1 39 (by omega)) 3)).1)⟩
set_option maxRecDepth 100000 in
set_option maxHeartbeats 4000000 in
theorem lw_t557 (X : qm_X) (h : qm_H) (l3 : Int32) (Q : qm_Q) (hX : X.1 ≤ 320) (hi : 0 ≤ l3.toInt ∧ l3.toInt + 5 ≤ X.1) (hp : mq 1 h ∧ mq 8 h ∧ mq 15 h ∧ sq h ∧ mi h ∧ sm h ∧ zs h ∧ rw_ h ∧ tp h ∧ mm h) (ih : ∀ g : qm_H, (mq 1 g ∧ mq 8 g ∧ mq 15 g ∧ sq g ∧ mi g ∧ sm g ∧ zs g ∧ rw_ g ∧ tp g ∧ mm g) → qm_PA X 239 18 [(0, .ref 130), (1, .ref 0), (2, .ref 39), (3, .int (l3 + 5))] [] g Q) : qm_PA X 239 557 [(0, .ref 130), (1, .ref 0), (2, .ref 39), (3, .int l3)] [] h Q := by
  have hm1 : mq 1 h := hp.1
  have hm8 : mq 8 h := hp.2.1
  have hm15 : mq 15 h := hp.2.2.1
  have hmsq : sq h := hp.2.2.2.1
  have hmmi : mi h := hp.2.2.2.2.1
  have hmsm : sm h := hp.2.2.2.2.2.1
  have hmzs : zs h := hp.2.2.2.2.2.2.1
  have hmrw : rw_ h := hp.2.2.2.2.2.2.2.1
  have hmtp : tp h := hp.2.2.2.2.2.2.2.2.1
  have hmmm : mm h := hp.2.2.2.2.2.2.2.2.2
  have hrt0 : (h 23 2).toInt = (h 39 9).toInt := hmtp.1
  have hbt : bt (h 44) (h 39 9).toInt := hmtp.2.2
  have ⟨⟨_, _⟩, ⟨_, _⟩, ⟨_, _⟩, ⟨_, _⟩, _, _⟩ := hmmi
  refine qm_seg_okw (C := qk_557 ++ qk_1278) (rt := some .boolean) qkw_557 rfl (cuts := [(18, [0, 1, 2, 3])]) 1500 _ _ _ _ ?_
  show (0 ≤ (l3 + 1).toInt ∧ (l3 + 1).toInt < (X.1 : Int)) ∧ (qm_PW X 103 [.ref 0, .int (X.2 (l3 + 1).toInt.toNat)] h _)
  refine ⟨(by have := ti_addK l3 (1 : Int32) 1 rfl; omega), ?_⟩
  refine ty_103 X h (X.2 (l3 + 1).toInt.toNat) ⟨hm1, hm8, hm15, hmsq⟩ _ (fun r1 g2 p3 => ?_)
  have f4 : ∀ k, (k < 0 ∨ 50 < k) → g2 k = h k := fun k hk => (p3.2.2.2.2.1 k (by omega)).trans (rfl)
  have k5 : mi g2 := by unfold mi; rw [p3.2.2.2.2.1 39 (by omega)]; exact hmmi
  have k6 : sm g2 := by unfold sm; rw [p3.2.2.2.2.1 40 (by omega)]; exact hmsm
  have k7 : zs g2 := by unfold zs; rw [p3.2.2.2.2.1 49 (by omega)]; exact hmzs
  have k8 : rw_ g2 := by unfold rw_; rw [p3.2.2.2.2.1 46 (by omega)]; exact hmrw
  have k9 : tp g2 := by unfold tp; rw [p3.2.2.2.2.1 23 (by omega)]; rw [p3.2.2.2.2.1 24 (by omega)]; rw [p3.2.2.2.2.1 39 (by omega)]; rw [p3.2.2.2.2.1 44 (by omega)]; exact hmtp
  have k10 : wr g2 := wf_tr2 (show wr h from wf_tr2 hmmm.1.2 hmmm.1.1.symm) (mR_of (congrFun (p3.2.2.2.2.1 39 (by omega)) 3) (p3.2.2.2.2.1 40 (by omega)))
  have o11 : r1.toInt = (opDay (X.2 (l3 + 1).toInt.toNat) (mC h)).1 ∧ mC g2 = (opDay (X.2 (l3 + 1).toInt.toNat) (mC h)).2 := p3.2.2.2.2.2
  have e39_9_g2 : (g2 39 9).toInt = (h 39 9).toInt := congrArg (fun f : Nat → Int32 => (f 9).toInt) (p3.2.2.2.2.1 39 (by omega))
  have e39_14_g2 : (g2 39 14).toInt = (h 39 14).toInt := congrArg (fun f : Nat → Int32 => (f 14).toInt) (p3.2.2.2.2.1 39 (by omega))
  have e23_2_g2 : (g2 23 2).toInt = (h 23 2).toInt := congrArg (fun f : Nat → Int32 => (f 2).toInt) (p3.2.2.2.2.1 23 (by omega))
  have e23_4_g2 : (g2 23 4).toInt = (h 23 4).toInt := congrArg (fun f : Nat → Int32 => (f 4).toInt) (p3.2.2.2.2.1 23 (by omega))
  have w22_g2 : g2 22 = h 22 := p3.2.2.2.2.1 22 (by omega)
  have w24_g2 : g2 24 = h 24 := p3.2.2.2.2.1 24 (by omega)
  have w42_g2 : g2 42 = h 42 := p3.2.2.2.2.1 42 (by omega)
  have w44_g2 : g2 44 = h 44 := p3.2.2.2.2.1 44 (by omega)
  have e44_g2 : g2 44 = h 44 := w44_g2
  have e9_g2 : (g2 39 9).toInt = (h 39 9).toInt := e39_9_g2
  show (0 ≤ (l3 + 1).toInt ∧ (l3 + 1).toInt < (X.1 : Int)) ∧ (qm_PW X 195 [.ref 39, .int (X.2 (l3 + 1).toInt.toNat)] g2 _)
  refine ⟨(by have := ti_addK l3 (1 : Int32) 1 rfl; omega), ?_⟩
  refine ty_195 X g2 (X.2 (l3 + 1).toInt.toNat) ⟨k5, k6, k7, k8⟩ _ (fun r12 g13 p14 => ?_)
  have f15 : ∀ k, (k < 0 ∨ 50 < k) → g13 k = h k := fun k hk => (p14.2.2.2.2.1 k (by omega)).trans (f4 k hk)
  have k16 : mq 1 g13 := by unfold mq; rw [p14.2.2.2.2.1 1 (by omega)]; exact p3.1
  have k17 : mq 8 g13 := by unfold mq; rw [p14.2.2.2.2.1 8 (by omega)]; exact p3.2.1
  have k18 : mq 15 g13 := by unfold mq; rw [p14.2.2.2.2.1 15 (by omega)]; exact p3.2.2.1
  have k19 : sq g13 := by unfold sq; rw [p14.2.2.2.2.1 37 (by omega)]; exact p3.2.2.2.1
  have k20 : tp g13 := by unfold tp; rw [p14.2.2.2.2.1 23 (by omega)]; rw [p14.2.2.2.2.1 24 (by omega)]; rw [p14.2.2.2.2.1 39 (by omega)]; rw [p14.2.2.2.2.1 44 (by omega)]; exact k9
  have o21 : (wfM (mR g2) → r12.toInt = (opDay (X.2 (l3 + 1).toInt.toNat) (mR g2)).1 ∧ mR g13 = (opDay (X.2 (l3 + 1).toInt.toNat) (mR g2)).2) ∧ (∀ j : Nat, 49 ≤ j → (g13 40) j = (g2 40) j) := p14.2.2.2.2.2
  have e39_9_g13 : (g13 39 9).toInt = (g2 39 9).toInt := congrArg (fun f : Nat → Int32 => (f 9).toInt) (p14.2.2.2.2.1 39 (by omega))
  have e39_14_g13 : (g13 39 14).toInt = (g2 39 14).toInt := congrArg (fun f : Nat → Int32 => (f 14).toInt) (p14.2.2.2.2.1 39 (by omega))
  have e23_2_g13 : (g13 23 2).toInt = (g2 23 2).toInt := congrArg (fun f : Nat → Int32 => (f 2).toInt) (p14.2.2.2.2.1 23 (by omega))
  have e23_4_g13 : (g13 23 4).toInt = (g2 23 4).toInt := congrArg (fun f : Nat → Int32 => (f 4).toInt) (p14.2.2.2.2.1 23 (by omega))
  have w22_g13 : g13 22 = g2 22 := p14.2.2.2.2.1 22 (by omega)
  have w24_g13 : g13 24 = g2 24 := p14.2.2.2.2.1 24 (by omega)
  have w42_g13 : g13 42 = g2 42 := p14.2.2.2.2.1 42 (by omega)
  have w44_g13 : g13 44 = g2 44 := p14.2.2.2.2.1 44 (by omega)
  show qm_PA X 239 18 [(0, .ref 130), (1, .ref 0), (2, .ref 39), (3, .int (l3 + 5))] [] g13 Q
  exact ih g13 ⟨k16, k17, k18, k19, p14.1, p14.2.1, p14.2.2.1, p14.2.2.2.1, k20, (by exact (mm_op (opDay (X.2 (l3 + 1).toInt.toNat)) (fun M w => wf_day w) hmmm o11 o21 (fun i hi => p3.2.2.2.2.1 i (by omega)) (fun i hi => p14.2.2.2.2.1 i (by omega)) (fun i hi => p14.2.2.2.2.1 i (by omega)) (congrFun (p14.2.2.2.2.1 39 (by omega)) 3)).1)⟩
set_option maxRecDepth 100000 in
set_option maxHeartbeats 4000000 in
theorem lw_t580 (X : qm_X) (h : qm_H) (l3 : Int32) (Q : qm_Q) (hX : X.1 ≤ 320) (hi : 0 ≤ l3.toInt ∧ l3.toInt + 5 ≤ X.1) (hp : mq 1 h ∧ mq 8 h ∧ mq 15 h ∧ sq h ∧ mi h ∧ sm h ∧ zs h ∧ rw_ h ∧ tp h ∧ mm h) (ih : ∀ g : qm_H, (mq 1 g ∧ mq 8 g ∧ mq 15 g ∧ sq g ∧ mi g ∧ sm g ∧ zs g ∧ rw_ g ∧ tp g ∧ mm g) → qm_PA X 239 18 [(0, .ref 130), (1, .ref 0), (2, .ref 39), (3, .int (l3 + 5))] [] g Q) : qm_PA X 239 580 [(0, .ref 130), (1, .ref 0), (2, .ref 39), (3, .int l3)] [] h Q := by
  have hm1 : mq 1 h := hp.1
  have hm8 : mq 8 h := hp.2.1
  have hm15 : mq 15 h := hp.2.2.1
  have hmsq : sq h := hp.2.2.2.1
  have hmmi : mi h := hp.2.2.2.2.1
  have hmsm : sm h := hp.2.2.2.2.2.1
  have hmzs : zs h := hp.2.2.2.2.2.2.1
  have hmrw : rw_ h := hp.2.2.2.2.2.2.2.1
  have hmtp : tp h := hp.2.2.2.2.2.2.2.2.1
  have hmmm : mm h := hp.2.2.2.2.2.2.2.2.2
  refine qm_seg_okw (C := qk_580 ++ qk_1278) (rt := some .boolean) qkw_580 rfl (cuts := [(18, [0, 1, 2, 3])]) 1500 _ _ _ _ ?_
  show (0 ≤ (l3 + 1).toInt ∧ (l3 + 1).toInt < (X.1 : Int)) ∧ ((0 ≤ (l3 + 2).toInt ∧ (l3 + 2).toInt < (X.1 : Int)) ∧ (qm_PW X 104 [.ref 0, .int (X.2 (l3 + 1).toInt.toNat), .int (X.2 (l3 + 2).toInt.toNat)] h _))
  refine ⟨(by have := ti_addK l3 (1 : Int32) 1 rfl; omega), ?_⟩
  refine ⟨(by have := ti_addK l3 (2 : Int32) 2 rfl; omega), ?_⟩
  refine sf_104_0 X h (X.2 (l3 + 1).toInt.toNat) (X.2 (l3 + 2).toInt.toNat) hm1 _ (fun r1 p2 => ?_)
  show (0 ≤ (l3 + 1).toInt ∧ (l3 + 1).toInt < (X.1 : Int)) ∧ ((0 ≤ (l3 + 2).toInt ∧ (l3 + 2).toInt < (X.1 : Int)) ∧ (qm_PW X 196 [.ref 39, .int (X.2 (l3 + 1).toInt.toNat), .int (X.2 (l3 + 2).toInt.toNat)] h _))
  refine ⟨(by have := ti_addK l3 (1 : Int32) 1 rfl; omega), ?_⟩
  refine ⟨(by have := ti_addK l3 (2 : Int32) 2 rfl; omega), ?_⟩
  refine sf_196_39 X h (X.2 (l3 + 1).toInt.toNat) (X.2 (l3 + 2).toInt.toNat) ⟨hmmi, hmsm, hmzs, hmrw⟩ _ (fun r3 g4 p5 => ?_)
  have f6 : ∀ k, (k < 0 ∨ 50 < k) → g4 k = h k := fun k hk => (p5.2.2.2.2 k (by omega)).trans (rfl)
  have k7 : mq 1 g4 := by unfold mq; rw [p5.2.2.2.2 1 (by omega)]; exact hm1
  have k8 : mq 8 g4 := by unfold mq; rw [p5.2.2.2.2 8 (by omega)]; exact hm8
  have k9 : mq 15 g4 := by unfold mq; rw [p5.2.2.2.2 15 (by omega)]; exact hm15
  have k10 : sq g4 := by unfold sq; rw [p5.2.2.2.2 37 (by omega)]; exact hmsq
  have k11 : tp g4 := by unfold tp; rw [p5.2.2.2.2 23 (by omega)]; rw [p5.2.2.2.2 24 (by omega)]; rw [p5.2.2.2.2 39 (by omega)]; rw [p5.2.2.2.2 44 (by omega)]; exact hmtp
  have k12 : mm g4 := mm_keep hmmm (fun k h1 h2 => p5.2.2.2.2 k (by omega)) (fun k h1 h2 => p5.2.2.2.2 k (by omega)) (congrFun (p5.2.2.2.2 39 (by omega)) 3) (p5.2.2.2.2 40 (by omega)) (p5.2.2.2.2 42 (by omega)) (fun k h1 h2 => p5.2.2.2.2 k (by omega))
  have k13 : wc g4 := wf_tr2 (show wc h from hmmm.1.2) (mC_of (fun k h1 h2 => p5.2.2.2.2 k (by omega)))
  have k14 : wr g4 := wf_tr2 (show wr h from wf_tr2 hmmm.1.2 hmmm.1.1.symm) (mR_of (congrFun (p5.2.2.2.2 39 (by omega)) 3) (p5.2.2.2.2 40 (by omega)))
  have e39_9_g4 : (g4 39 9).toInt = (h 39 9).toInt := congrArg (fun f : Nat → Int32 => (f 9).toInt) (p5.2.2.2.2 39 (by omega))
  have e39_14_g4 : (g4 39 14).toInt = (h 39 14).toInt := congrArg (fun f : Nat → Int32 => (f 14).toInt) (p5.2.2.2.2 39 (by omega))
  have e23_2_g4 : (g4 23 2).toInt = (h 23 2).toInt := congrArg (fun f : Nat → Int32 => (f 2).toInt) (p5.2.2.2.2 23 (by omega))
  have e23_4_g4 : (g4 23 4).toInt = (h 23 4).toInt := congrArg (fun f : Nat → Int32 => (f 4).toInt) (p5.2.2.2.2 23 (by omega))
  have w22_g4 : g4 22 = h 22 := p5.2.2.2.2 22 (by omega)
  have w24_g4 : g4 24 = h 24 := p5.2.2.2.2 24 (by omega)
  have w42_g4 : g4 42 = h 42 := p5.2.2.2.2 42 (by omega)
  have w44_g4 : g4 44 = h 44 := p5.2.2.2.2 44 (by omega)
  show qm_PA X 239 18 [(0, .ref 130), (1, .ref 0), (2, .ref 39), (3, .int (l3 + 5))] [] g4 Q
  exact ih g4 ⟨k7, k8, k9, k10, p5.1, p5.2.1, p5.2.2.1, p5.2.2.2.1, k11, k12⟩
set_option maxRecDepth 100000 in
set_option maxHeartbeats 4000000 in
theorem lw_t613 (X : qm_X) (h : qm_H) (l3 : Int32) (Q : qm_Q) (hX : X.1 ≤ 320) (hi : 0 ≤ l3.toInt ∧ l3.toInt + 5 ≤ X.1) (hp : mq 1 h ∧ mq 8 h ∧ mq 15 h ∧ sq h ∧ mi h ∧ sm h ∧ zs h ∧ rw_ h ∧ tp h ∧ mm h) (ih : ∀ g : qm_H, (mq 1 g ∧ mq 8 g ∧ mq 15 g ∧ sq g ∧ mi g ∧ sm g ∧ zs g ∧ rw_ g ∧ tp g ∧ mm g) → qm_PA X 239 18 [(0, .ref 130), (1, .ref 0), (2, .ref 39), (3, .int (l3 + 5))] [] g Q) : qm_PA X 239 613 [(0, .ref 130), (1, .ref 0), (2, .ref 39), (3, .int l3)] [] h Q := by
  have hm1 : mq 1 h := hp.1
  have hm8 : mq 8 h := hp.2.1
  have hm15 : mq 15 h := hp.2.2.1
  have hmsq : sq h := hp.2.2.2.1
  have hmmi : mi h := hp.2.2.2.2.1
  have hmsm : sm h := hp.2.2.2.2.2.1
  have hmzs : zs h := hp.2.2.2.2.2.2.1
  have hmrw : rw_ h := hp.2.2.2.2.2.2.2.1
  have hmtp : tp h := hp.2.2.2.2.2.2.2.2.1
  have hmmm : mm h := hp.2.2.2.2.2.2.2.2.2
  refine qm_seg_okw (C := qk_613 ++ qk_1278) (rt := some .boolean) qkw_613 rfl (cuts := [(18, [0, 1, 2, 3])]) 1500 _ _ _ _ ?_
  show (0 ≤ (l3 + 1).toInt ∧ (l3 + 1).toInt < (X.1 : Int)) ∧ (qm_PW X 105 [.ref 0, .int (X.2 (l3 + 1).toInt.toNat)] h _)
  refine ⟨(by have := ti_addK l3 (1 : Int32) 1 rfl; omega), ?_⟩
  refine sf_105_0 X h (X.2 (l3 + 1).toInt.toNat) hm1 _ (fun r1 p2 => ?_)
  show (0 ≤ (l3 + 1).toInt ∧ (l3 + 1).toInt < (X.1 : Int)) ∧ (qm_PW X 197 [.ref 39, .int (X.2 (l3 + 1).toInt.toNat)] h _)
  refine ⟨(by have := ti_addK l3 (1 : Int32) 1 rfl; omega), ?_⟩
  refine sf_197_39 X h (X.2 (l3 + 1).toInt.toNat) ⟨hmmi, hmsm, hmzs, hmrw⟩ _ (fun r3 g4 p5 => ?_)
  have f6 : ∀ k, (k < 0 ∨ 50 < k) → g4 k = h k := fun k hk => (p5.2.2.2.2 k (by omega)).trans (rfl)
  have k7 : mq 1 g4 := by unfold mq; rw [p5.2.2.2.2 1 (by omega)]; exact hm1
  have k8 : mq 8 g4 := by unfold mq; rw [p5.2.2.2.2 8 (by omega)]; exact hm8
  have k9 : mq 15 g4 := by unfold mq; rw [p5.2.2.2.2 15 (by omega)]; exact hm15
  have k10 : sq g4 := by unfold sq; rw [p5.2.2.2.2 37 (by omega)]; exact hmsq
  have k11 : tp g4 := by unfold tp; rw [p5.2.2.2.2 23 (by omega)]; rw [p5.2.2.2.2 24 (by omega)]; rw [p5.2.2.2.2 39 (by omega)]; rw [p5.2.2.2.2 44 (by omega)]; exact hmtp
  have k12 : mm g4 := mm_keep hmmm (fun k h1 h2 => p5.2.2.2.2 k (by omega)) (fun k h1 h2 => p5.2.2.2.2 k (by omega)) (congrFun (p5.2.2.2.2 39 (by omega)) 3) (p5.2.2.2.2 40 (by omega)) (p5.2.2.2.2 42 (by omega)) (fun k h1 h2 => p5.2.2.2.2 k (by omega))
  have k13 : wc g4 := wf_tr2 (show wc h from hmmm.1.2) (mC_of (fun k h1 h2 => p5.2.2.2.2 k (by omega)))
  have k14 : wr g4 := wf_tr2 (show wr h from wf_tr2 hmmm.1.2 hmmm.1.1.symm) (mR_of (congrFun (p5.2.2.2.2 39 (by omega)) 3) (p5.2.2.2.2 40 (by omega)))
  have e39_9_g4 : (g4 39 9).toInt = (h 39 9).toInt := congrArg (fun f : Nat → Int32 => (f 9).toInt) (p5.2.2.2.2 39 (by omega))
  have e39_14_g4 : (g4 39 14).toInt = (h 39 14).toInt := congrArg (fun f : Nat → Int32 => (f 14).toInt) (p5.2.2.2.2 39 (by omega))
  have e23_2_g4 : (g4 23 2).toInt = (h 23 2).toInt := congrArg (fun f : Nat → Int32 => (f 2).toInt) (p5.2.2.2.2 23 (by omega))
  have e23_4_g4 : (g4 23 4).toInt = (h 23 4).toInt := congrArg (fun f : Nat → Int32 => (f 4).toInt) (p5.2.2.2.2 23 (by omega))
  have w22_g4 : g4 22 = h 22 := p5.2.2.2.2 22 (by omega)
  have w24_g4 : g4 24 = h 24 := p5.2.2.2.2 24 (by omega)
  have w42_g4 : g4 42 = h 42 := p5.2.2.2.2 42 (by omega)
  have w44_g4 : g4 44 = h 44 := p5.2.2.2.2 44 (by omega)
  show qm_PA X 239 18 [(0, .ref 130), (1, .ref 0), (2, .ref 39), (3, .int (l3 + 5))] [] g4 Q
  exact ih g4 ⟨k7, k8, k9, k10, p5.1, p5.2.1, p5.2.2.1, p5.2.2.2.1, k11, k12⟩
set_option maxRecDepth 100000 in
set_option maxHeartbeats 4000000 in
theorem lw_t636 (X : qm_X) (h : qm_H) (l3 : Int32) (Q : qm_Q) (hX : X.1 ≤ 320) (hi : 0 ≤ l3.toInt ∧ l3.toInt + 5 ≤ X.1) (hp : mq 1 h ∧ mq 8 h ∧ mq 15 h ∧ sq h ∧ mi h ∧ sm h ∧ zs h ∧ rw_ h ∧ tp h ∧ mm h) (ih : ∀ g : qm_H, (mq 1 g ∧ mq 8 g ∧ mq 15 g ∧ sq g ∧ mi g ∧ sm g ∧ zs g ∧ rw_ g ∧ tp g ∧ mm g) → qm_PA X 239 18 [(0, .ref 130), (1, .ref 0), (2, .ref 39), (3, .int (l3 + 5))] [] g Q) : qm_PA X 239 636 [(0, .ref 130), (1, .ref 0), (2, .ref 39), (3, .int l3)] [] h Q := by
  have hm1 : mq 1 h := hp.1
  have hm8 : mq 8 h := hp.2.1
  have hm15 : mq 15 h := hp.2.2.1
  have hmsq : sq h := hp.2.2.2.1
  have hmmi : mi h := hp.2.2.2.2.1
  have hmsm : sm h := hp.2.2.2.2.2.1
  have hmzs : zs h := hp.2.2.2.2.2.2.1
  have hmrw : rw_ h := hp.2.2.2.2.2.2.2.1
  have hmtp : tp h := hp.2.2.2.2.2.2.2.2.1
  have hmmm : mm h := hp.2.2.2.2.2.2.2.2.2
  have hrt0 : (h 23 2).toInt = (h 39 9).toInt := hmtp.1
  have hbt : bt (h 44) (h 39 9).toInt := hmtp.2.2
  have ⟨⟨_, _⟩, ⟨_, _⟩, ⟨_, _⟩, ⟨_, _⟩, _, _⟩ := hmmi
  refine qm_seg_okw (C := qk_636 ++ qk_1278) (rt := some .boolean) qkw_636 rfl (cuts := [(18, [0, 1, 2, 3])]) 1500 _ _ _ _ ?_
  show (0 ≤ (l3 + 1).toInt ∧ (l3 + 1).toInt < (X.1 : Int)) ∧ (qm_PW X 106 [.ref 0, .int (X.2 (l3 + 1).toInt.toNat)] h _)
  refine ⟨(by have := ti_addK l3 (1 : Int32) 1 rfl; omega), ?_⟩
  refine sf_106_0 X h (X.2 (l3 + 1).toInt.toNat) ⟨hm1, hm8, hm15, hmsq⟩ _ (fun r1 g2 p3 => ?_)
  have f4 : ∀ k, (k < 0 ∨ 50 < k) → g2 k = h k := fun k hk => (p3.2.2.2.2 k (by omega)).trans (rfl)
  have k5 : mi g2 := by unfold mi; rw [p3.2.2.2.2 39 (by omega)]; exact hmmi
  have k6 : sm g2 := by unfold sm; rw [p3.2.2.2.2 40 (by omega)]; exact hmsm
  have k7 : zs g2 := by unfold zs; rw [p3.2.2.2.2 49 (by omega)]; exact hmzs
  have k8 : rw_ g2 := by unfold rw_; rw [p3.2.2.2.2 46 (by omega)]; exact hmrw
  have k9 : tp g2 := by unfold tp; rw [p3.2.2.2.2 23 (by omega)]; rw [p3.2.2.2.2 24 (by omega)]; rw [p3.2.2.2.2 39 (by omega)]; rw [p3.2.2.2.2 44 (by omega)]; exact hmtp
  have k10 : mm g2 := mm_keep hmmm (fun k h1 h2 => p3.2.2.2.2 k (by omega)) (fun k h1 h2 => p3.2.2.2.2 k (by omega)) (congrFun (p3.2.2.2.2 39 (by omega)) 3) (p3.2.2.2.2 40 (by omega)) (p3.2.2.2.2 42 (by omega)) (fun k h1 h2 => p3.2.2.2.2 k (by omega))
  have k11 : wc g2 := wf_tr2 (show wc h from hmmm.1.2) (mC_of (fun k h1 h2 => p3.2.2.2.2 k (by omega)))
  have k12 : wr g2 := wf_tr2 (show wr h from wf_tr2 hmmm.1.2 hmmm.1.1.symm) (mR_of (congrFun (p3.2.2.2.2 39 (by omega)) 3) (p3.2.2.2.2 40 (by omega)))
  have e39_9_g2 : (g2 39 9).toInt = (h 39 9).toInt := congrArg (fun f : Nat → Int32 => (f 9).toInt) (p3.2.2.2.2 39 (by omega))
  have e39_14_g2 : (g2 39 14).toInt = (h 39 14).toInt := congrArg (fun f : Nat → Int32 => (f 14).toInt) (p3.2.2.2.2 39 (by omega))
  have e23_2_g2 : (g2 23 2).toInt = (h 23 2).toInt := congrArg (fun f : Nat → Int32 => (f 2).toInt) (p3.2.2.2.2 23 (by omega))
  have e23_4_g2 : (g2 23 4).toInt = (h 23 4).toInt := congrArg (fun f : Nat → Int32 => (f 4).toInt) (p3.2.2.2.2 23 (by omega))
  have w22_g2 : g2 22 = h 22 := p3.2.2.2.2 22 (by omega)
  have w24_g2 : g2 24 = h 24 := p3.2.2.2.2 24 (by omega)
  have w42_g2 : g2 42 = h 42 := p3.2.2.2.2 42 (by omega)
  have w44_g2 : g2 44 = h 44 := p3.2.2.2.2 44 (by omega)
  have e44_g2 : g2 44 = h 44 := w44_g2
  have e9_g2 : (g2 39 9).toInt = (h 39 9).toInt := e39_9_g2
  show (0 ≤ (l3 + 1).toInt ∧ (l3 + 1).toInt < (X.1 : Int)) ∧ (qm_PW X 203 [.ref 39, .int (X.2 (l3 + 1).toInt.toNat)] g2 _)
  refine ⟨(by have := ti_addK l3 (1 : Int32) 1 rfl; omega), ?_⟩
  refine sf_203_39 X g2 (X.2 (l3 + 1).toInt.toNat) ⟨k5, k6, k7, k8⟩ _ (fun r13 g14 p15 => ?_)
  have f16 : ∀ k, (k < 0 ∨ 50 < k) → g14 k = h k := fun k hk => (p15.2.2.2.2.2.1 k (by omega)).trans (f4 k hk)
  have k17 : mq 1 g14 := by unfold mq; rw [p15.2.2.2.2.2.1 1 (by omega)]; exact p3.1
  have k18 : mq 8 g14 := by unfold mq; rw [p15.2.2.2.2.2.1 8 (by omega)]; exact p3.2.1
  have k19 : mq 15 g14 := by unfold mq; rw [p15.2.2.2.2.2.1 15 (by omega)]; exact p3.2.2.1
  have k20 : sq g14 := by unfold sq; rw [p15.2.2.2.2.2.1 37 (by omega)]; exact p3.2.2.2.1
  have k21 : wc g14 := wf_tr2 k11 (mC_of (fun k h1 h2 => p15.2.2.2.2.2.1 k (by omega)))
  have o22 : ((g14 39 9).toInt = (g2 39 9).toInt ∧ (g14 39 14).toInt = (g2 39 14).toInt) := p15.2.2.2.2.2.2
  have e23_2_g14 : (g14 23 2).toInt = (g2 23 2).toInt := congrArg (fun f : Nat → Int32 => (f 2).toInt) (p15.2.2.2.2.2.1 23 (by omega))
  have e23_4_g14 : (g14 23 4).toInt = (g2 23 4).toInt := congrArg (fun f : Nat → Int32 => (f 4).toInt) (p15.2.2.2.2.2.1 23 (by omega))
  have w22_g14 : g14 22 = g2 22 := p15.2.2.2.2.2.1 22 (by omega)
  have w24_g14 : g14 24 = g2 24 := p15.2.2.2.2.2.1 24 (by omega)
  have w42_g14 : g14 42 = g2 42 := p15.2.2.2.2.2.1 42 (by omega)
  have w44_g14 : g14 44 = g2 44 := p15.2.2.2.2.2.1 44 (by omega)
  have s3_g14 : g14 39 3 = g2 39 3 := p15.2.2.2.2.1
  show qm_PA X 239 18 [(0, .ref 130), (1, .ref 0), (2, .ref 39), (3, .int (l3 + 5))] [] g14 Q
  exact ih g14 ⟨k17, k18, k19, k20, p15.1, p15.2.1, p15.2.2.1, p15.2.2.2.1, (by exact tp_keep hmtp (by omega) (by omega) (w24_g14.trans w24_g2) (w44_g14.trans w44_g2)), (by exact (mm_keep (mm_keep hmmm (fun k h1 h2 => p3.2.2.2.2 k (by omega)) (fun k h1 h2 => p3.2.2.2.2 k (by omega)) (congrFun (p3.2.2.2.2 39 (by omega)) 3) (p3.2.2.2.2 40 (by omega)) (p3.2.2.2.2 42 (by omega)) (fun k h1 h2 => p3.2.2.2.2 k (by omega))) (fun k h1 h2 => p15.2.2.2.2.2.1 k (by omega)) (fun k h1 h2 => p15.2.2.2.2.2.1 k (by omega)) s3_g14 (p15.2.2.2.2.2.1 40 (by omega)) (p15.2.2.2.2.2.1 42 (by omega)) (fun k h1 h2 => p15.2.2.2.2.2.1 k (by omega))))⟩
set_option maxRecDepth 100000 in
set_option maxHeartbeats 4000000 in
theorem lw_t659 (X : qm_X) (h : qm_H) (l3 : Int32) (Q : qm_Q) (hX : X.1 ≤ 320) (hi : 0 ≤ l3.toInt ∧ l3.toInt + 5 ≤ X.1) (hp : mq 1 h ∧ mq 8 h ∧ mq 15 h ∧ sq h ∧ mi h ∧ sm h ∧ zs h ∧ rw_ h ∧ tp h ∧ mm h) (ih : ∀ g : qm_H, (mq 1 g ∧ mq 8 g ∧ mq 15 g ∧ sq g ∧ mi g ∧ sm g ∧ zs g ∧ rw_ g ∧ tp g ∧ mm g) → qm_PA X 239 18 [(0, .ref 130), (1, .ref 0), (2, .ref 39), (3, .int (l3 + 5))] [] g Q) : qm_PA X 239 659 [(0, .ref 130), (1, .ref 0), (2, .ref 39), (3, .int l3)] [] h Q := by
  have hm1 : mq 1 h := hp.1
  have hm8 : mq 8 h := hp.2.1
  have hm15 : mq 15 h := hp.2.2.1
  have hmsq : sq h := hp.2.2.2.1
  have hmmi : mi h := hp.2.2.2.2.1
  have hmsm : sm h := hp.2.2.2.2.2.1
  have hmzs : zs h := hp.2.2.2.2.2.2.1
  have hmrw : rw_ h := hp.2.2.2.2.2.2.2.1
  have hmtp : tp h := hp.2.2.2.2.2.2.2.2.1
  have hmmm : mm h := hp.2.2.2.2.2.2.2.2.2
  have hrt0 : (h 23 2).toInt = (h 39 9).toInt := hmtp.1
  have hbt : bt (h 44) (h 39 9).toInt := hmtp.2.2
  have ⟨⟨_, _⟩, ⟨_, _⟩, ⟨_, _⟩, ⟨_, _⟩, _, _⟩ := hmmi
  refine qm_seg_okw (C := qk_659 ++ qk_1278) (rt := some .boolean) qkw_659 rfl (cuts := [(18, [0, 1, 2, 3])]) 1500 _ _ _ _ ?_
  show (0 ≤ (l3 + 1).toInt ∧ (l3 + 1).toInt < (X.1 : Int)) ∧ (qm_PW X 107 [.ref 0, .int (X.2 (l3 + 1).toInt.toNat)] h _)
  refine ⟨(by have := ti_addK l3 (1 : Int32) 1 rfl; omega), ?_⟩
  refine sf_107_0 X h (X.2 (l3 + 1).toInt.toNat) ⟨hm1, hm8, hm15, hmsq⟩ _ (fun r1 g2 p3 => ?_)
  have f4 : ∀ k, (k < 0 ∨ 50 < k) → g2 k = h k := fun k hk => (p3.2.2.2.2 k (by omega)).trans (rfl)
  have k5 : mi g2 := by unfold mi; rw [p3.2.2.2.2 39 (by omega)]; exact hmmi
  have k6 : sm g2 := by unfold sm; rw [p3.2.2.2.2 40 (by omega)]; exact hmsm
  have k7 : zs g2 := by unfold zs; rw [p3.2.2.2.2 49 (by omega)]; exact hmzs
  have k8 : rw_ g2 := by unfold rw_; rw [p3.2.2.2.2 46 (by omega)]; exact hmrw
  have k9 : tp g2 := by unfold tp; rw [p3.2.2.2.2 23 (by omega)]; rw [p3.2.2.2.2 24 (by omega)]; rw [p3.2.2.2.2 39 (by omega)]; rw [p3.2.2.2.2 44 (by omega)]; exact hmtp
  have k10 : mm g2 := mm_keep hmmm (fun k h1 h2 => p3.2.2.2.2 k (by omega)) (fun k h1 h2 => p3.2.2.2.2 k (by omega)) (congrFun (p3.2.2.2.2 39 (by omega)) 3) (p3.2.2.2.2 40 (by omega)) (p3.2.2.2.2 42 (by omega)) (fun k h1 h2 => p3.2.2.2.2 k (by omega))
  have k11 : wc g2 := wf_tr2 (show wc h from hmmm.1.2) (mC_of (fun k h1 h2 => p3.2.2.2.2 k (by omega)))
  have k12 : wr g2 := wf_tr2 (show wr h from wf_tr2 hmmm.1.2 hmmm.1.1.symm) (mR_of (congrFun (p3.2.2.2.2 39 (by omega)) 3) (p3.2.2.2.2 40 (by omega)))
  have e39_9_g2 : (g2 39 9).toInt = (h 39 9).toInt := congrArg (fun f : Nat → Int32 => (f 9).toInt) (p3.2.2.2.2 39 (by omega))
  have e39_14_g2 : (g2 39 14).toInt = (h 39 14).toInt := congrArg (fun f : Nat → Int32 => (f 14).toInt) (p3.2.2.2.2 39 (by omega))
  have e23_2_g2 : (g2 23 2).toInt = (h 23 2).toInt := congrArg (fun f : Nat → Int32 => (f 2).toInt) (p3.2.2.2.2 23 (by omega))
  have e23_4_g2 : (g2 23 4).toInt = (h 23 4).toInt := congrArg (fun f : Nat → Int32 => (f 4).toInt) (p3.2.2.2.2 23 (by omega))
  have w22_g2 : g2 22 = h 22 := p3.2.2.2.2 22 (by omega)
  have w24_g2 : g2 24 = h 24 := p3.2.2.2.2 24 (by omega)
  have w42_g2 : g2 42 = h 42 := p3.2.2.2.2 42 (by omega)
  have w44_g2 : g2 44 = h 44 := p3.2.2.2.2 44 (by omega)
  have e44_g2 : g2 44 = h 44 := w44_g2
  have e9_g2 : (g2 39 9).toInt = (h 39 9).toInt := e39_9_g2
  show (0 ≤ (l3 + 1).toInt ∧ (l3 + 1).toInt < (X.1 : Int)) ∧ (qm_PW X 205 [.ref 39, .int (X.2 (l3 + 1).toInt.toNat)] g2 _)
  refine ⟨(by have := ti_addK l3 (1 : Int32) 1 rfl; omega), ?_⟩
  refine sf_205_39 X g2 (X.2 (l3 + 1).toInt.toNat) ⟨k5, k6, k7, k8⟩ _ (fun r13 g14 p15 => ?_)
  have f16 : ∀ k, (k < 0 ∨ 50 < k) → g14 k = h k := fun k hk => (p15.2.2.2.2.2.1 k (by omega)).trans (f4 k hk)
  have k17 : mq 1 g14 := by unfold mq; rw [p15.2.2.2.2.2.1 1 (by omega)]; exact p3.1
  have k18 : mq 8 g14 := by unfold mq; rw [p15.2.2.2.2.2.1 8 (by omega)]; exact p3.2.1
  have k19 : mq 15 g14 := by unfold mq; rw [p15.2.2.2.2.2.1 15 (by omega)]; exact p3.2.2.1
  have k20 : sq g14 := by unfold sq; rw [p15.2.2.2.2.2.1 37 (by omega)]; exact p3.2.2.2.1
  have k21 : wc g14 := wf_tr2 k11 (mC_of (fun k h1 h2 => p15.2.2.2.2.2.1 k (by omega)))
  have o22 : ((g14 39 9).toInt = (g2 39 9).toInt ∧ (g14 39 14).toInt = (g2 39 14).toInt) := p15.2.2.2.2.2.2
  have e23_2_g14 : (g14 23 2).toInt = (g2 23 2).toInt := congrArg (fun f : Nat → Int32 => (f 2).toInt) (p15.2.2.2.2.2.1 23 (by omega))
  have e23_4_g14 : (g14 23 4).toInt = (g2 23 4).toInt := congrArg (fun f : Nat → Int32 => (f 4).toInt) (p15.2.2.2.2.2.1 23 (by omega))
  have w22_g14 : g14 22 = g2 22 := p15.2.2.2.2.2.1 22 (by omega)
  have w24_g14 : g14 24 = g2 24 := p15.2.2.2.2.2.1 24 (by omega)
  have w42_g14 : g14 42 = g2 42 := p15.2.2.2.2.2.1 42 (by omega)
  have w44_g14 : g14 44 = g2 44 := p15.2.2.2.2.2.1 44 (by omega)
  have s3_g14 : g14 39 3 = g2 39 3 := p15.2.2.2.2.1
  show qm_PA X 239 18 [(0, .ref 130), (1, .ref 0), (2, .ref 39), (3, .int (l3 + 5))] [] g14 Q
  exact ih g14 ⟨k17, k18, k19, k20, p15.1, p15.2.1, p15.2.2.1, p15.2.2.2.1, (by exact tp_keep hmtp (by omega) (by omega) (w24_g14.trans w24_g2) (w44_g14.trans w44_g2)), (by exact (mm_keep (mm_keep hmmm (fun k h1 h2 => p3.2.2.2.2 k (by omega)) (fun k h1 h2 => p3.2.2.2.2 k (by omega)) (congrFun (p3.2.2.2.2 39 (by omega)) 3) (p3.2.2.2.2 40 (by omega)) (p3.2.2.2.2 42 (by omega)) (fun k h1 h2 => p3.2.2.2.2 k (by omega))) (fun k h1 h2 => p15.2.2.2.2.2.1 k (by omega)) (fun k h1 h2 => p15.2.2.2.2.2.1 k (by omega)) s3_g14 (p15.2.2.2.2.2.1 40 (by omega)) (p15.2.2.2.2.2.1 42 (by omega)) (fun k h1 h2 => p15.2.2.2.2.2.1 k (by omega))))⟩
set_option maxRecDepth 100000 in
set_option maxHeartbeats 4000000 in
theorem lw_t682 (X : qm_X) (h : qm_H) (l3 : Int32) (Q : qm_Q) (hX : X.1 ≤ 320) (hi : 0 ≤ l3.toInt ∧ l3.toInt + 5 ≤ X.1) (hp : mq 1 h ∧ mq 8 h ∧ mq 15 h ∧ sq h ∧ mi h ∧ sm h ∧ zs h ∧ rw_ h ∧ tp h ∧ mm h) (ih : ∀ g : qm_H, (mq 1 g ∧ mq 8 g ∧ mq 15 g ∧ sq g ∧ mi g ∧ sm g ∧ zs g ∧ rw_ g ∧ tp g ∧ mm g) → qm_PA X 239 18 [(0, .ref 130), (1, .ref 0), (2, .ref 39), (3, .int (l3 + 5))] [] g Q) : qm_PA X 239 682 [(0, .ref 130), (1, .ref 0), (2, .ref 39), (3, .int l3)] [] h Q := by
  have hm1 : mq 1 h := hp.1
  have hm8 : mq 8 h := hp.2.1
  have hm15 : mq 15 h := hp.2.2.1
  have hmsq : sq h := hp.2.2.2.1
  have hmmi : mi h := hp.2.2.2.2.1
  have hmsm : sm h := hp.2.2.2.2.2.1
  have hmzs : zs h := hp.2.2.2.2.2.2.1
  have hmrw : rw_ h := hp.2.2.2.2.2.2.2.1
  have hmtp : tp h := hp.2.2.2.2.2.2.2.2.1
  have hmmm : mm h := hp.2.2.2.2.2.2.2.2.2
  have hrt0 : (h 23 2).toInt = (h 39 9).toInt := hmtp.1
  have hbt : bt (h 44) (h 39 9).toInt := hmtp.2.2
  have ⟨⟨_, _⟩, ⟨_, _⟩, ⟨_, _⟩, ⟨_, _⟩, _, _⟩ := hmmi
  refine qm_seg_okw (C := qk_682 ++ qk_1278) (rt := some .boolean) qkw_682 rfl (cuts := [(18, [0, 1, 2, 3])]) 1500 _ _ _ _ ?_
  show (0 ≤ (l3 + 1).toInt ∧ (l3 + 1).toInt < (X.1 : Int)) ∧ (qm_PW X 108 [.ref 0, .int (X.2 (l3 + 1).toInt.toNat)] h _)
  refine ⟨(by have := ti_addK l3 (1 : Int32) 1 rfl; omega), ?_⟩
  refine sf_108_0 X h (X.2 (l3 + 1).toInt.toNat) ⟨hm1, hm8, hm15, hmsq⟩ _ (fun r1 g2 p3 => ?_)
  have f4 : ∀ k, (k < 0 ∨ 50 < k) → g2 k = h k := fun k hk => (p3.2.2.2.2 k (by omega)).trans (rfl)
  have k5 : mi g2 := by unfold mi; rw [p3.2.2.2.2 39 (by omega)]; exact hmmi
  have k6 : sm g2 := by unfold sm; rw [p3.2.2.2.2 40 (by omega)]; exact hmsm
  have k7 : zs g2 := by unfold zs; rw [p3.2.2.2.2 49 (by omega)]; exact hmzs
  have k8 : rw_ g2 := by unfold rw_; rw [p3.2.2.2.2 46 (by omega)]; exact hmrw
  have k9 : tp g2 := by unfold tp; rw [p3.2.2.2.2 23 (by omega)]; rw [p3.2.2.2.2 24 (by omega)]; rw [p3.2.2.2.2 39 (by omega)]; rw [p3.2.2.2.2 44 (by omega)]; exact hmtp
  have k10 : mm g2 := mm_keep hmmm (fun k h1 h2 => p3.2.2.2.2 k (by omega)) (fun k h1 h2 => p3.2.2.2.2 k (by omega)) (congrFun (p3.2.2.2.2 39 (by omega)) 3) (p3.2.2.2.2 40 (by omega)) (p3.2.2.2.2 42 (by omega)) (fun k h1 h2 => p3.2.2.2.2 k (by omega))
  have k11 : wc g2 := wf_tr2 (show wc h from hmmm.1.2) (mC_of (fun k h1 h2 => p3.2.2.2.2 k (by omega)))
  have k12 : wr g2 := wf_tr2 (show wr h from wf_tr2 hmmm.1.2 hmmm.1.1.symm) (mR_of (congrFun (p3.2.2.2.2 39 (by omega)) 3) (p3.2.2.2.2 40 (by omega)))
  have e39_9_g2 : (g2 39 9).toInt = (h 39 9).toInt := congrArg (fun f : Nat → Int32 => (f 9).toInt) (p3.2.2.2.2 39 (by omega))
  have e39_14_g2 : (g2 39 14).toInt = (h 39 14).toInt := congrArg (fun f : Nat → Int32 => (f 14).toInt) (p3.2.2.2.2 39 (by omega))
  have e23_2_g2 : (g2 23 2).toInt = (h 23 2).toInt := congrArg (fun f : Nat → Int32 => (f 2).toInt) (p3.2.2.2.2 23 (by omega))
  have e23_4_g2 : (g2 23 4).toInt = (h 23 4).toInt := congrArg (fun f : Nat → Int32 => (f 4).toInt) (p3.2.2.2.2 23 (by omega))
  have w22_g2 : g2 22 = h 22 := p3.2.2.2.2 22 (by omega)
  have w24_g2 : g2 24 = h 24 := p3.2.2.2.2 24 (by omega)
  have w42_g2 : g2 42 = h 42 := p3.2.2.2.2 42 (by omega)
  have w44_g2 : g2 44 = h 44 := p3.2.2.2.2 44 (by omega)
  have e44_g2 : g2 44 = h 44 := w44_g2
  have e9_g2 : (g2 39 9).toInt = (h 39 9).toInt := e39_9_g2
  show (0 ≤ (l3 + 1).toInt ∧ (l3 + 1).toInt < (X.1 : Int)) ∧ (qm_PW X 206 [.ref 39, .int (X.2 (l3 + 1).toInt.toNat)] g2 _)
  refine ⟨(by have := ti_addK l3 (1 : Int32) 1 rfl; omega), ?_⟩
  refine sf_206_39 X g2 (X.2 (l3 + 1).toInt.toNat) ⟨k5, k6, k7, k8⟩ _ (fun r13 g14 p15 => ?_)
  have f16 : ∀ k, (k < 0 ∨ 50 < k) → g14 k = h k := fun k hk => (p15.2.2.2.2.2.1 k (by omega)).trans (f4 k hk)
  have k17 : mq 1 g14 := by unfold mq; rw [p15.2.2.2.2.2.1 1 (by omega)]; exact p3.1
  have k18 : mq 8 g14 := by unfold mq; rw [p15.2.2.2.2.2.1 8 (by omega)]; exact p3.2.1
  have k19 : mq 15 g14 := by unfold mq; rw [p15.2.2.2.2.2.1 15 (by omega)]; exact p3.2.2.1
  have k20 : sq g14 := by unfold sq; rw [p15.2.2.2.2.2.1 37 (by omega)]; exact p3.2.2.2.1
  have k21 : wc g14 := wf_tr2 k11 (mC_of (fun k h1 h2 => p15.2.2.2.2.2.1 k (by omega)))
  have o22 : ((g14 39 9).toInt = (g2 39 9).toInt ∧ (g14 39 14).toInt = (g2 39 14).toInt) := p15.2.2.2.2.2.2
  have e23_2_g14 : (g14 23 2).toInt = (g2 23 2).toInt := congrArg (fun f : Nat → Int32 => (f 2).toInt) (p15.2.2.2.2.2.1 23 (by omega))
  have e23_4_g14 : (g14 23 4).toInt = (g2 23 4).toInt := congrArg (fun f : Nat → Int32 => (f 4).toInt) (p15.2.2.2.2.2.1 23 (by omega))
  have w22_g14 : g14 22 = g2 22 := p15.2.2.2.2.2.1 22 (by omega)
  have w24_g14 : g14 24 = g2 24 := p15.2.2.2.2.2.1 24 (by omega)
  have w42_g14 : g14 42 = g2 42 := p15.2.2.2.2.2.1 42 (by omega)
  have w44_g14 : g14 44 = g2 44 := p15.2.2.2.2.2.1 44 (by omega)
  have s3_g14 : g14 39 3 = g2 39 3 := p15.2.2.2.2.1
  show qm_PA X 239 18 [(0, .ref 130), (1, .ref 0), (2, .ref 39), (3, .int (l3 + 5))] [] g14 Q
  exact ih g14 ⟨k17, k18, k19, k20, p15.1, p15.2.1, p15.2.2.1, p15.2.2.2.1, (by exact tp_keep hmtp (by omega) (by omega) (w24_g14.trans w24_g2) (w44_g14.trans w44_g2)), (by exact (mm_keep (mm_keep hmmm (fun k h1 h2 => p3.2.2.2.2 k (by omega)) (fun k h1 h2 => p3.2.2.2.2 k (by omega)) (congrFun (p3.2.2.2.2 39 (by omega)) 3) (p3.2.2.2.2 40 (by omega)) (p3.2.2.2.2 42 (by omega)) (fun k h1 h2 => p3.2.2.2.2 k (by omega))) (fun k h1 h2 => p15.2.2.2.2.2.1 k (by omega)) (fun k h1 h2 => p15.2.2.2.2.2.1 k (by omega)) s3_g14 (p15.2.2.2.2.2.1 40 (by omega)) (p15.2.2.2.2.2.1 42 (by omega)) (fun k h1 h2 => p15.2.2.2.2.2.1 k (by omega))))⟩
set_option maxRecDepth 100000 in
set_option maxHeartbeats 4000000 in
theorem lw_t705 (X : qm_X) (h : qm_H) (l3 : Int32) (Q : qm_Q) (hX : X.1 ≤ 320) (hi : 0 ≤ l3.toInt ∧ l3.toInt + 5 ≤ X.1) (hp : mq 1 h ∧ mq 8 h ∧ mq 15 h ∧ sq h ∧ mi h ∧ sm h ∧ zs h ∧ rw_ h ∧ tp h ∧ mm h) (ih : ∀ g : qm_H, (mq 1 g ∧ mq 8 g ∧ mq 15 g ∧ sq g ∧ mi g ∧ sm g ∧ zs g ∧ rw_ g ∧ tp g ∧ mm g) → qm_PA X 239 18 [(0, .ref 130), (1, .ref 0), (2, .ref 39), (3, .int (l3 + 5))] [] g Q) : qm_PA X 239 705 [(0, .ref 130), (1, .ref 0), (2, .ref 39), (3, .int l3)] [] h Q := by
  have hm1 : mq 1 h := hp.1
  have hm8 : mq 8 h := hp.2.1
  have hm15 : mq 15 h := hp.2.2.1
  have hmsq : sq h := hp.2.2.2.1
  have hmmi : mi h := hp.2.2.2.2.1
  have hmsm : sm h := hp.2.2.2.2.2.1
  have hmzs : zs h := hp.2.2.2.2.2.2.1
  have hmrw : rw_ h := hp.2.2.2.2.2.2.2.1
  have hmtp : tp h := hp.2.2.2.2.2.2.2.2.1
  have hmmm : mm h := hp.2.2.2.2.2.2.2.2.2
  refine qm_seg_okw (C := qk_705 ++ qk_1278) (rt := some .boolean) qkw_705 rfl (cuts := [(18, [0, 1, 2, 3])]) 1500 _ _ _ _ ?_
  show qm_PW X 109 [.ref 0] h _
  refine sf_109_0 X h  hm1 _ (fun r1 p2 => ?_)
  show qm_PW X 209 [.ref 39] h _
  refine sf_209_39 X h  ⟨hmmi, hmsm, hmzs, hmrw⟩ _ (fun r3 g4 p5 => ?_)
  have f6 : ∀ k, (k < 0 ∨ 50 < k) → g4 k = h k := fun k hk => (p5.2.2.2.2 k (by omega)).trans (rfl)
  have k7 : mq 1 g4 := by unfold mq; rw [p5.2.2.2.2 1 (by omega)]; exact hm1
  have k8 : mq 8 g4 := by unfold mq; rw [p5.2.2.2.2 8 (by omega)]; exact hm8
  have k9 : mq 15 g4 := by unfold mq; rw [p5.2.2.2.2 15 (by omega)]; exact hm15
  have k10 : sq g4 := by unfold sq; rw [p5.2.2.2.2 37 (by omega)]; exact hmsq
  have k11 : tp g4 := by unfold tp; rw [p5.2.2.2.2 23 (by omega)]; rw [p5.2.2.2.2 24 (by omega)]; rw [p5.2.2.2.2 39 (by omega)]; rw [p5.2.2.2.2 44 (by omega)]; exact hmtp
  have k12 : mm g4 := mm_keep hmmm (fun k h1 h2 => p5.2.2.2.2 k (by omega)) (fun k h1 h2 => p5.2.2.2.2 k (by omega)) (congrFun (p5.2.2.2.2 39 (by omega)) 3) (p5.2.2.2.2 40 (by omega)) (p5.2.2.2.2 42 (by omega)) (fun k h1 h2 => p5.2.2.2.2 k (by omega))
  have k13 : wc g4 := wf_tr2 (show wc h from hmmm.1.2) (mC_of (fun k h1 h2 => p5.2.2.2.2 k (by omega)))
  have k14 : wr g4 := wf_tr2 (show wr h from wf_tr2 hmmm.1.2 hmmm.1.1.symm) (mR_of (congrFun (p5.2.2.2.2 39 (by omega)) 3) (p5.2.2.2.2 40 (by omega)))
  have e39_9_g4 : (g4 39 9).toInt = (h 39 9).toInt := congrArg (fun f : Nat → Int32 => (f 9).toInt) (p5.2.2.2.2 39 (by omega))
  have e39_14_g4 : (g4 39 14).toInt = (h 39 14).toInt := congrArg (fun f : Nat → Int32 => (f 14).toInt) (p5.2.2.2.2 39 (by omega))
  have e23_2_g4 : (g4 23 2).toInt = (h 23 2).toInt := congrArg (fun f : Nat → Int32 => (f 2).toInt) (p5.2.2.2.2 23 (by omega))
  have e23_4_g4 : (g4 23 4).toInt = (h 23 4).toInt := congrArg (fun f : Nat → Int32 => (f 4).toInt) (p5.2.2.2.2 23 (by omega))
  have w22_g4 : g4 22 = h 22 := p5.2.2.2.2 22 (by omega)
  have w24_g4 : g4 24 = h 24 := p5.2.2.2.2 24 (by omega)
  have w42_g4 : g4 42 = h 42 := p5.2.2.2.2 42 (by omega)
  have w44_g4 : g4 44 = h 44 := p5.2.2.2.2 44 (by omega)
  show qm_PA X 239 18 [(0, .ref 130), (1, .ref 0), (2, .ref 39), (3, .int (l3 + 5))] [] g4 Q
  exact ih g4 ⟨k7, k8, k9, k10, p5.1, p5.2.1, p5.2.2.1, p5.2.2.2.1, k11, k12⟩
set_option maxRecDepth 100000 in
set_option maxHeartbeats 4000000 in
theorem lw_t718 (X : qm_X) (h : qm_H) (l3 : Int32) (Q : qm_Q) (hX : X.1 ≤ 320) (hi : 0 ≤ l3.toInt ∧ l3.toInt + 5 ≤ X.1) (hp : mq 1 h ∧ mq 8 h ∧ mq 15 h ∧ sq h ∧ mi h ∧ sm h ∧ zs h ∧ rw_ h ∧ tp h ∧ mm h) (ih : ∀ g : qm_H, (mq 1 g ∧ mq 8 g ∧ mq 15 g ∧ sq g ∧ mi g ∧ sm g ∧ zs g ∧ rw_ g ∧ tp g ∧ mm g) → qm_PA X 239 18 [(0, .ref 130), (1, .ref 0), (2, .ref 39), (3, .int (l3 + 5))] [] g Q) : qm_PA X 239 718 [(0, .ref 130), (1, .ref 0), (2, .ref 39), (3, .int l3)] [] h Q := by
  have hm1 : mq 1 h := hp.1
  have hm8 : mq 8 h := hp.2.1
  have hm15 : mq 15 h := hp.2.2.1
  have hmsq : sq h := hp.2.2.2.1
  have hmmi : mi h := hp.2.2.2.2.1
  have hmsm : sm h := hp.2.2.2.2.2.1
  have hmzs : zs h := hp.2.2.2.2.2.2.1
  have hmrw : rw_ h := hp.2.2.2.2.2.2.2.1
  have hmtp : tp h := hp.2.2.2.2.2.2.2.2.1
  have hmmm : mm h := hp.2.2.2.2.2.2.2.2.2
  refine qm_seg_okw (C := qk_718 ++ qk_1278) (rt := some .boolean) qkw_718 rfl (cuts := [(18, [0, 1, 2, 3])]) 1500 _ _ _ _ ?_
  show qm_PW X 110 [.ref 0] h _
  refine sf_110_0 X h  hm1 _ (fun r1 p2 => ?_)
  show qm_PW X 210 [.ref 39] h _
  refine sf_210_39 X h  ⟨hmmi, hmsm, hmzs, hmrw⟩ _ (fun r3 g4 p5 => ?_)
  have f6 : ∀ k, (k < 0 ∨ 50 < k) → g4 k = h k := fun k hk => (p5.2.2.2.2 k (by omega)).trans (rfl)
  have k7 : mq 1 g4 := by unfold mq; rw [p5.2.2.2.2 1 (by omega)]; exact hm1
  have k8 : mq 8 g4 := by unfold mq; rw [p5.2.2.2.2 8 (by omega)]; exact hm8
  have k9 : mq 15 g4 := by unfold mq; rw [p5.2.2.2.2 15 (by omega)]; exact hm15
  have k10 : sq g4 := by unfold sq; rw [p5.2.2.2.2 37 (by omega)]; exact hmsq
  have k11 : tp g4 := by unfold tp; rw [p5.2.2.2.2 23 (by omega)]; rw [p5.2.2.2.2 24 (by omega)]; rw [p5.2.2.2.2 39 (by omega)]; rw [p5.2.2.2.2 44 (by omega)]; exact hmtp
  have k12 : mm g4 := mm_keep hmmm (fun k h1 h2 => p5.2.2.2.2 k (by omega)) (fun k h1 h2 => p5.2.2.2.2 k (by omega)) (congrFun (p5.2.2.2.2 39 (by omega)) 3) (p5.2.2.2.2 40 (by omega)) (p5.2.2.2.2 42 (by omega)) (fun k h1 h2 => p5.2.2.2.2 k (by omega))
  have k13 : wc g4 := wf_tr2 (show wc h from hmmm.1.2) (mC_of (fun k h1 h2 => p5.2.2.2.2 k (by omega)))
  have k14 : wr g4 := wf_tr2 (show wr h from wf_tr2 hmmm.1.2 hmmm.1.1.symm) (mR_of (congrFun (p5.2.2.2.2 39 (by omega)) 3) (p5.2.2.2.2 40 (by omega)))
  have e39_9_g4 : (g4 39 9).toInt = (h 39 9).toInt := congrArg (fun f : Nat → Int32 => (f 9).toInt) (p5.2.2.2.2 39 (by omega))
  have e39_14_g4 : (g4 39 14).toInt = (h 39 14).toInt := congrArg (fun f : Nat → Int32 => (f 14).toInt) (p5.2.2.2.2 39 (by omega))
  have e23_2_g4 : (g4 23 2).toInt = (h 23 2).toInt := congrArg (fun f : Nat → Int32 => (f 2).toInt) (p5.2.2.2.2 23 (by omega))
  have e23_4_g4 : (g4 23 4).toInt = (h 23 4).toInt := congrArg (fun f : Nat → Int32 => (f 4).toInt) (p5.2.2.2.2 23 (by omega))
  have w22_g4 : g4 22 = h 22 := p5.2.2.2.2 22 (by omega)
  have w24_g4 : g4 24 = h 24 := p5.2.2.2.2 24 (by omega)
  have w42_g4 : g4 42 = h 42 := p5.2.2.2.2 42 (by omega)
  have w44_g4 : g4 44 = h 44 := p5.2.2.2.2 44 (by omega)
  have e44_g4 : g4 44 = h 44 := w44_g4
  have e9_g4 : (g4 39 9).toInt = (h 39 9).toInt := e39_9_g4
  show qm_PA X 239 18 [(0, .ref 130), (1, .ref 0), (2, .ref 39), (3, .int (l3 + 5))] [] g4 Q
  exact ih g4 ⟨k7, k8, k9, k10, p5.1, p5.2.1, p5.2.2.1, p5.2.2.2.1, k11, k12⟩
set_option maxRecDepth 100000 in
set_option maxHeartbeats 4000000 in
theorem lw_t731 (X : qm_X) (h : qm_H) (l3 : Int32) (Q : qm_Q) (hX : X.1 ≤ 320) (hi : 0 ≤ l3.toInt ∧ l3.toInt + 5 ≤ X.1) (hp : mq 1 h ∧ mq 8 h ∧ mq 15 h ∧ sq h ∧ mi h ∧ sm h ∧ zs h ∧ rw_ h ∧ tp h ∧ mm h) (ih : ∀ g : qm_H, (mq 1 g ∧ mq 8 g ∧ mq 15 g ∧ sq g ∧ mi g ∧ sm g ∧ zs g ∧ rw_ g ∧ tp g ∧ mm g) → qm_PA X 239 18 [(0, .ref 130), (1, .ref 0), (2, .ref 39), (3, .int (l3 + 5))] [] g Q) : qm_PA X 239 731 [(0, .ref 130), (1, .ref 0), (2, .ref 39), (3, .int l3)] [] h Q := by
  have hm1 : mq 1 h := hp.1
  have hm8 : mq 8 h := hp.2.1
  have hm15 : mq 15 h := hp.2.2.1
  have hmsq : sq h := hp.2.2.2.1
  have hmmi : mi h := hp.2.2.2.2.1
  have hmsm : sm h := hp.2.2.2.2.2.1
  have hmzs : zs h := hp.2.2.2.2.2.2.1
  have hmrw : rw_ h := hp.2.2.2.2.2.2.2.1
  have hmtp : tp h := hp.2.2.2.2.2.2.2.2.1
  have hmmm : mm h := hp.2.2.2.2.2.2.2.2.2
  refine qm_seg_okw (C := qk_731 ++ qk_1278) (rt := some .boolean) qkw_731 rfl (cuts := [(18, [0, 1, 2, 3])]) 1500 _ _ _ _ ?_
  show qm_PW X 111 [.ref 0] h _
  refine sf_111_0 X h  hm1 _ (fun r1 p2 => ?_)
  show qm_PW X 211 [.ref 39] h _
  refine sf_211_39 X h  ⟨hmmi, hmsm, hmzs, hmrw⟩ _ (fun r3 g4 p5 => ?_)
  have f6 : ∀ k, (k < 0 ∨ 50 < k) → g4 k = h k := fun k hk => (p5.2.2.2.2 k (by omega)).trans (rfl)
  have k7 : mq 1 g4 := by unfold mq; rw [p5.2.2.2.2 1 (by omega)]; exact hm1
  have k8 : mq 8 g4 := by unfold mq; rw [p5.2.2.2.2 8 (by omega)]; exact hm8
  have k9 : mq 15 g4 := by unfold mq; rw [p5.2.2.2.2 15 (by omega)]; exact hm15
  have k10 : sq g4 := by unfold sq; rw [p5.2.2.2.2 37 (by omega)]; exact hmsq
  have k11 : tp g4 := by unfold tp; rw [p5.2.2.2.2 23 (by omega)]; rw [p5.2.2.2.2 24 (by omega)]; rw [p5.2.2.2.2 39 (by omega)]; rw [p5.2.2.2.2 44 (by omega)]; exact hmtp
  have k12 : mm g4 := mm_keep hmmm (fun k h1 h2 => p5.2.2.2.2 k (by omega)) (fun k h1 h2 => p5.2.2.2.2 k (by omega)) (congrFun (p5.2.2.2.2 39 (by omega)) 3) (p5.2.2.2.2 40 (by omega)) (p5.2.2.2.2 42 (by omega)) (fun k h1 h2 => p5.2.2.2.2 k (by omega))
  have k13 : wc g4 := wf_tr2 (show wc h from hmmm.1.2) (mC_of (fun k h1 h2 => p5.2.2.2.2 k (by omega)))
  have k14 : wr g4 := wf_tr2 (show wr h from wf_tr2 hmmm.1.2 hmmm.1.1.symm) (mR_of (congrFun (p5.2.2.2.2 39 (by omega)) 3) (p5.2.2.2.2 40 (by omega)))
  have e39_9_g4 : (g4 39 9).toInt = (h 39 9).toInt := congrArg (fun f : Nat → Int32 => (f 9).toInt) (p5.2.2.2.2 39 (by omega))
  have e39_14_g4 : (g4 39 14).toInt = (h 39 14).toInt := congrArg (fun f : Nat → Int32 => (f 14).toInt) (p5.2.2.2.2 39 (by omega))
  have e23_2_g4 : (g4 23 2).toInt = (h 23 2).toInt := congrArg (fun f : Nat → Int32 => (f 2).toInt) (p5.2.2.2.2 23 (by omega))
  have e23_4_g4 : (g4 23 4).toInt = (h 23 4).toInt := congrArg (fun f : Nat → Int32 => (f 4).toInt) (p5.2.2.2.2 23 (by omega))
  have w22_g4 : g4 22 = h 22 := p5.2.2.2.2 22 (by omega)
  have w24_g4 : g4 24 = h 24 := p5.2.2.2.2 24 (by omega)
  have w42_g4 : g4 42 = h 42 := p5.2.2.2.2 42 (by omega)
  have w44_g4 : g4 44 = h 44 := p5.2.2.2.2 44 (by omega)
  have e44_g4 : g4 44 = h 44 := w44_g4
  have e9_g4 : (g4 39 9).toInt = (h 39 9).toInt := e39_9_g4
  show qm_PA X 239 18 [(0, .ref 130), (1, .ref 0), (2, .ref 39), (3, .int (l3 + 5))] [] g4 Q
  exact ih g4 ⟨k7, k8, k9, k10, p5.1, p5.2.1, p5.2.2.1, p5.2.2.2.1, k11, k12⟩
set_option maxRecDepth 100000 in
set_option maxHeartbeats 4000000 in
theorem lw_t744 (X : qm_X) (h : qm_H) (l3 : Int32) (Q : qm_Q) (hX : X.1 ≤ 320) (hi : 0 ≤ l3.toInt ∧ l3.toInt + 5 ≤ X.1) (hp : mq 1 h ∧ mq 8 h ∧ mq 15 h ∧ sq h ∧ mi h ∧ sm h ∧ zs h ∧ rw_ h ∧ tp h ∧ mm h) (ih : ∀ g : qm_H, (mq 1 g ∧ mq 8 g ∧ mq 15 g ∧ sq g ∧ mi g ∧ sm g ∧ zs g ∧ rw_ g ∧ tp g ∧ mm g) → qm_PA X 239 18 [(0, .ref 130), (1, .ref 0), (2, .ref 39), (3, .int (l3 + 5))] [] g Q) : qm_PA X 239 744 [(0, .ref 130), (1, .ref 0), (2, .ref 39), (3, .int l3)] [] h Q := by
  have hm1 : mq 1 h := hp.1
  have hm8 : mq 8 h := hp.2.1
  have hm15 : mq 15 h := hp.2.2.1
  have hmsq : sq h := hp.2.2.2.1
  have hmmi : mi h := hp.2.2.2.2.1
  have hmsm : sm h := hp.2.2.2.2.2.1
  have hmzs : zs h := hp.2.2.2.2.2.2.1
  have hmrw : rw_ h := hp.2.2.2.2.2.2.2.1
  have hmtp : tp h := hp.2.2.2.2.2.2.2.2.1
  have hmmm : mm h := hp.2.2.2.2.2.2.2.2.2
  refine qm_seg_okw (C := qk_744 ++ qk_1278) (rt := some .boolean) qkw_744 rfl (cuts := [(18, [0, 1, 2, 3])]) 1500 _ _ _ _ ?_
  show (0 ≤ (l3 + 1).toInt ∧ (l3 + 1).toInt < (X.1 : Int)) ∧ (qm_PW X 112 [.ref 0, .int (X.2 (l3 + 1).toInt.toNat)] h _)
  refine ⟨(by have := ti_addK l3 (1 : Int32) 1 rfl; omega), ?_⟩
  refine sf_112_0 X h (X.2 (l3 + 1).toInt.toNat) hm1 _ (fun r1 p2 => ?_)
  show (0 ≤ (l3 + 1).toInt ∧ (l3 + 1).toInt < (X.1 : Int)) ∧ (qm_PW X 215 [.ref 39, .int (X.2 (l3 + 1).toInt.toNat)] h _)
  refine ⟨(by have := ti_addK l3 (1 : Int32) 1 rfl; omega), ?_⟩
  refine sf_215_39 X h (X.2 (l3 + 1).toInt.toNat) ⟨hmmi, hmsm, hmzs, hmrw⟩ _ (fun r3 g4 p5 => ?_)
  have f6 : ∀ k, (k < 0 ∨ 50 < k) → g4 k = h k := fun k hk => (p5.2.2.2.2 k (by omega)).trans (rfl)
  have k7 : mq 1 g4 := by unfold mq; rw [p5.2.2.2.2 1 (by omega)]; exact hm1
  have k8 : mq 8 g4 := by unfold mq; rw [p5.2.2.2.2 8 (by omega)]; exact hm8
  have k9 : mq 15 g4 := by unfold mq; rw [p5.2.2.2.2 15 (by omega)]; exact hm15
  have k10 : sq g4 := by unfold sq; rw [p5.2.2.2.2 37 (by omega)]; exact hmsq
  have k11 : tp g4 := by unfold tp; rw [p5.2.2.2.2 23 (by omega)]; rw [p5.2.2.2.2 24 (by omega)]; rw [p5.2.2.2.2 39 (by omega)]; rw [p5.2.2.2.2 44 (by omega)]; exact hmtp
  have k12 : mm g4 := mm_keep hmmm (fun k h1 h2 => p5.2.2.2.2 k (by omega)) (fun k h1 h2 => p5.2.2.2.2 k (by omega)) (congrFun (p5.2.2.2.2 39 (by omega)) 3) (p5.2.2.2.2 40 (by omega)) (p5.2.2.2.2 42 (by omega)) (fun k h1 h2 => p5.2.2.2.2 k (by omega))
  have k13 : wc g4 := wf_tr2 (show wc h from hmmm.1.2) (mC_of (fun k h1 h2 => p5.2.2.2.2 k (by omega)))
  have k14 : wr g4 := wf_tr2 (show wr h from wf_tr2 hmmm.1.2 hmmm.1.1.symm) (mR_of (congrFun (p5.2.2.2.2 39 (by omega)) 3) (p5.2.2.2.2 40 (by omega)))
  have e39_9_g4 : (g4 39 9).toInt = (h 39 9).toInt := congrArg (fun f : Nat → Int32 => (f 9).toInt) (p5.2.2.2.2 39 (by omega))
  have e39_14_g4 : (g4 39 14).toInt = (h 39 14).toInt := congrArg (fun f : Nat → Int32 => (f 14).toInt) (p5.2.2.2.2 39 (by omega))
  have e23_2_g4 : (g4 23 2).toInt = (h 23 2).toInt := congrArg (fun f : Nat → Int32 => (f 2).toInt) (p5.2.2.2.2 23 (by omega))
  have e23_4_g4 : (g4 23 4).toInt = (h 23 4).toInt := congrArg (fun f : Nat → Int32 => (f 4).toInt) (p5.2.2.2.2 23 (by omega))
  have w22_g4 : g4 22 = h 22 := p5.2.2.2.2 22 (by omega)
  have w24_g4 : g4 24 = h 24 := p5.2.2.2.2 24 (by omega)
  have w42_g4 : g4 42 = h 42 := p5.2.2.2.2 42 (by omega)
  have w44_g4 : g4 44 = h 44 := p5.2.2.2.2 44 (by omega)
  have e44_g4 : g4 44 = h 44 := w44_g4
  have e9_g4 : (g4 39 9).toInt = (h 39 9).toInt := e39_9_g4
  show qm_PA X 239 18 [(0, .ref 130), (1, .ref 0), (2, .ref 39), (3, .int (l3 + 5))] [] g4 Q
  exact ih g4 ⟨k7, k8, k9, k10, p5.1, p5.2.1, p5.2.2.1, p5.2.2.2.1, k11, k12⟩
set_option maxRecDepth 100000 in
set_option maxHeartbeats 4000000 in
theorem lw_t767 (X : qm_X) (h : qm_H) (l3 : Int32) (Q : qm_Q) (hX : X.1 ≤ 320) (hi : 0 ≤ l3.toInt ∧ l3.toInt + 5 ≤ X.1) (hp : mq 1 h ∧ mq 8 h ∧ mq 15 h ∧ sq h ∧ mi h ∧ sm h ∧ zs h ∧ rw_ h ∧ tp h ∧ mm h) (ih : ∀ g : qm_H, (mq 1 g ∧ mq 8 g ∧ mq 15 g ∧ sq g ∧ mi g ∧ sm g ∧ zs g ∧ rw_ g ∧ tp g ∧ mm g) → qm_PA X 239 18 [(0, .ref 130), (1, .ref 0), (2, .ref 39), (3, .int (l3 + 5))] [] g Q) : qm_PA X 239 767 [(0, .ref 130), (1, .ref 0), (2, .ref 39), (3, .int l3)] [] h Q := by
  have hm1 : mq 1 h := hp.1
  have hm8 : mq 8 h := hp.2.1
  have hm15 : mq 15 h := hp.2.2.1
  have hmsq : sq h := hp.2.2.2.1
  have hmmi : mi h := hp.2.2.2.2.1
  have hmsm : sm h := hp.2.2.2.2.2.1
  have hmzs : zs h := hp.2.2.2.2.2.2.1
  have hmrw : rw_ h := hp.2.2.2.2.2.2.2.1
  have hmtp : tp h := hp.2.2.2.2.2.2.2.2.1
  have hmmm : mm h := hp.2.2.2.2.2.2.2.2.2
  refine qm_seg_okw (C := qk_767 ++ qk_1278) (rt := some .boolean) qkw_767 rfl (cuts := [(18, [0, 1, 2, 3])]) 1500 _ _ _ _ ?_
  show qm_PW X 113 [.ref 0] h _
  refine sf_113_0 X h  hm1 _ (fun r1 p2 => ?_)
  show qm_PW X 216 [.ref 39] h _
  refine sf_216_39 X h  ⟨hmmi, hmsm, hmzs, hmrw⟩ _ (fun r3 g4 p5 => ?_)
  have f6 : ∀ k, (k < 0 ∨ 50 < k) → g4 k = h k := fun k hk => (p5.2.2.2.2 k (by omega)).trans (rfl)
  have k7 : mq 1 g4 := by unfold mq; rw [p5.2.2.2.2 1 (by omega)]; exact hm1
  have k8 : mq 8 g4 := by unfold mq; rw [p5.2.2.2.2 8 (by omega)]; exact hm8
  have k9 : mq 15 g4 := by unfold mq; rw [p5.2.2.2.2 15 (by omega)]; exact hm15
  have k10 : sq g4 := by unfold sq; rw [p5.2.2.2.2 37 (by omega)]; exact hmsq
  have k11 : tp g4 := by unfold tp; rw [p5.2.2.2.2 23 (by omega)]; rw [p5.2.2.2.2 24 (by omega)]; rw [p5.2.2.2.2 39 (by omega)]; rw [p5.2.2.2.2 44 (by omega)]; exact hmtp
  have k12 : mm g4 := mm_keep hmmm (fun k h1 h2 => p5.2.2.2.2 k (by omega)) (fun k h1 h2 => p5.2.2.2.2 k (by omega)) (congrFun (p5.2.2.2.2 39 (by omega)) 3) (p5.2.2.2.2 40 (by omega)) (p5.2.2.2.2 42 (by omega)) (fun k h1 h2 => p5.2.2.2.2 k (by omega))
  have k13 : wc g4 := wf_tr2 (show wc h from hmmm.1.2) (mC_of (fun k h1 h2 => p5.2.2.2.2 k (by omega)))
  have k14 : wr g4 := wf_tr2 (show wr h from wf_tr2 hmmm.1.2 hmmm.1.1.symm) (mR_of (congrFun (p5.2.2.2.2 39 (by omega)) 3) (p5.2.2.2.2 40 (by omega)))
  have e39_9_g4 : (g4 39 9).toInt = (h 39 9).toInt := congrArg (fun f : Nat → Int32 => (f 9).toInt) (p5.2.2.2.2 39 (by omega))
  have e39_14_g4 : (g4 39 14).toInt = (h 39 14).toInt := congrArg (fun f : Nat → Int32 => (f 14).toInt) (p5.2.2.2.2 39 (by omega))
  have e23_2_g4 : (g4 23 2).toInt = (h 23 2).toInt := congrArg (fun f : Nat → Int32 => (f 2).toInt) (p5.2.2.2.2 23 (by omega))
  have e23_4_g4 : (g4 23 4).toInt = (h 23 4).toInt := congrArg (fun f : Nat → Int32 => (f 4).toInt) (p5.2.2.2.2 23 (by omega))
  have w22_g4 : g4 22 = h 22 := p5.2.2.2.2 22 (by omega)
  have w24_g4 : g4 24 = h 24 := p5.2.2.2.2 24 (by omega)
  have w42_g4 : g4 42 = h 42 := p5.2.2.2.2 42 (by omega)
  have w44_g4 : g4 44 = h 44 := p5.2.2.2.2 44 (by omega)
  have e44_g4 : g4 44 = h 44 := w44_g4
  have e9_g4 : (g4 39 9).toInt = (h 39 9).toInt := e39_9_g4
  show qm_PA X 239 18 [(0, .ref 130), (1, .ref 0), (2, .ref 39), (3, .int (l3 + 5))] [] g4 Q
  exact ih g4 ⟨k7, k8, k9, k10, p5.1, p5.2.1, p5.2.2.1, p5.2.2.2.1, k11, k12⟩
set_option maxRecDepth 100000 in
set_option maxHeartbeats 4000000 in
theorem lw_t780 (X : qm_X) (h : qm_H) (l3 : Int32) (Q : qm_Q) (hX : X.1 ≤ 320) (hi : 0 ≤ l3.toInt ∧ l3.toInt + 5 ≤ X.1) (hp : mq 1 h ∧ mq 8 h ∧ mq 15 h ∧ sq h ∧ mi h ∧ sm h ∧ zs h ∧ rw_ h ∧ tp h ∧ mm h) (ih : ∀ g : qm_H, (mq 1 g ∧ mq 8 g ∧ mq 15 g ∧ sq g ∧ mi g ∧ sm g ∧ zs g ∧ rw_ g ∧ tp g ∧ mm g) → qm_PA X 239 18 [(0, .ref 130), (1, .ref 0), (2, .ref 39), (3, .int (l3 + 5))] [] g Q) : qm_PA X 239 780 [(0, .ref 130), (1, .ref 0), (2, .ref 39), (3, .int l3)] [] h Q := by
  have hm1 : mq 1 h := hp.1
  have hm8 : mq 8 h := hp.2.1
  have hm15 : mq 15 h := hp.2.2.1
  have hmsq : sq h := hp.2.2.2.1
  have hmmi : mi h := hp.2.2.2.2.1
  have hmsm : sm h := hp.2.2.2.2.2.1
  have hmzs : zs h := hp.2.2.2.2.2.2.1
  have hmrw : rw_ h := hp.2.2.2.2.2.2.2.1
  have hmtp : tp h := hp.2.2.2.2.2.2.2.2.1
  have hmmm : mm h := hp.2.2.2.2.2.2.2.2.2
  refine qm_seg_okw (C := qk_780 ++ qk_1278) (rt := some .boolean) qkw_780 rfl (cuts := [(18, [0, 1, 2, 3])]) 1500 _ _ _ _ ?_
  show (0 ≤ (l3 + 1).toInt ∧ (l3 + 1).toInt < (X.1 : Int)) ∧ (qm_PW X 114 [.ref 0, .int (X.2 (l3 + 1).toInt.toNat)] h _)
  refine ⟨(by have := ti_addK l3 (1 : Int32) 1 rfl; omega), ?_⟩
  refine sf_114_0 X h (X.2 (l3 + 1).toInt.toNat) hm1 _ (fun r1 p2 => ?_)
  show (0 ≤ (l3 + 1).toInt ∧ (l3 + 1).toInt < (X.1 : Int)) ∧ (qm_PW X 217 [.ref 39, .int (X.2 (l3 + 1).toInt.toNat)] h _)
  refine ⟨(by have := ti_addK l3 (1 : Int32) 1 rfl; omega), ?_⟩
  refine sf_217_39 X h (X.2 (l3 + 1).toInt.toNat) ⟨hmmi, hmsm, hmzs, hmrw⟩ _ (fun r3 g4 p5 => ?_)
  have f6 : ∀ k, (k < 0 ∨ 50 < k) → g4 k = h k := fun k hk => (p5.2.2.2.2 k (by omega)).trans (rfl)
  have k7 : mq 1 g4 := by unfold mq; rw [p5.2.2.2.2 1 (by omega)]; exact hm1
  have k8 : mq 8 g4 := by unfold mq; rw [p5.2.2.2.2 8 (by omega)]; exact hm8
  have k9 : mq 15 g4 := by unfold mq; rw [p5.2.2.2.2 15 (by omega)]; exact hm15
  have k10 : sq g4 := by unfold sq; rw [p5.2.2.2.2 37 (by omega)]; exact hmsq
  have k11 : tp g4 := by unfold tp; rw [p5.2.2.2.2 23 (by omega)]; rw [p5.2.2.2.2 24 (by omega)]; rw [p5.2.2.2.2 39 (by omega)]; rw [p5.2.2.2.2 44 (by omega)]; exact hmtp
  have k12 : mm g4 := mm_keep hmmm (fun k h1 h2 => p5.2.2.2.2 k (by omega)) (fun k h1 h2 => p5.2.2.2.2 k (by omega)) (congrFun (p5.2.2.2.2 39 (by omega)) 3) (p5.2.2.2.2 40 (by omega)) (p5.2.2.2.2 42 (by omega)) (fun k h1 h2 => p5.2.2.2.2 k (by omega))
  have k13 : wc g4 := wf_tr2 (show wc h from hmmm.1.2) (mC_of (fun k h1 h2 => p5.2.2.2.2 k (by omega)))
  have k14 : wr g4 := wf_tr2 (show wr h from wf_tr2 hmmm.1.2 hmmm.1.1.symm) (mR_of (congrFun (p5.2.2.2.2 39 (by omega)) 3) (p5.2.2.2.2 40 (by omega)))
  have e39_9_g4 : (g4 39 9).toInt = (h 39 9).toInt := congrArg (fun f : Nat → Int32 => (f 9).toInt) (p5.2.2.2.2 39 (by omega))
  have e39_14_g4 : (g4 39 14).toInt = (h 39 14).toInt := congrArg (fun f : Nat → Int32 => (f 14).toInt) (p5.2.2.2.2 39 (by omega))
  have e23_2_g4 : (g4 23 2).toInt = (h 23 2).toInt := congrArg (fun f : Nat → Int32 => (f 2).toInt) (p5.2.2.2.2 23 (by omega))
  have e23_4_g4 : (g4 23 4).toInt = (h 23 4).toInt := congrArg (fun f : Nat → Int32 => (f 4).toInt) (p5.2.2.2.2 23 (by omega))
  have w22_g4 : g4 22 = h 22 := p5.2.2.2.2 22 (by omega)
  have w24_g4 : g4 24 = h 24 := p5.2.2.2.2 24 (by omega)
  have w42_g4 : g4 42 = h 42 := p5.2.2.2.2 42 (by omega)
  have w44_g4 : g4 44 = h 44 := p5.2.2.2.2 44 (by omega)
  have e44_g4 : g4 44 = h 44 := w44_g4
  have e9_g4 : (g4 39 9).toInt = (h 39 9).toInt := e39_9_g4
  show qm_PA X 239 18 [(0, .ref 130), (1, .ref 0), (2, .ref 39), (3, .int (l3 + 5))] [] g4 Q
  exact ih g4 ⟨k7, k8, k9, k10, p5.1, p5.2.1, p5.2.2.1, p5.2.2.2.1, k11, k12⟩
set_option maxRecDepth 100000 in
set_option maxHeartbeats 4000000 in
theorem lw_t803 (X : qm_X) (h : qm_H) (l3 : Int32) (Q : qm_Q) (hX : X.1 ≤ 320) (hi : 0 ≤ l3.toInt ∧ l3.toInt + 5 ≤ X.1) (hp : mq 1 h ∧ mq 8 h ∧ mq 15 h ∧ sq h ∧ mi h ∧ sm h ∧ zs h ∧ rw_ h ∧ tp h ∧ mm h) (ih : ∀ g : qm_H, (mq 1 g ∧ mq 8 g ∧ mq 15 g ∧ sq g ∧ mi g ∧ sm g ∧ zs g ∧ rw_ g ∧ tp g ∧ mm g) → qm_PA X 239 18 [(0, .ref 130), (1, .ref 0), (2, .ref 39), (3, .int (l3 + 5))] [] g Q) : qm_PA X 239 803 [(0, .ref 130), (1, .ref 0), (2, .ref 39), (3, .int l3)] [] h Q := by
  have hm1 : mq 1 h := hp.1
  have hm8 : mq 8 h := hp.2.1
  have hm15 : mq 15 h := hp.2.2.1
  have hmsq : sq h := hp.2.2.2.1
  have hmmi : mi h := hp.2.2.2.2.1
  have hmsm : sm h := hp.2.2.2.2.2.1
  have hmzs : zs h := hp.2.2.2.2.2.2.1
  have hmrw : rw_ h := hp.2.2.2.2.2.2.2.1
  have hmtp : tp h := hp.2.2.2.2.2.2.2.2.1
  have hmmm : mm h := hp.2.2.2.2.2.2.2.2.2
  have hrt0 : (h 23 2).toInt = (h 39 9).toInt := hmtp.1
  have hbt : bt (h 44) (h 39 9).toInt := hmtp.2.2
  have ⟨⟨_, _⟩, ⟨_, _⟩, ⟨_, _⟩, ⟨_, _⟩, _, _⟩ := hmmi
  refine qm_seg_okw (C := qk_803 ++ qk_1278) (rt := some .boolean) qkw_803 rfl (cuts := [(18, [0, 1, 2, 3])]) 1500 _ _ _ _ ?_
  show (0 ≤ (l3 + 1).toInt ∧ (l3 + 1).toInt < (X.1 : Int)) ∧ (qm_PW X 115 [.ref 0, .int (X.2 (l3 + 1).toInt.toNat)] h _)
  refine ⟨(by have := ti_addK l3 (1 : Int32) 1 rfl; omega), ?_⟩
  refine ty_115 X h (X.2 (l3 + 1).toInt.toNat) hm1 _ (fun r1 p2 => ?_)
  have o3 : r1.toInt = qQuarrel (X.2 (l3 + 1).toInt.toNat).toInt (mC h) := p2
  show (0 ≤ (l3 + 1).toInt ∧ (l3 + 1).toInt < (X.1 : Int)) ∧ (qm_PW X 218 [.ref 39, .int (X.2 (l3 + 1).toInt.toNat)] h _)
  refine ⟨(by have := ti_addK l3 (1 : Int32) 1 rfl; omega), ?_⟩
  refine ty_218 X h (X.2 (l3 + 1).toInt.toNat) ⟨hmmi, hmsm, hmzs, hmrw⟩ _ (fun r4 g5 p6 => ?_)
  have f7 : ∀ k, (k < 0 ∨ 50 < k) → g5 k = h k := fun k hk => (p6.2.2.2.2.1 k (by omega)).trans (rfl)
  have k8 : mq 1 g5 := by unfold mq; rw [p6.2.2.2.2.1 1 (by omega)]; exact hm1
  have k9 : mq 8 g5 := by unfold mq; rw [p6.2.2.2.2.1 8 (by omega)]; exact hm8
  have k10 : mq 15 g5 := by unfold mq; rw [p6.2.2.2.2.1 15 (by omega)]; exact hm15
  have k11 : sq g5 := by unfold sq; rw [p6.2.2.2.2.1 37 (by omega)]; exact hmsq
  have k12 : tp g5 := by unfold tp; rw [p6.2.2.2.2.1 23 (by omega)]; rw [p6.2.2.2.2.1 24 (by omega)]; rw [p6.2.2.2.2.1 39 (by omega)]; rw [p6.2.2.2.2.1 44 (by omega)]; exact hmtp
  have k13 : mm g5 := mm_keep hmmm (fun k h1 h2 => p6.2.2.2.2.1 k (by omega)) (fun k h1 h2 => p6.2.2.2.2.1 k (by omega)) (congrFun (p6.2.2.2.2.1 39 (by omega)) 3) (p6.2.2.2.2.1 40 (by omega)) (p6.2.2.2.2.1 42 (by omega)) (fun k h1 h2 => p6.2.2.2.2.1 k (by omega))
  have k14 : wc g5 := wf_tr2 (show wc h from hmmm.1.2) (mC_of (fun k h1 h2 => p6.2.2.2.2.1 k (by omega)))
  have k15 : wr g5 := wf_tr2 (show wr h from wf_tr2 hmmm.1.2 hmmm.1.1.symm) (mR_of (congrFun (p6.2.2.2.2.1 39 (by omega)) 3) (p6.2.2.2.2.1 40 (by omega)))
  have o16 : r4.toInt = qQuarrel (X.2 (l3 + 1).toInt.toNat).toInt (mR h) := p6.2.2.2.2.2
  have e39_9_g5 : (g5 39 9).toInt = (h 39 9).toInt := congrArg (fun f : Nat → Int32 => (f 9).toInt) (p6.2.2.2.2.1 39 (by omega))
  have e39_14_g5 : (g5 39 14).toInt = (h 39 14).toInt := congrArg (fun f : Nat → Int32 => (f 14).toInt) (p6.2.2.2.2.1 39 (by omega))
  have e23_2_g5 : (g5 23 2).toInt = (h 23 2).toInt := congrArg (fun f : Nat → Int32 => (f 2).toInt) (p6.2.2.2.2.1 23 (by omega))
  have e23_4_g5 : (g5 23 4).toInt = (h 23 4).toInt := congrArg (fun f : Nat → Int32 => (f 4).toInt) (p6.2.2.2.2.1 23 (by omega))
  have w22_g5 : g5 22 = h 22 := p6.2.2.2.2.1 22 (by omega)
  have w24_g5 : g5 24 = h 24 := p6.2.2.2.2.1 24 (by omega)
  have w42_g5 : g5 42 = h 42 := p6.2.2.2.2.1 42 (by omega)
  have w44_g5 : g5 44 = h 44 := p6.2.2.2.2.1 44 (by omega)
  have e44_g5 : g5 44 = h 44 := w44_g5
  have e9_g5 : (g5 39 9).toInt = (h 39 9).toInt := e39_9_g5
  show (r1 = r4 → (qm_PA X 239 18 [(0, .ref 130), (1, .ref 0), (2, .ref 39), (3, .int (l3 + 5))] [] g5 Q)) ∧ (¬ r1 = r4 → (((0 : Int32) = 0 ∨ (0 : Int32) = 1) ∧ Q (some (.int 0)) g5))
  refine ⟨fun c17 => ?_, fun c18 => ?_⟩
  · exact ih g5 ⟨k8, k9, k10, k11, p6.1, p6.2.1, p6.2.2.1, p6.2.2.2.1, k12, k13⟩
  · exact absurd (Int32.toInt_inj.mp (o3.trans ((congrArg (qQuarrel (X.2 (l3 + 1).toInt.toNat).toInt) hmmm.1.1).trans (o16).symm)) : r1 = r4) (by assumption)
set_option maxRecDepth 100000 in
set_option maxHeartbeats 4000000 in
theorem lw_t826 (X : qm_X) (h : qm_H) (l3 : Int32) (Q : qm_Q) (hX : X.1 ≤ 320) (hi : 0 ≤ l3.toInt ∧ l3.toInt + 5 ≤ X.1) (hp : mq 1 h ∧ mq 8 h ∧ mq 15 h ∧ sq h ∧ mi h ∧ sm h ∧ zs h ∧ rw_ h ∧ tp h ∧ mm h) (ih : ∀ g : qm_H, (mq 1 g ∧ mq 8 g ∧ mq 15 g ∧ sq g ∧ mi g ∧ sm g ∧ zs g ∧ rw_ g ∧ tp g ∧ mm g) → qm_PA X 239 18 [(0, .ref 130), (1, .ref 0), (2, .ref 39), (3, .int (l3 + 5))] [] g Q) : qm_PA X 239 826 [(0, .ref 130), (1, .ref 0), (2, .ref 39), (3, .int l3)] [] h Q := by
  have hm1 : mq 1 h := hp.1
  have hm8 : mq 8 h := hp.2.1
  have hm15 : mq 15 h := hp.2.2.1
  have hmsq : sq h := hp.2.2.2.1
  have hmmi : mi h := hp.2.2.2.2.1
  have hmsm : sm h := hp.2.2.2.2.2.1
  have hmzs : zs h := hp.2.2.2.2.2.2.1
  have hmrw : rw_ h := hp.2.2.2.2.2.2.2.1
  have hmtp : tp h := hp.2.2.2.2.2.2.2.2.1
  have hmmm : mm h := hp.2.2.2.2.2.2.2.2.2
  refine qm_seg_okw (C := qk_826 ++ qk_1278) (rt := some .boolean) qkw_826 rfl (cuts := [(18, [0, 1, 2, 3])]) 1500 _ _ _ _ ?_
  show (0 ≤ (l3 + 1).toInt ∧ (l3 + 1).toInt < (X.1 : Int)) ∧ ((0 ≤ (l3 + 2).toInt ∧ (l3 + 2).toInt < (X.1 : Int)) ∧ ((0 ≤ (l3 + 3).toInt ∧ (l3 + 3).toInt < (X.1 : Int)) ∧ (qm_PW X 116 [.ref 0, .int (X.2 (l3 + 1).toInt.toNat), .int (X.2 (l3 + 2).toInt.toNat), .int (X.2 (l3 + 3).toInt.toNat)] h _)))
  refine ⟨(by have := ti_addK l3 (1 : Int32) 1 rfl; omega), ?_⟩
  refine ⟨(by have := ti_addK l3 (2 : Int32) 2 rfl; omega), ?_⟩
  refine ⟨(by have := ti_addK l3 (3 : Int32) 3 rfl; omega), ?_⟩
  refine sf_116_0 X h (X.2 (l3 + 1).toInt.toNat) (X.2 (l3 + 2).toInt.toNat) (X.2 (l3 + 3).toInt.toNat) hm1 _ (fun r1 p2 => ?_)
  show (0 ≤ (l3 + 1).toInt ∧ (l3 + 1).toInt < (X.1 : Int)) ∧ ((0 ≤ (l3 + 2).toInt ∧ (l3 + 2).toInt < (X.1 : Int)) ∧ ((0 ≤ (l3 + 3).toInt ∧ (l3 + 3).toInt < (X.1 : Int)) ∧ (qm_PW X 222 [.ref 39, .int (X.2 (l3 + 1).toInt.toNat), .int (X.2 (l3 + 2).toInt.toNat), .int (X.2 (l3 + 3).toInt.toNat)] h _)))
  refine ⟨(by have := ti_addK l3 (1 : Int32) 1 rfl; omega), ?_⟩
  refine ⟨(by have := ti_addK l3 (2 : Int32) 2 rfl; omega), ?_⟩
  refine ⟨(by have := ti_addK l3 (3 : Int32) 3 rfl; omega), ?_⟩
  refine sf_222_39 X h (X.2 (l3 + 1).toInt.toNat) (X.2 (l3 + 2).toInt.toNat) (X.2 (l3 + 3).toInt.toNat) ⟨hmmi, hmsm, hmzs, hmrw⟩ _ (fun r3 g4 p5 => ?_)
  have f6 : ∀ k, (k < 0 ∨ 50 < k) → g4 k = h k := fun k hk => (p5.2.2.2.2 k (by omega)).trans (rfl)
  have k7 : mq 1 g4 := by unfold mq; rw [p5.2.2.2.2 1 (by omega)]; exact hm1
  have k8 : mq 8 g4 := by unfold mq; rw [p5.2.2.2.2 8 (by omega)]; exact hm8
  have k9 : mq 15 g4 := by unfold mq; rw [p5.2.2.2.2 15 (by omega)]; exact hm15
  have k10 : sq g4 := by unfold sq; rw [p5.2.2.2.2 37 (by omega)]; exact hmsq
  have k11 : tp g4 := by unfold tp; rw [p5.2.2.2.2 23 (by omega)]; rw [p5.2.2.2.2 24 (by omega)]; rw [p5.2.2.2.2 39 (by omega)]; rw [p5.2.2.2.2 44 (by omega)]; exact hmtp
  have k12 : mm g4 := mm_keep hmmm (fun k h1 h2 => p5.2.2.2.2 k (by omega)) (fun k h1 h2 => p5.2.2.2.2 k (by omega)) (congrFun (p5.2.2.2.2 39 (by omega)) 3) (p5.2.2.2.2 40 (by omega)) (p5.2.2.2.2 42 (by omega)) (fun k h1 h2 => p5.2.2.2.2 k (by omega))
  have k13 : wc g4 := wf_tr2 (show wc h from hmmm.1.2) (mC_of (fun k h1 h2 => p5.2.2.2.2 k (by omega)))
  have k14 : wr g4 := wf_tr2 (show wr h from wf_tr2 hmmm.1.2 hmmm.1.1.symm) (mR_of (congrFun (p5.2.2.2.2 39 (by omega)) 3) (p5.2.2.2.2 40 (by omega)))
  have e39_9_g4 : (g4 39 9).toInt = (h 39 9).toInt := congrArg (fun f : Nat → Int32 => (f 9).toInt) (p5.2.2.2.2 39 (by omega))
  have e39_14_g4 : (g4 39 14).toInt = (h 39 14).toInt := congrArg (fun f : Nat → Int32 => (f 14).toInt) (p5.2.2.2.2 39 (by omega))
  have e23_2_g4 : (g4 23 2).toInt = (h 23 2).toInt := congrArg (fun f : Nat → Int32 => (f 2).toInt) (p5.2.2.2.2 23 (by omega))
  have e23_4_g4 : (g4 23 4).toInt = (h 23 4).toInt := congrArg (fun f : Nat → Int32 => (f 4).toInt) (p5.2.2.2.2 23 (by omega))
  have w22_g4 : g4 22 = h 22 := p5.2.2.2.2 22 (by omega)
  have w24_g4 : g4 24 = h 24 := p5.2.2.2.2 24 (by omega)
  have w42_g4 : g4 42 = h 42 := p5.2.2.2.2 42 (by omega)
  have w44_g4 : g4 44 = h 44 := p5.2.2.2.2 44 (by omega)
  have e44_g4 : g4 44 = h 44 := w44_g4
  have e9_g4 : (g4 39 9).toInt = (h 39 9).toInt := e39_9_g4
  show qm_PA X 239 18 [(0, .ref 130), (1, .ref 0), (2, .ref 39), (3, .int (l3 + 5))] [] g4 Q
  exact ih g4 ⟨k7, k8, k9, k10, p5.1, p5.2.1, p5.2.2.1, p5.2.2.2.1, k11, k12⟩
set_option maxRecDepth 100000 in
set_option maxHeartbeats 4000000 in
theorem lw_t869 (X : qm_X) (h : qm_H) (l3 : Int32) (Q : qm_Q) (hX : X.1 ≤ 320) (hi : 0 ≤ l3.toInt ∧ l3.toInt + 5 ≤ X.1) (hp : mq 1 h ∧ mq 8 h ∧ mq 15 h ∧ sq h ∧ mi h ∧ sm h ∧ zs h ∧ rw_ h ∧ tp h ∧ mm h) (ih : ∀ g : qm_H, (mq 1 g ∧ mq 8 g ∧ mq 15 g ∧ sq g ∧ mi g ∧ sm g ∧ zs g ∧ rw_ g ∧ tp g ∧ mm g) → qm_PA X 239 18 [(0, .ref 130), (1, .ref 0), (2, .ref 39), (3, .int (l3 + 5))] [] g Q) : qm_PA X 239 869 [(0, .ref 130), (1, .ref 0), (2, .ref 39), (3, .int l3)] [] h Q := by
  have hm1 : mq 1 h := hp.1
  have hm8 : mq 8 h := hp.2.1
  have hm15 : mq 15 h := hp.2.2.1
  have hmsq : sq h := hp.2.2.2.1
  have hmmi : mi h := hp.2.2.2.2.1
  have hmsm : sm h := hp.2.2.2.2.2.1
  have hmzs : zs h := hp.2.2.2.2.2.2.1
  have hmrw : rw_ h := hp.2.2.2.2.2.2.2.1
  have hmtp : tp h := hp.2.2.2.2.2.2.2.2.1
  have hmmm : mm h := hp.2.2.2.2.2.2.2.2.2
  refine qm_seg_okw (C := qk_869 ++ qk_1278) (rt := some .boolean) qkw_869 rfl (cuts := [(18, [0, 1, 2, 3])]) 1500 _ _ _ _ ?_
  show (0 ≤ (l3 + 1).toInt ∧ (l3 + 1).toInt < (X.1 : Int)) ∧ ((0 ≤ (l3 + 2).toInt ∧ (l3 + 2).toInt < (X.1 : Int)) ∧ (qm_PW X 117 [.ref 0, .int (X.2 (l3 + 1).toInt.toNat), .int (X.2 (l3 + 2).toInt.toNat)] h _))
  refine ⟨(by have := ti_addK l3 (1 : Int32) 1 rfl; omega), ?_⟩
  refine ⟨(by have := ti_addK l3 (2 : Int32) 2 rfl; omega), ?_⟩
  refine sf_117_0 X h (X.2 (l3 + 1).toInt.toNat) (X.2 (l3 + 2).toInt.toNat) hm1 _ (fun r1 p2 => ?_)
  show (0 ≤ (l3 + 1).toInt ∧ (l3 + 1).toInt < (X.1 : Int)) ∧ ((0 ≤ (l3 + 2).toInt ∧ (l3 + 2).toInt < (X.1 : Int)) ∧ (qm_PW X 223 [.ref 39, .int (X.2 (l3 + 1).toInt.toNat), .int (X.2 (l3 + 2).toInt.toNat)] h _))
  refine ⟨(by have := ti_addK l3 (1 : Int32) 1 rfl; omega), ?_⟩
  refine ⟨(by have := ti_addK l3 (2 : Int32) 2 rfl; omega), ?_⟩
  refine sf_223_39 X h (X.2 (l3 + 1).toInt.toNat) (X.2 (l3 + 2).toInt.toNat) ⟨hmmi, hmsm, hmzs, hmrw⟩ _ (fun r3 g4 p5 => ?_)
  have f6 : ∀ k, (k < 0 ∨ 50 < k) → g4 k = h k := fun k hk => (p5.2.2.2.2 k (by omega)).trans (rfl)
  have k7 : mq 1 g4 := by unfold mq; rw [p5.2.2.2.2 1 (by omega)]; exact hm1
  have k8 : mq 8 g4 := by unfold mq; rw [p5.2.2.2.2 8 (by omega)]; exact hm8
  have k9 : mq 15 g4 := by unfold mq; rw [p5.2.2.2.2 15 (by omega)]; exact hm15
  have k10 : sq g4 := by unfold sq; rw [p5.2.2.2.2 37 (by omega)]; exact hmsq
  have k11 : tp g4 := by unfold tp; rw [p5.2.2.2.2 23 (by omega)]; rw [p5.2.2.2.2 24 (by omega)]; rw [p5.2.2.2.2 39 (by omega)]; rw [p5.2.2.2.2 44 (by omega)]; exact hmtp
  have k12 : mm g4 := mm_keep hmmm (fun k h1 h2 => p5.2.2.2.2 k (by omega)) (fun k h1 h2 => p5.2.2.2.2 k (by omega)) (congrFun (p5.2.2.2.2 39 (by omega)) 3) (p5.2.2.2.2 40 (by omega)) (p5.2.2.2.2 42 (by omega)) (fun k h1 h2 => p5.2.2.2.2 k (by omega))
  have k13 : wc g4 := wf_tr2 (show wc h from hmmm.1.2) (mC_of (fun k h1 h2 => p5.2.2.2.2 k (by omega)))
  have k14 : wr g4 := wf_tr2 (show wr h from wf_tr2 hmmm.1.2 hmmm.1.1.symm) (mR_of (congrFun (p5.2.2.2.2 39 (by omega)) 3) (p5.2.2.2.2 40 (by omega)))
  have e39_9_g4 : (g4 39 9).toInt = (h 39 9).toInt := congrArg (fun f : Nat → Int32 => (f 9).toInt) (p5.2.2.2.2 39 (by omega))
  have e39_14_g4 : (g4 39 14).toInt = (h 39 14).toInt := congrArg (fun f : Nat → Int32 => (f 14).toInt) (p5.2.2.2.2 39 (by omega))
  have e23_2_g4 : (g4 23 2).toInt = (h 23 2).toInt := congrArg (fun f : Nat → Int32 => (f 2).toInt) (p5.2.2.2.2 23 (by omega))
  have e23_4_g4 : (g4 23 4).toInt = (h 23 4).toInt := congrArg (fun f : Nat → Int32 => (f 4).toInt) (p5.2.2.2.2 23 (by omega))
  have w22_g4 : g4 22 = h 22 := p5.2.2.2.2 22 (by omega)
  have w24_g4 : g4 24 = h 24 := p5.2.2.2.2 24 (by omega)
  have w42_g4 : g4 42 = h 42 := p5.2.2.2.2 42 (by omega)
  have w44_g4 : g4 44 = h 44 := p5.2.2.2.2 44 (by omega)
  have e44_g4 : g4 44 = h 44 := w44_g4
  have e9_g4 : (g4 39 9).toInt = (h 39 9).toInt := e39_9_g4
  show qm_PA X 239 18 [(0, .ref 130), (1, .ref 0), (2, .ref 39), (3, .int (l3 + 5))] [] g4 Q
  exact ih g4 ⟨k7, k8, k9, k10, p5.1, p5.2.1, p5.2.2.1, p5.2.2.2.1, k11, k12⟩
set_option maxRecDepth 100000 in
set_option maxHeartbeats 4000000 in
theorem lw_t902 (X : qm_X) (h : qm_H) (l3 : Int32) (Q : qm_Q) (hX : X.1 ≤ 320) (hi : 0 ≤ l3.toInt ∧ l3.toInt + 5 ≤ X.1) (hp : mq 1 h ∧ mq 8 h ∧ mq 15 h ∧ sq h ∧ mi h ∧ sm h ∧ zs h ∧ rw_ h ∧ tp h ∧ mm h) (ih : ∀ g : qm_H, (mq 1 g ∧ mq 8 g ∧ mq 15 g ∧ sq g ∧ mi g ∧ sm g ∧ zs g ∧ rw_ g ∧ tp g ∧ mm g) → qm_PA X 239 18 [(0, .ref 130), (1, .ref 0), (2, .ref 39), (3, .int (l3 + 5))] [] g Q) : qm_PA X 239 902 [(0, .ref 130), (1, .ref 0), (2, .ref 39), (3, .int l3)] [] h Q := by
  have hm1 : mq 1 h := hp.1
  have hm8 : mq 8 h := hp.2.1
  have hm15 : mq 15 h := hp.2.2.1
  have hmsq : sq h := hp.2.2.2.1
  have hmmi : mi h := hp.2.2.2.2.1
  have hmsm : sm h := hp.2.2.2.2.2.1
  have hmzs : zs h := hp.2.2.2.2.2.2.1
  have hmrw : rw_ h := hp.2.2.2.2.2.2.2.1
  have hmtp : tp h := hp.2.2.2.2.2.2.2.2.1
  have hmmm : mm h := hp.2.2.2.2.2.2.2.2.2
  refine qm_seg_okw (C := qk_902 ++ qk_1278) (rt := some .boolean) qkw_902 rfl (cuts := [(18, [0, 1, 2, 3])]) 1500 _ _ _ _ ?_
  show (0 ≤ (l3 + 1).toInt ∧ (l3 + 1).toInt < (X.1 : Int)) ∧ ((0 ≤ (l3 + 2).toInt ∧ (l3 + 2).toInt < (X.1 : Int)) ∧ (qm_PW X 118 [.ref 0, .int (X.2 (l3 + 1).toInt.toNat), .int (X.2 (l3 + 2).toInt.toNat)] h _))
  refine ⟨(by have := ti_addK l3 (1 : Int32) 1 rfl; omega), ?_⟩
  refine ⟨(by have := ti_addK l3 (2 : Int32) 2 rfl; omega), ?_⟩
  refine sf_118_0 X h (X.2 (l3 + 1).toInt.toNat) (X.2 (l3 + 2).toInt.toNat) hm1 _ (fun r1 p2 => ?_)
  show (0 ≤ (l3 + 1).toInt ∧ (l3 + 1).toInt < (X.1 : Int)) ∧ ((0 ≤ (l3 + 2).toInt ∧ (l3 + 2).toInt < (X.1 : Int)) ∧ (qm_PW X 224 [.ref 39, .int (X.2 (l3 + 1).toInt.toNat), .int (X.2 (l3 + 2).toInt.toNat)] h _))
  refine ⟨(by have := ti_addK l3 (1 : Int32) 1 rfl; omega), ?_⟩
  refine ⟨(by have := ti_addK l3 (2 : Int32) 2 rfl; omega), ?_⟩
  refine sf_224_39 X h (X.2 (l3 + 1).toInt.toNat) (X.2 (l3 + 2).toInt.toNat) ⟨hmmi, hmsm, hmzs, hmrw⟩ _ (fun r3 g4 p5 => ?_)
  have f6 : ∀ k, (k < 0 ∨ 50 < k) → g4 k = h k := fun k hk => (p5.2.2.2.2 k (by omega)).trans (rfl)
  have k7 : mq 1 g4 := by unfold mq; rw [p5.2.2.2.2 1 (by omega)]; exact hm1
  have k8 : mq 8 g4 := by unfold mq; rw [p5.2.2.2.2 8 (by omega)]; exact hm8
  have k9 : mq 15 g4 := by unfold mq; rw [p5.2.2.2.2 15 (by omega)]; exact hm15
  have k10 : sq g4 := by unfold sq; rw [p5.2.2.2.2 37 (by omega)]; exact hmsq
  have k11 : tp g4 := by unfold tp; rw [p5.2.2.2.2 23 (by omega)]; rw [p5.2.2.2.2 24 (by omega)]; rw [p5.2.2.2.2 39 (by omega)]; rw [p5.2.2.2.2 44 (by omega)]; exact hmtp
  have k12 : mm g4 := mm_keep hmmm (fun k h1 h2 => p5.2.2.2.2 k (by omega)) (fun k h1 h2 => p5.2.2.2.2 k (by omega)) (congrFun (p5.2.2.2.2 39 (by omega)) 3) (p5.2.2.2.2 40 (by omega)) (p5.2.2.2.2 42 (by omega)) (fun k h1 h2 => p5.2.2.2.2 k (by omega))
  have k13 : wc g4 := wf_tr2 (show wc h from hmmm.1.2) (mC_of (fun k h1 h2 => p5.2.2.2.2 k (by omega)))
  have k14 : wr g4 := wf_tr2 (show wr h from wf_tr2 hmmm.1.2 hmmm.1.1.symm) (mR_of (congrFun (p5.2.2.2.2 39 (by omega)) 3) (p5.2.2.2.2 40 (by omega)))
  have e39_9_g4 : (g4 39 9).toInt = (h 39 9).toInt := congrArg (fun f : Nat → Int32 => (f 9).toInt) (p5.2.2.2.2 39 (by omega))
  have e39_14_g4 : (g4 39 14).toInt = (h 39 14).toInt := congrArg (fun f : Nat → Int32 => (f 14).toInt) (p5.2.2.2.2 39 (by omega))
  have e23_2_g4 : (g4 23 2).toInt = (h 23 2).toInt := congrArg (fun f : Nat → Int32 => (f 2).toInt) (p5.2.2.2.2 23 (by omega))
  have e23_4_g4 : (g4 23 4).toInt = (h 23 4).toInt := congrArg (fun f : Nat → Int32 => (f 4).toInt) (p5.2.2.2.2 23 (by omega))
  have w22_g4 : g4 22 = h 22 := p5.2.2.2.2 22 (by omega)
  have w24_g4 : g4 24 = h 24 := p5.2.2.2.2 24 (by omega)
  have w42_g4 : g4 42 = h 42 := p5.2.2.2.2 42 (by omega)
  have w44_g4 : g4 44 = h 44 := p5.2.2.2.2 44 (by omega)
  have e44_g4 : g4 44 = h 44 := w44_g4
  have e9_g4 : (g4 39 9).toInt = (h 39 9).toInt := e39_9_g4
  show qm_PA X 239 18 [(0, .ref 130), (1, .ref 0), (2, .ref 39), (3, .int (l3 + 5))] [] g4 Q
  exact ih g4 ⟨k7, k8, k9, k10, p5.1, p5.2.1, p5.2.2.1, p5.2.2.2.1, k11, k12⟩
set_option maxRecDepth 100000 in
set_option maxHeartbeats 4000000 in
theorem lw_t935 (X : qm_X) (h : qm_H) (l3 : Int32) (Q : qm_Q) (hX : X.1 ≤ 320) (hi : 0 ≤ l3.toInt ∧ l3.toInt + 5 ≤ X.1) (hp : mq 1 h ∧ mq 8 h ∧ mq 15 h ∧ sq h ∧ mi h ∧ sm h ∧ zs h ∧ rw_ h ∧ tp h ∧ mm h) (ih : ∀ g : qm_H, (mq 1 g ∧ mq 8 g ∧ mq 15 g ∧ sq g ∧ mi g ∧ sm g ∧ zs g ∧ rw_ g ∧ tp g ∧ mm g) → qm_PA X 239 18 [(0, .ref 130), (1, .ref 0), (2, .ref 39), (3, .int (l3 + 5))] [] g Q) : qm_PA X 239 935 [(0, .ref 130), (1, .ref 0), (2, .ref 39), (3, .int l3)] [] h Q := by
  have hm1 : mq 1 h := hp.1
  have hm8 : mq 8 h := hp.2.1
  have hm15 : mq 15 h := hp.2.2.1
  have hmsq : sq h := hp.2.2.2.1
  have hmmi : mi h := hp.2.2.2.2.1
  have hmsm : sm h := hp.2.2.2.2.2.1
  have hmzs : zs h := hp.2.2.2.2.2.2.1
  have hmrw : rw_ h := hp.2.2.2.2.2.2.2.1
  have hmtp : tp h := hp.2.2.2.2.2.2.2.2.1
  have hmmm : mm h := hp.2.2.2.2.2.2.2.2.2
  have hrt0 : (h 23 2).toInt = (h 39 9).toInt := hmtp.1
  have hbt : bt (h 44) (h 39 9).toInt := hmtp.2.2
  have ⟨⟨_, _⟩, ⟨_, _⟩, ⟨_, _⟩, ⟨_, _⟩, _, _⟩ := hmmi
  refine qm_seg_okw (C := qk_935 ++ qk_1278) (rt := some .boolean) qkw_935 rfl (cuts := [(18, [0, 1, 2, 3])]) 1500 _ _ _ _ ?_
  show (0 ≤ (l3 + 1).toInt ∧ (l3 + 1).toInt < (X.1 : Int)) ∧ ((0 ≤ (l3 + 2).toInt ∧ (l3 + 2).toInt < (X.1 : Int)) ∧ (qm_PW X 119 [.ref 0, .int (X.2 (l3 + 1).toInt.toNat), .int (X.2 (l3 + 2).toInt.toNat)] h _))
  refine ⟨(by have := ti_addK l3 (1 : Int32) 1 rfl; omega), ?_⟩
  refine ⟨(by have := ti_addK l3 (2 : Int32) 2 rfl; omega), ?_⟩
  refine ty_119 X h (X.2 (l3 + 1).toInt.toNat) (X.2 (l3 + 2).toInt.toNat) ⟨hm1, hm8, hm15, hmsq⟩ _ (fun r1 g2 p3 => ?_)
  have f4 : ∀ k, (k < 0 ∨ 50 < k) → g2 k = h k := fun k hk => (p3.2.2.2.2.1 k (by omega)).trans (rfl)
  have k5 : mi g2 := by unfold mi; rw [p3.2.2.2.2.1 39 (by omega)]; exact hmmi
  have k6 : sm g2 := by unfold sm; rw [p3.2.2.2.2.1 40 (by omega)]; exact hmsm
  have k7 : zs g2 := by unfold zs; rw [p3.2.2.2.2.1 49 (by omega)]; exact hmzs
  have k8 : rw_ g2 := by unfold rw_; rw [p3.2.2.2.2.1 46 (by omega)]; exact hmrw
  have k9 : tp g2 := by unfold tp; rw [p3.2.2.2.2.1 23 (by omega)]; rw [p3.2.2.2.2.1 24 (by omega)]; rw [p3.2.2.2.2.1 39 (by omega)]; rw [p3.2.2.2.2.1 44 (by omega)]; exact hmtp
  have k10 : wr g2 := wf_tr2 (show wr h from wf_tr2 hmmm.1.2 hmmm.1.1.symm) (mR_of (congrFun (p3.2.2.2.2.1 39 (by omega)) 3) (p3.2.2.2.2.1 40 (by omega)))
  have o11 : r1.toInt = (opSee (X.2 (l3 + 1).toInt.toNat) (X.2 (l3 + 2).toInt.toNat) (mC h)).1 ∧ mC g2 = (opSee (X.2 (l3 + 1).toInt.toNat) (X.2 (l3 + 2).toInt.toNat) (mC h)).2 := p3.2.2.2.2.2
  have e39_9_g2 : (g2 39 9).toInt = (h 39 9).toInt := congrArg (fun f : Nat → Int32 => (f 9).toInt) (p3.2.2.2.2.1 39 (by omega))
  have e39_14_g2 : (g2 39 14).toInt = (h 39 14).toInt := congrArg (fun f : Nat → Int32 => (f 14).toInt) (p3.2.2.2.2.1 39 (by omega))
  have e23_2_g2 : (g2 23 2).toInt = (h 23 2).toInt := congrArg (fun f : Nat → Int32 => (f 2).toInt) (p3.2.2.2.2.1 23 (by omega))
  have e23_4_g2 : (g2 23 4).toInt = (h 23 4).toInt := congrArg (fun f : Nat → Int32 => (f 4).toInt) (p3.2.2.2.2.1 23 (by omega))
  have w22_g2 : g2 22 = h 22 := p3.2.2.2.2.1 22 (by omega)
  have w24_g2 : g2 24 = h 24 := p3.2.2.2.2.1 24 (by omega)
  have w42_g2 : g2 42 = h 42 := p3.2.2.2.2.1 42 (by omega)
  have w44_g2 : g2 44 = h 44 := p3.2.2.2.2.1 44 (by omega)
  have e44_g2 : g2 44 = h 44 := w44_g2
  have e9_g2 : (g2 39 9).toInt = (h 39 9).toInt := e39_9_g2
  show (0 ≤ (l3 + 1).toInt ∧ (l3 + 1).toInt < (X.1 : Int)) ∧ ((0 ≤ (l3 + 2).toInt ∧ (l3 + 2).toInt < (X.1 : Int)) ∧ (qm_PW X 225 [.ref 39, .int (X.2 (l3 + 1).toInt.toNat), .int (X.2 (l3 + 2).toInt.toNat)] g2 _))
  refine ⟨(by have := ti_addK l3 (1 : Int32) 1 rfl; have := ti_addK l3 (2 : Int32) 2 rfl; omega), ?_⟩
  refine ⟨(by have := ti_addK l3 (2 : Int32) 2 rfl; have := ti_addK l3 (1 : Int32) 1 rfl; omega), ?_⟩
  refine ty_225 X g2 (X.2 (l3 + 1).toInt.toNat) (X.2 (l3 + 2).toInt.toNat) ⟨k5, k6, k7, k8⟩ _ (fun r12 g13 p14 => ?_)
  have f15 : ∀ k, (k < 0 ∨ 50 < k) → g13 k = h k := fun k hk => (p14.2.2.2.2.1 k (by omega)).trans (f4 k hk)
  have k16 : mq 1 g13 := by unfold mq; rw [p14.2.2.2.2.1 1 (by omega)]; exact p3.1
  have k17 : mq 8 g13 := by unfold mq; rw [p14.2.2.2.2.1 8 (by omega)]; exact p3.2.1
  have k18 : mq 15 g13 := by unfold mq; rw [p14.2.2.2.2.1 15 (by omega)]; exact p3.2.2.1
  have k19 : sq g13 := by unfold sq; rw [p14.2.2.2.2.1 37 (by omega)]; exact p3.2.2.2.1
  have k20 : tp g13 := by unfold tp; rw [p14.2.2.2.2.1 23 (by omega)]; rw [p14.2.2.2.2.1 24 (by omega)]; rw [p14.2.2.2.2.1 39 (by omega)]; rw [p14.2.2.2.2.1 44 (by omega)]; exact k9
  have o21 : (wfM (mR g2) → r12.toInt = (opSee (X.2 (l3 + 1).toInt.toNat) (X.2 (l3 + 2).toInt.toNat) (mR g2)).1 ∧ mR g13 = (opSee (X.2 (l3 + 1).toInt.toNat) (X.2 (l3 + 2).toInt.toNat) (mR g2)).2) ∧ (∀ j : Nat, 49 ≤ j → (g13 40) j = (g2 40) j) := p14.2.2.2.2.2
  have e39_9_g13 : (g13 39 9).toInt = (g2 39 9).toInt := congrArg (fun f : Nat → Int32 => (f 9).toInt) (p14.2.2.2.2.1 39 (by omega))
  have e39_14_g13 : (g13 39 14).toInt = (g2 39 14).toInt := congrArg (fun f : Nat → Int32 => (f 14).toInt) (p14.2.2.2.2.1 39 (by omega))
  have e23_2_g13 : (g13 23 2).toInt = (g2 23 2).toInt := congrArg (fun f : Nat → Int32 => (f 2).toInt) (p14.2.2.2.2.1 23 (by omega))
  have e23_4_g13 : (g13 23 4).toInt = (g2 23 4).toInt := congrArg (fun f : Nat → Int32 => (f 4).toInt) (p14.2.2.2.2.1 23 (by omega))
  have w22_g13 : g13 22 = g2 22 := p14.2.2.2.2.1 22 (by omega)
  have w24_g13 : g13 24 = g2 24 := p14.2.2.2.2.1 24 (by omega)
  have w42_g13 : g13 42 = g2 42 := p14.2.2.2.2.1 42 (by omega)
  have w44_g13 : g13 44 = g2 44 := p14.2.2.2.2.1 44 (by omega)
  show qm_PA X 239 18 [(0, .ref 130), (1, .ref 0), (2, .ref 39), (3, .int (l3 + 5))] [] g13 Q
  exact ih g13 ⟨k16, k17, k18, k19, p14.1, p14.2.1, p14.2.2.1, p14.2.2.2.1, k20, (by exact (mm_op (opSee (X.2 (l3 + 1).toInt.toNat) (X.2 (l3 + 2).toInt.toNat)) (fun M w => wf_see w) hmmm o11 o21 (fun i hi => p3.2.2.2.2.1 i (by omega)) (fun i hi => p14.2.2.2.2.1 i (by omega)) (fun i hi => p14.2.2.2.2.1 i (by omega)) (congrFun (p14.2.2.2.2.1 39 (by omega)) 3)).1)⟩
set_option maxRecDepth 100000 in
set_option maxHeartbeats 4000000 in
theorem lw_t968 (X : qm_X) (h : qm_H) (l3 : Int32) (Q : qm_Q) (hX : X.1 ≤ 320) (hi : 0 ≤ l3.toInt ∧ l3.toInt + 5 ≤ X.1) (hp : mq 1 h ∧ mq 8 h ∧ mq 15 h ∧ sq h ∧ mi h ∧ sm h ∧ zs h ∧ rw_ h ∧ tp h ∧ mm h) (ih : ∀ g : qm_H, (mq 1 g ∧ mq 8 g ∧ mq 15 g ∧ sq g ∧ mi g ∧ sm g ∧ zs g ∧ rw_ g ∧ tp g ∧ mm g) → qm_PA X 239 18 [(0, .ref 130), (1, .ref 0), (2, .ref 39), (3, .int (l3 + 5))] [] g Q) : qm_PA X 239 968 [(0, .ref 130), (1, .ref 0), (2, .ref 39), (3, .int l3)] [] h Q := by
  have hm1 : mq 1 h := hp.1
  have hm8 : mq 8 h := hp.2.1
  have hm15 : mq 15 h := hp.2.2.1
  have hmsq : sq h := hp.2.2.2.1
  have hmmi : mi h := hp.2.2.2.2.1
  have hmsm : sm h := hp.2.2.2.2.2.1
  have hmzs : zs h := hp.2.2.2.2.2.2.1
  have hmrw : rw_ h := hp.2.2.2.2.2.2.2.1
  have hmtp : tp h := hp.2.2.2.2.2.2.2.2.1
  have hmmm : mm h := hp.2.2.2.2.2.2.2.2.2
  have hrt0 : (h 23 2).toInt = (h 39 9).toInt := hmtp.1
  have hbt : bt (h 44) (h 39 9).toInt := hmtp.2.2
  have ⟨⟨_, _⟩, ⟨_, _⟩, ⟨_, _⟩, ⟨_, _⟩, _, _⟩ := hmmi
  refine qm_seg_okw (C := qk_968 ++ qk_1278) (rt := some .boolean) qkw_968 rfl (cuts := [(18, [0, 1, 2, 3])]) 1500 _ _ _ _ ?_
  show (0 ≤ (l3 + 1).toInt ∧ (l3 + 1).toInt < (X.1 : Int)) ∧ (qm_PW X 120 [.ref 0, .int (X.2 (l3 + 1).toInt.toNat)] h _)
  refine ⟨(by have := ti_addK l3 (1 : Int32) 1 rfl; omega), ?_⟩
  refine ty_120 X h (X.2 (l3 + 1).toInt.toNat) ⟨hm1, hm8, hm15, hmsq⟩ _ (fun r1 g2 p3 => ?_)
  have f4 : ∀ k, (k < 0 ∨ 50 < k) → g2 k = h k := fun k hk => (p3.2.2.2.2.1 k (by omega)).trans (rfl)
  have k5 : mi g2 := by unfold mi; rw [p3.2.2.2.2.1 39 (by omega)]; exact hmmi
  have k6 : sm g2 := by unfold sm; rw [p3.2.2.2.2.1 40 (by omega)]; exact hmsm
  have k7 : zs g2 := by unfold zs; rw [p3.2.2.2.2.1 49 (by omega)]; exact hmzs
  have k8 : rw_ g2 := by unfold rw_; rw [p3.2.2.2.2.1 46 (by omega)]; exact hmrw
  have k9 : tp g2 := by unfold tp; rw [p3.2.2.2.2.1 23 (by omega)]; rw [p3.2.2.2.2.1 24 (by omega)]; rw [p3.2.2.2.2.1 39 (by omega)]; rw [p3.2.2.2.2.1 44 (by omega)]; exact hmtp
  have k10 : wr g2 := wf_tr2 (show wr h from wf_tr2 hmmm.1.2 hmmm.1.1.symm) (mR_of (congrFun (p3.2.2.2.2.1 39 (by omega)) 3) (p3.2.2.2.2.1 40 (by omega)))
  have o11 : r1.toInt = (opForget (X.2 (l3 + 1).toInt.toNat) (mC h)).1 ∧ mC g2 = (opForget (X.2 (l3 + 1).toInt.toNat) (mC h)).2 := p3.2.2.2.2.2
  have e39_9_g2 : (g2 39 9).toInt = (h 39 9).toInt := congrArg (fun f : Nat → Int32 => (f 9).toInt) (p3.2.2.2.2.1 39 (by omega))
  have e39_14_g2 : (g2 39 14).toInt = (h 39 14).toInt := congrArg (fun f : Nat → Int32 => (f 14).toInt) (p3.2.2.2.2.1 39 (by omega))
  have e23_2_g2 : (g2 23 2).toInt = (h 23 2).toInt := congrArg (fun f : Nat → Int32 => (f 2).toInt) (p3.2.2.2.2.1 23 (by omega))
  have e23_4_g2 : (g2 23 4).toInt = (h 23 4).toInt := congrArg (fun f : Nat → Int32 => (f 4).toInt) (p3.2.2.2.2.1 23 (by omega))
  have w22_g2 : g2 22 = h 22 := p3.2.2.2.2.1 22 (by omega)
  have w24_g2 : g2 24 = h 24 := p3.2.2.2.2.1 24 (by omega)
  have w42_g2 : g2 42 = h 42 := p3.2.2.2.2.1 42 (by omega)
  have w44_g2 : g2 44 = h 44 := p3.2.2.2.2.1 44 (by omega)
  have e44_g2 : g2 44 = h 44 := w44_g2
  have e9_g2 : (g2 39 9).toInt = (h 39 9).toInt := e39_9_g2
  show (0 ≤ (l3 + 1).toInt ∧ (l3 + 1).toInt < (X.1 : Int)) ∧ (qm_PW X 226 [.ref 39, .int (X.2 (l3 + 1).toInt.toNat)] g2 _)
  refine ⟨(by have := ti_addK l3 (1 : Int32) 1 rfl; omega), ?_⟩
  refine ty_226 X g2 (X.2 (l3 + 1).toInt.toNat) ⟨k5, k6, k7, k8⟩ _ (fun r12 g13 p14 => ?_)
  have f15 : ∀ k, (k < 0 ∨ 50 < k) → g13 k = h k := fun k hk => (p14.2.2.2.2.1 k (by omega)).trans (f4 k hk)
  have k16 : mq 1 g13 := by unfold mq; rw [p14.2.2.2.2.1 1 (by omega)]; exact p3.1
  have k17 : mq 8 g13 := by unfold mq; rw [p14.2.2.2.2.1 8 (by omega)]; exact p3.2.1
  have k18 : mq 15 g13 := by unfold mq; rw [p14.2.2.2.2.1 15 (by omega)]; exact p3.2.2.1
  have k19 : sq g13 := by unfold sq; rw [p14.2.2.2.2.1 37 (by omega)]; exact p3.2.2.2.1
  have k20 : tp g13 := by unfold tp; rw [p14.2.2.2.2.1 23 (by omega)]; rw [p14.2.2.2.2.1 24 (by omega)]; rw [p14.2.2.2.2.1 39 (by omega)]; rw [p14.2.2.2.2.1 44 (by omega)]; exact k9
  have o21 : (wfM (mR g2) → r12.toInt = (opForget (X.2 (l3 + 1).toInt.toNat) (mR g2)).1 ∧ mR g13 = (opForget (X.2 (l3 + 1).toInt.toNat) (mR g2)).2) ∧ (∀ j : Nat, 49 ≤ j → (g13 40) j = (g2 40) j) := p14.2.2.2.2.2
  have e39_9_g13 : (g13 39 9).toInt = (g2 39 9).toInt := congrArg (fun f : Nat → Int32 => (f 9).toInt) (p14.2.2.2.2.1 39 (by omega))
  have e39_14_g13 : (g13 39 14).toInt = (g2 39 14).toInt := congrArg (fun f : Nat → Int32 => (f 14).toInt) (p14.2.2.2.2.1 39 (by omega))
  have e23_2_g13 : (g13 23 2).toInt = (g2 23 2).toInt := congrArg (fun f : Nat → Int32 => (f 2).toInt) (p14.2.2.2.2.1 23 (by omega))
  have e23_4_g13 : (g13 23 4).toInt = (g2 23 4).toInt := congrArg (fun f : Nat → Int32 => (f 4).toInt) (p14.2.2.2.2.1 23 (by omega))
  have w22_g13 : g13 22 = g2 22 := p14.2.2.2.2.1 22 (by omega)
  have w24_g13 : g13 24 = g2 24 := p14.2.2.2.2.1 24 (by omega)
  have w42_g13 : g13 42 = g2 42 := p14.2.2.2.2.1 42 (by omega)
  have w44_g13 : g13 44 = g2 44 := p14.2.2.2.2.1 44 (by omega)
  show qm_PA X 239 18 [(0, .ref 130), (1, .ref 0), (2, .ref 39), (3, .int (l3 + 5))] [] g13 Q
  exact ih g13 ⟨k16, k17, k18, k19, p14.1, p14.2.1, p14.2.2.1, p14.2.2.2.1, k20, (by exact (mm_op (opForget (X.2 (l3 + 1).toInt.toNat)) (fun M w => wf_forget w) hmmm o11 o21 (fun i hi => p3.2.2.2.2.1 i (by omega)) (fun i hi => p14.2.2.2.2.1 i (by omega)) (fun i hi => p14.2.2.2.2.1 i (by omega)) (congrFun (p14.2.2.2.2.1 39 (by omega)) 3)).1)⟩
set_option maxRecDepth 100000 in
set_option maxHeartbeats 4000000 in
theorem lw_t991 (X : qm_X) (h : qm_H) (l3 : Int32) (Q : qm_Q) (hX : X.1 ≤ 320) (hi : 0 ≤ l3.toInt ∧ l3.toInt + 5 ≤ X.1) (hp : mq 1 h ∧ mq 8 h ∧ mq 15 h ∧ sq h ∧ mi h ∧ sm h ∧ zs h ∧ rw_ h ∧ tp h ∧ mm h) (ih : ∀ g : qm_H, (mq 1 g ∧ mq 8 g ∧ mq 15 g ∧ sq g ∧ mi g ∧ sm g ∧ zs g ∧ rw_ g ∧ tp g ∧ mm g) → qm_PA X 239 18 [(0, .ref 130), (1, .ref 0), (2, .ref 39), (3, .int (l3 + 5))] [] g Q) : qm_PA X 239 991 [(0, .ref 130), (1, .ref 0), (2, .ref 39), (3, .int l3)] [] h Q := by
  have hm1 : mq 1 h := hp.1
  have hm8 : mq 8 h := hp.2.1
  have hm15 : mq 15 h := hp.2.2.1
  have hmsq : sq h := hp.2.2.2.1
  have hmmi : mi h := hp.2.2.2.2.1
  have hmsm : sm h := hp.2.2.2.2.2.1
  have hmzs : zs h := hp.2.2.2.2.2.2.1
  have hmrw : rw_ h := hp.2.2.2.2.2.2.2.1
  have hmtp : tp h := hp.2.2.2.2.2.2.2.2.1
  have hmmm : mm h := hp.2.2.2.2.2.2.2.2.2
  refine qm_seg_okw (C := qk_991 ++ qk_1278) (rt := some .boolean) qkw_991 rfl (cuts := [(18, [0, 1, 2, 3])]) 1500 _ _ _ _ ?_
  show (0 ≤ (l3 + 1).toInt ∧ (l3 + 1).toInt < (X.1 : Int)) ∧ (qm_PW X 121 [.ref 0, .int (X.2 (l3 + 1).toInt.toNat)] h _)
  refine ⟨(by have := ti_addK l3 (1 : Int32) 1 rfl; omega), ?_⟩
  refine sf_121_0 X h (X.2 (l3 + 1).toInt.toNat) ⟨hm1, hm8, hm15, hmsq⟩ _ (fun r1 g2 p3 => ?_)
  have f4 : ∀ k, (k < 0 ∨ 50 < k) → g2 k = h k := fun k hk => (p3.2.2.2.2 k (by omega)).trans (rfl)
  have k5 : mi g2 := by unfold mi; rw [p3.2.2.2.2 39 (by omega)]; exact hmmi
  have k6 : sm g2 := by unfold sm; rw [p3.2.2.2.2 40 (by omega)]; exact hmsm
  have k7 : zs g2 := by unfold zs; rw [p3.2.2.2.2 49 (by omega)]; exact hmzs
  have k8 : rw_ g2 := by unfold rw_; rw [p3.2.2.2.2 46 (by omega)]; exact hmrw
  have k9 : tp g2 := by unfold tp; rw [p3.2.2.2.2 23 (by omega)]; rw [p3.2.2.2.2 24 (by omega)]; rw [p3.2.2.2.2 39 (by omega)]; rw [p3.2.2.2.2 44 (by omega)]; exact hmtp
  have k10 : mm g2 := mm_keep hmmm (fun k h1 h2 => p3.2.2.2.2 k (by omega)) (fun k h1 h2 => p3.2.2.2.2 k (by omega)) (congrFun (p3.2.2.2.2 39 (by omega)) 3) (p3.2.2.2.2 40 (by omega)) (p3.2.2.2.2 42 (by omega)) (fun k h1 h2 => p3.2.2.2.2 k (by omega))
  have k11 : wc g2 := wf_tr2 (show wc h from hmmm.1.2) (mC_of (fun k h1 h2 => p3.2.2.2.2 k (by omega)))
  have k12 : wr g2 := wf_tr2 (show wr h from wf_tr2 hmmm.1.2 hmmm.1.1.symm) (mR_of (congrFun (p3.2.2.2.2 39 (by omega)) 3) (p3.2.2.2.2 40 (by omega)))
  have e39_9_g2 : (g2 39 9).toInt = (h 39 9).toInt := congrArg (fun f : Nat → Int32 => (f 9).toInt) (p3.2.2.2.2 39 (by omega))
  have e39_14_g2 : (g2 39 14).toInt = (h 39 14).toInt := congrArg (fun f : Nat → Int32 => (f 14).toInt) (p3.2.2.2.2 39 (by omega))
  have e23_2_g2 : (g2 23 2).toInt = (h 23 2).toInt := congrArg (fun f : Nat → Int32 => (f 2).toInt) (p3.2.2.2.2 23 (by omega))
  have e23_4_g2 : (g2 23 4).toInt = (h 23 4).toInt := congrArg (fun f : Nat → Int32 => (f 4).toInt) (p3.2.2.2.2 23 (by omega))
  have w22_g2 : g2 22 = h 22 := p3.2.2.2.2 22 (by omega)
  have w24_g2 : g2 24 = h 24 := p3.2.2.2.2 24 (by omega)
  have w42_g2 : g2 42 = h 42 := p3.2.2.2.2 42 (by omega)
  have w44_g2 : g2 44 = h 44 := p3.2.2.2.2 44 (by omega)
  have e44_g2 : g2 44 = h 44 := w44_g2
  have e9_g2 : (g2 39 9).toInt = (h 39 9).toInt := e39_9_g2
  show (0 ≤ (l3 + 1).toInt ∧ (l3 + 1).toInt < (X.1 : Int)) ∧ (qm_PW X 228 [.ref 39, .int (X.2 (l3 + 1).toInt.toNat)] g2 _)
  refine ⟨(by have := ti_addK l3 (1 : Int32) 1 rfl; omega), ?_⟩
  refine sf_228_39 X g2 (X.2 (l3 + 1).toInt.toNat) ⟨k5, k6, k7, k8⟩ _ (fun r13 g14 p15 => ?_)
  have f16 : ∀ k, (k < 0 ∨ 50 < k) → g14 k = h k := fun k hk => (p15.2.2.2.2 k (by omega)).trans (f4 k hk)
  have k17 : mq 1 g14 := by unfold mq; rw [p15.2.2.2.2 1 (by omega)]; exact p3.1
  have k18 : mq 8 g14 := by unfold mq; rw [p15.2.2.2.2 8 (by omega)]; exact p3.2.1
  have k19 : mq 15 g14 := by unfold mq; rw [p15.2.2.2.2 15 (by omega)]; exact p3.2.2.1
  have k20 : sq g14 := by unfold sq; rw [p15.2.2.2.2 37 (by omega)]; exact p3.2.2.2.1
  have k21 : tp g14 := by unfold tp; rw [p15.2.2.2.2 23 (by omega)]; rw [p15.2.2.2.2 24 (by omega)]; rw [p15.2.2.2.2 39 (by omega)]; rw [p15.2.2.2.2 44 (by omega)]; exact k9
  have k22 : mm g14 := mm_keep k10 (fun k h1 h2 => p15.2.2.2.2 k (by omega)) (fun k h1 h2 => p15.2.2.2.2 k (by omega)) (congrFun (p15.2.2.2.2 39 (by omega)) 3) (p15.2.2.2.2 40 (by omega)) (p15.2.2.2.2 42 (by omega)) (fun k h1 h2 => p15.2.2.2.2 k (by omega))
  have k23 : wc g14 := wf_tr2 k11 (mC_of (fun k h1 h2 => p15.2.2.2.2 k (by omega)))
  have k24 : wr g14 := wf_tr2 k12 (mR_of (congrFun (p15.2.2.2.2 39 (by omega)) 3) (p15.2.2.2.2 40 (by omega)))
  have e39_9_g14 : (g14 39 9).toInt = (g2 39 9).toInt := congrArg (fun f : Nat → Int32 => (f 9).toInt) (p15.2.2.2.2 39 (by omega))
  have e39_14_g14 : (g14 39 14).toInt = (g2 39 14).toInt := congrArg (fun f : Nat → Int32 => (f 14).toInt) (p15.2.2.2.2 39 (by omega))
  have e23_2_g14 : (g14 23 2).toInt = (g2 23 2).toInt := congrArg (fun f : Nat → Int32 => (f 2).toInt) (p15.2.2.2.2 23 (by omega))
  have e23_4_g14 : (g14 23 4).toInt = (g2 23 4).toInt := congrArg (fun f : Nat → Int32 => (f 4).toInt) (p15.2.2.2.2 23 (by omega))
  have w22_g14 : g14 22 = g2 22 := p15.2.2.2.2 22 (by omega)
  have w24_g14 : g14 24 = g2 24 := p15.2.2.2.2 24 (by omega)
  have w42_g14 : g14 42 = g2 42 := p15.2.2.2.2 42 (by omega)
  have w44_g14 : g14 44 = g2 44 := p15.2.2.2.2 44 (by omega)
  show qm_PA X 239 18 [(0, .ref 130), (1, .ref 0), (2, .ref 39), (3, .int (l3 + 5))] [] g14 Q
  exact ih g14 ⟨k17, k18, k19, k20, p15.1, p15.2.1, p15.2.2.1, p15.2.2.2.1, k21, k22⟩
set_option maxRecDepth 100000 in
set_option maxHeartbeats 4000000 in
theorem lw_t1014 (X : qm_X) (h : qm_H) (l3 : Int32) (Q : qm_Q) (hX : X.1 ≤ 320) (hi : 0 ≤ l3.toInt ∧ l3.toInt + 5 ≤ X.1) (hp : mq 1 h ∧ mq 8 h ∧ mq 15 h ∧ sq h ∧ mi h ∧ sm h ∧ zs h ∧ rw_ h ∧ tp h ∧ mm h) (ih : ∀ g : qm_H, (mq 1 g ∧ mq 8 g ∧ mq 15 g ∧ sq g ∧ mi g ∧ sm g ∧ zs g ∧ rw_ g ∧ tp g ∧ mm g) → qm_PA X 239 18 [(0, .ref 130), (1, .ref 0), (2, .ref 39), (3, .int (l3 + 5))] [] g Q) : qm_PA X 239 1014 [(0, .ref 130), (1, .ref 0), (2, .ref 39), (3, .int l3)] [] h Q := by
  have hm1 : mq 1 h := hp.1
  have hm8 : mq 8 h := hp.2.1
  have hm15 : mq 15 h := hp.2.2.1
  have hmsq : sq h := hp.2.2.2.1
  have hmmi : mi h := hp.2.2.2.2.1
  have hmsm : sm h := hp.2.2.2.2.2.1
  have hmzs : zs h := hp.2.2.2.2.2.2.1
  have hmrw : rw_ h := hp.2.2.2.2.2.2.2.1
  have hmtp : tp h := hp.2.2.2.2.2.2.2.2.1
  have hmmm : mm h := hp.2.2.2.2.2.2.2.2.2
  refine qm_seg_okw (C := qk_1014 ++ qk_1278) (rt := some .boolean) qkw_1014 rfl (cuts := [(18, [0, 1, 2, 3])]) 1500 _ _ _ _ ?_
  show (0 ≤ (l3 + 1).toInt ∧ (l3 + 1).toInt < (X.1 : Int)) ∧ ((0 ≤ (l3 + 2).toInt ∧ (l3 + 2).toInt < (X.1 : Int)) ∧ ((0 ≤ (l3 + 3).toInt ∧ (l3 + 3).toInt < (X.1 : Int)) ∧ (qm_PW X 122 [.ref 0, .int (X.2 (l3 + 1).toInt.toNat), .int (X.2 (l3 + 2).toInt.toNat), .int (X.2 (l3 + 3).toInt.toNat)] h _)))
  refine ⟨(by have := ti_addK l3 (1 : Int32) 1 rfl; omega), ?_⟩
  refine ⟨(by have := ti_addK l3 (2 : Int32) 2 rfl; omega), ?_⟩
  refine ⟨(by have := ti_addK l3 (3 : Int32) 3 rfl; omega), ?_⟩
  refine sf_122_0 X h (X.2 (l3 + 1).toInt.toNat) (X.2 (l3 + 2).toInt.toNat) (X.2 (l3 + 3).toInt.toNat) hm1 _ (fun r1 p2 => ?_)
  show (0 ≤ (l3 + 1).toInt ∧ (l3 + 1).toInt < (X.1 : Int)) ∧ ((0 ≤ (l3 + 2).toInt ∧ (l3 + 2).toInt < (X.1 : Int)) ∧ ((0 ≤ (l3 + 3).toInt ∧ (l3 + 3).toInt < (X.1 : Int)) ∧ (qm_PW X 229 [.ref 39, .int (X.2 (l3 + 1).toInt.toNat), .int (X.2 (l3 + 2).toInt.toNat), .int (X.2 (l3 + 3).toInt.toNat)] h _)))
  refine ⟨(by have := ti_addK l3 (1 : Int32) 1 rfl; omega), ?_⟩
  refine ⟨(by have := ti_addK l3 (2 : Int32) 2 rfl; omega), ?_⟩
  refine ⟨(by have := ti_addK l3 (3 : Int32) 3 rfl; omega), ?_⟩
  refine sf_229_39 X h (X.2 (l3 + 1).toInt.toNat) (X.2 (l3 + 2).toInt.toNat) (X.2 (l3 + 3).toInt.toNat) ⟨hmmi, hmsm, hmzs, hmrw⟩ _ (fun r3 g4 p5 => ?_)
  have f6 : ∀ k, (k < 0 ∨ 50 < k) → g4 k = h k := fun k hk => (p5.2.2.2.2 k (by omega)).trans (rfl)
  have k7 : mq 1 g4 := by unfold mq; rw [p5.2.2.2.2 1 (by omega)]; exact hm1
  have k8 : mq 8 g4 := by unfold mq; rw [p5.2.2.2.2 8 (by omega)]; exact hm8
  have k9 : mq 15 g4 := by unfold mq; rw [p5.2.2.2.2 15 (by omega)]; exact hm15
  have k10 : sq g4 := by unfold sq; rw [p5.2.2.2.2 37 (by omega)]; exact hmsq
  have k11 : tp g4 := by unfold tp; rw [p5.2.2.2.2 23 (by omega)]; rw [p5.2.2.2.2 24 (by omega)]; rw [p5.2.2.2.2 39 (by omega)]; rw [p5.2.2.2.2 44 (by omega)]; exact hmtp
  have k12 : mm g4 := mm_keep hmmm (fun k h1 h2 => p5.2.2.2.2 k (by omega)) (fun k h1 h2 => p5.2.2.2.2 k (by omega)) (congrFun (p5.2.2.2.2 39 (by omega)) 3) (p5.2.2.2.2 40 (by omega)) (p5.2.2.2.2 42 (by omega)) (fun k h1 h2 => p5.2.2.2.2 k (by omega))
  have k13 : wc g4 := wf_tr2 (show wc h from hmmm.1.2) (mC_of (fun k h1 h2 => p5.2.2.2.2 k (by omega)))
  have k14 : wr g4 := wf_tr2 (show wr h from wf_tr2 hmmm.1.2 hmmm.1.1.symm) (mR_of (congrFun (p5.2.2.2.2 39 (by omega)) 3) (p5.2.2.2.2 40 (by omega)))
  have e39_9_g4 : (g4 39 9).toInt = (h 39 9).toInt := congrArg (fun f : Nat → Int32 => (f 9).toInt) (p5.2.2.2.2 39 (by omega))
  have e39_14_g4 : (g4 39 14).toInt = (h 39 14).toInt := congrArg (fun f : Nat → Int32 => (f 14).toInt) (p5.2.2.2.2 39 (by omega))
  have e23_2_g4 : (g4 23 2).toInt = (h 23 2).toInt := congrArg (fun f : Nat → Int32 => (f 2).toInt) (p5.2.2.2.2 23 (by omega))
  have e23_4_g4 : (g4 23 4).toInt = (h 23 4).toInt := congrArg (fun f : Nat → Int32 => (f 4).toInt) (p5.2.2.2.2 23 (by omega))
  have w22_g4 : g4 22 = h 22 := p5.2.2.2.2 22 (by omega)
  have w24_g4 : g4 24 = h 24 := p5.2.2.2.2 24 (by omega)
  have w42_g4 : g4 42 = h 42 := p5.2.2.2.2 42 (by omega)
  have w44_g4 : g4 44 = h 44 := p5.2.2.2.2 44 (by omega)
  have e44_g4 : g4 44 = h 44 := w44_g4
  have e9_g4 : (g4 39 9).toInt = (h 39 9).toInt := e39_9_g4
  show qm_PA X 239 18 [(0, .ref 130), (1, .ref 0), (2, .ref 39), (3, .int (l3 + 5))] [] g4 Q
  exact ih g4 ⟨k7, k8, k9, k10, p5.1, p5.2.1, p5.2.2.1, p5.2.2.2.1, k11, k12⟩
set_option maxRecDepth 100000 in
set_option maxHeartbeats 4000000 in
theorem lw_t1057 (X : qm_X) (h : qm_H) (l3 : Int32) (Q : qm_Q) (hX : X.1 ≤ 320) (hi : 0 ≤ l3.toInt ∧ l3.toInt + 5 ≤ X.1) (hp : mq 1 h ∧ mq 8 h ∧ mq 15 h ∧ sq h ∧ mi h ∧ sm h ∧ zs h ∧ rw_ h ∧ tp h ∧ mm h) (ih : ∀ g : qm_H, (mq 1 g ∧ mq 8 g ∧ mq 15 g ∧ sq g ∧ mi g ∧ sm g ∧ zs g ∧ rw_ g ∧ tp g ∧ mm g) → qm_PA X 239 18 [(0, .ref 130), (1, .ref 0), (2, .ref 39), (3, .int (l3 + 5))] [] g Q) : qm_PA X 239 1057 [(0, .ref 130), (1, .ref 0), (2, .ref 39), (3, .int l3)] [] h Q := by
  have hm1 : mq 1 h := hp.1
  have hm8 : mq 8 h := hp.2.1
  have hm15 : mq 15 h := hp.2.2.1
  have hmsq : sq h := hp.2.2.2.1
  have hmmi : mi h := hp.2.2.2.2.1
  have hmsm : sm h := hp.2.2.2.2.2.1
  have hmzs : zs h := hp.2.2.2.2.2.2.1
  have hmrw : rw_ h := hp.2.2.2.2.2.2.2.1
  have hmtp : tp h := hp.2.2.2.2.2.2.2.2.1
  have hmmm : mm h := hp.2.2.2.2.2.2.2.2.2
  have hrt0 : (h 23 2).toInt = (h 39 9).toInt := hmtp.1
  have hbt : bt (h 44) (h 39 9).toInt := hmtp.2.2
  have ⟨⟨_, _⟩, ⟨_, _⟩, ⟨_, _⟩, ⟨_, _⟩, _, _⟩ := hmmi
  refine qm_seg_okw (C := qk_1057 ++ qk_1278) (rt := some .boolean) qkw_1057 rfl (cuts := [(18, [0, 1, 2, 3])]) 1500 _ _ _ _ ?_
  show (0 ≤ (l3 + 1).toInt ∧ (l3 + 1).toInt < (X.1 : Int)) ∧ (qm_PW X 123 [.ref 0, .int (X.2 (l3 + 1).toInt.toNat)] h _)
  refine ⟨(by have := ti_addK l3 (1 : Int32) 1 rfl; omega), ?_⟩
  refine ty_123 X h (X.2 (l3 + 1).toInt.toNat) ⟨hm1, hm8, hm15, hmsq⟩ _ (fun r1 g2 p3 => ?_)
  have f4 : ∀ k, (k < 0 ∨ 50 < k) → g2 k = h k := fun k hk => (p3.2.2.2.2.1 k (by omega)).trans (rfl)
  have k5 : mi g2 := by unfold mi; rw [p3.2.2.2.2.1 39 (by omega)]; exact hmmi
  have k6 : sm g2 := by unfold sm; rw [p3.2.2.2.2.1 40 (by omega)]; exact hmsm
  have k7 : zs g2 := by unfold zs; rw [p3.2.2.2.2.1 49 (by omega)]; exact hmzs
  have k8 : rw_ g2 := by unfold rw_; rw [p3.2.2.2.2.1 46 (by omega)]; exact hmrw
  have k9 : tp g2 := by unfold tp; rw [p3.2.2.2.2.1 23 (by omega)]; rw [p3.2.2.2.2.1 24 (by omega)]; rw [p3.2.2.2.2.1 39 (by omega)]; rw [p3.2.2.2.2.1 44 (by omega)]; exact hmtp
  have k10 : wc g2 := wf_tr2 (show wc h from hmmm.1.2) (mC_of (fun k h1 h2 => p3.2.2.2.2.1 k (by omega)))
  have k11 : wr g2 := wf_tr2 (show wr h from wf_tr2 hmmm.1.2 hmmm.1.1.symm) (mR_of (congrFun (p3.2.2.2.2.1 39 (by omega)) 3) (p3.2.2.2.2.1 40 (by omega)))
  have o12 : kpQ (X.2 (l3 + 1).toInt.toNat) r1.toInt (h 22) (g2 22) ∧ kmC (X.2 (l3 + 1).toInt.toNat) h g2 := p3.2.2.2.2.2
  have e39_9_g2 : (g2 39 9).toInt = (h 39 9).toInt := congrArg (fun f : Nat → Int32 => (f 9).toInt) (p3.2.2.2.2.1 39 (by omega))
  have e39_14_g2 : (g2 39 14).toInt = (h 39 14).toInt := congrArg (fun f : Nat → Int32 => (f 14).toInt) (p3.2.2.2.2.1 39 (by omega))
  have e23_2_g2 : (g2 23 2).toInt = (h 23 2).toInt := congrArg (fun f : Nat → Int32 => (f 2).toInt) (p3.2.2.2.2.1 23 (by omega))
  have e23_4_g2 : (g2 23 4).toInt = (h 23 4).toInt := congrArg (fun f : Nat → Int32 => (f 4).toInt) (p3.2.2.2.2.1 23 (by omega))
  have w24_g2 : g2 24 = h 24 := p3.2.2.2.2.1 24 (by omega)
  have w42_g2 : g2 42 = h 42 := p3.2.2.2.2.1 42 (by omega)
  have w44_g2 : g2 44 = h 44 := p3.2.2.2.2.1 44 (by omega)
  have e44_g2 : g2 44 = h 44 := w44_g2
  have e9_g2 : (g2 39 9).toInt = (h 39 9).toInt := e39_9_g2
  show (0 ≤ (l3 + 1).toInt ∧ (l3 + 1).toInt < (X.1 : Int)) ∧ (qm_PW X 231 [.ref 39, .int (X.2 (l3 + 1).toInt.toNat)] g2 _)
  refine ⟨(by have := ti_addK l3 (1 : Int32) 1 rfl; omega), ?_⟩
  refine ty_231 X g2 (X.2 (l3 + 1).toInt.toNat) ⟨k5, k6, k7, k8⟩ _ (fun r13 g14 p15 => ?_)
  have f16 : ∀ k, (k < 0 ∨ 50 < k) → g14 k = h k := fun k hk => (p15.2.2.2.2.1 k (by omega)).trans (f4 k hk)
  have k17 : mq 1 g14 := by unfold mq; rw [p15.2.2.2.2.1 1 (by omega)]; exact p3.1
  have k18 : mq 8 g14 := by unfold mq; rw [p15.2.2.2.2.1 8 (by omega)]; exact p3.2.1
  have k19 : mq 15 g14 := by unfold mq; rw [p15.2.2.2.2.1 15 (by omega)]; exact p3.2.2.1
  have k20 : sq g14 := by unfold sq; rw [p15.2.2.2.2.1 37 (by omega)]; exact p3.2.2.2.1
  have k21 : tp g14 := by unfold tp; rw [p15.2.2.2.2.1 23 (by omega)]; rw [p15.2.2.2.2.1 24 (by omega)]; rw [p15.2.2.2.2.1 39 (by omega)]; rw [p15.2.2.2.2.1 44 (by omega)]; exact k9
  have k22 : wc g14 := wf_tr2 k10 (mC_of (fun k h1 h2 => p15.2.2.2.2.1 k (by omega)))
  have o23 : kpQ (X.2 (l3 + 1).toInt.toNat) r13.toInt (g2 42) (g14 42) ∧ kmR (X.2 (l3 + 1).toInt.toNat) g2 g14 ∧ mR g14 = mR g2 := p15.2.2.2.2.2
  have e39_9_g14 : (g14 39 9).toInt = (g2 39 9).toInt := congrArg (fun f : Nat → Int32 => (f 9).toInt) (p15.2.2.2.2.1 39 (by omega))
  have e39_14_g14 : (g14 39 14).toInt = (g2 39 14).toInt := congrArg (fun f : Nat → Int32 => (f 14).toInt) (p15.2.2.2.2.1 39 (by omega))
  have e23_2_g14 : (g14 23 2).toInt = (g2 23 2).toInt := congrArg (fun f : Nat → Int32 => (f 2).toInt) (p15.2.2.2.2.1 23 (by omega))
  have e23_4_g14 : (g14 23 4).toInt = (g2 23 4).toInt := congrArg (fun f : Nat → Int32 => (f 4).toInt) (p15.2.2.2.2.1 23 (by omega))
  have w22_g14 : g14 22 = g2 22 := p15.2.2.2.2.1 22 (by omega)
  have w24_g14 : g14 24 = g2 24 := p15.2.2.2.2.1 24 (by omega)
  have w44_g14 : g14 44 = g2 44 := p15.2.2.2.2.1 44 (by omega)
  show qm_PA X 239 18 [(0, .ref 130), (1, .ref 0), (2, .ref 39), (3, .int (l3 + 5))] [] g14 Q
  exact ih g14 ⟨k17, k18, k19, k20, p15.1, p15.2.1, p15.2.2.1, p15.2.2.2.1, k21, (by exact (mm_image hmmm o12 o23 (fun i hi => p3.2.2.2.2.1 i (by omega)) (fun i hi => p15.2.2.2.2.1 i (by omega))).1)⟩
set_option maxRecDepth 100000 in
set_option maxHeartbeats 4000000 in
theorem lw_t1080 (X : qm_X) (h : qm_H) (l3 : Int32) (Q : qm_Q) (hX : X.1 ≤ 320) (hi : 0 ≤ l3.toInt ∧ l3.toInt + 5 ≤ X.1) (hp : mq 1 h ∧ mq 8 h ∧ mq 15 h ∧ sq h ∧ mi h ∧ sm h ∧ zs h ∧ rw_ h ∧ tp h ∧ mm h) (ih : ∀ g : qm_H, (mq 1 g ∧ mq 8 g ∧ mq 15 g ∧ sq g ∧ mi g ∧ sm g ∧ zs g ∧ rw_ g ∧ tp g ∧ mm g) → qm_PA X 239 18 [(0, .ref 130), (1, .ref 0), (2, .ref 39), (3, .int (l3 + 5))] [] g Q) : qm_PA X 239 1080 [(0, .ref 130), (1, .ref 0), (2, .ref 39), (3, .int l3)] [] h Q := by
  have hm1 : mq 1 h := hp.1
  have hm8 : mq 8 h := hp.2.1
  have hm15 : mq 15 h := hp.2.2.1
  have hmsq : sq h := hp.2.2.2.1
  have hmmi : mi h := hp.2.2.2.2.1
  have hmsm : sm h := hp.2.2.2.2.2.1
  have hmzs : zs h := hp.2.2.2.2.2.2.1
  have hmrw : rw_ h := hp.2.2.2.2.2.2.2.1
  have hmtp : tp h := hp.2.2.2.2.2.2.2.2.1
  have hmmm : mm h := hp.2.2.2.2.2.2.2.2.2
  have hrt0 : (h 23 2).toInt = (h 39 9).toInt := hmtp.1
  have hbt : bt (h 44) (h 39 9).toInt := hmtp.2.2
  have ⟨⟨_, _⟩, ⟨_, _⟩, ⟨_, _⟩, ⟨_, _⟩, _, _⟩ := hmmi
  refine qm_seg_okw (C := qk_1080 ++ qk_1278) (rt := some .boolean) qkw_1080 rfl (cuts := [(18, [0, 1, 2, 3])]) 1500 _ _ _ _ ?_
  show (0 ≤ (l3 + 1).toInt ∧ (l3 + 1).toInt < (X.1 : Int)) ∧ (qm_PW X 124 [.ref 0, .int (X.2 (l3 + 1).toInt.toNat)] h _)
  refine ⟨(by have := ti_addK l3 (1 : Int32) 1 rfl; omega), ?_⟩
  refine ty_124 X h (X.2 (l3 + 1).toInt.toNat) ⟨hm1, hm8, hm15, hmsq⟩ _ (fun r1 g2 p3 => ?_)
  have f4 : ∀ k, (k < 0 ∨ 50 < k) → g2 k = h k := fun k hk => (p3.2.2.2.2.1 k (by omega)).trans (rfl)
  have k5 : mi g2 := by unfold mi; rw [p3.2.2.2.2.1 39 (by omega)]; exact hmmi
  have k6 : sm g2 := by unfold sm; rw [p3.2.2.2.2.1 40 (by omega)]; exact hmsm
  have k7 : zs g2 := by unfold zs; rw [p3.2.2.2.2.1 49 (by omega)]; exact hmzs
  have k8 : rw_ g2 := by unfold rw_; rw [p3.2.2.2.2.1 46 (by omega)]; exact hmrw
  have k9 : tp g2 := by unfold tp; rw [p3.2.2.2.2.1 23 (by omega)]; rw [p3.2.2.2.2.1 24 (by omega)]; rw [p3.2.2.2.2.1 39 (by omega)]; rw [p3.2.2.2.2.1 44 (by omega)]; exact hmtp
  have k10 : wr g2 := wf_tr2 (show wr h from wf_tr2 hmmm.1.2 hmmm.1.1.symm) (mR_of (congrFun (p3.2.2.2.2.1 39 (by omega)) 3) (p3.2.2.2.2.1 40 (by omega)))
  have o11 : bkC (X.2 (l3 + 1).toInt.toNat) r1.toInt h g2 := p3.2.2.2.2.2
  have e39_9_g2 : (g2 39 9).toInt = (h 39 9).toInt := congrArg (fun f : Nat → Int32 => (f 9).toInt) (p3.2.2.2.2.1 39 (by omega))
  have e39_14_g2 : (g2 39 14).toInt = (h 39 14).toInt := congrArg (fun f : Nat → Int32 => (f 14).toInt) (p3.2.2.2.2.1 39 (by omega))
  have e23_2_g2 : (g2 23 2).toInt = (h 23 2).toInt := congrArg (fun f : Nat → Int32 => (f 2).toInt) (p3.2.2.2.2.1 23 (by omega))
  have e23_4_g2 : (g2 23 4).toInt = (h 23 4).toInt := congrArg (fun f : Nat → Int32 => (f 4).toInt) (p3.2.2.2.2.1 23 (by omega))
  have w22_g2 : g2 22 = h 22 := p3.2.2.2.2.1 22 (by omega)
  have w24_g2 : g2 24 = h 24 := p3.2.2.2.2.1 24 (by omega)
  have w42_g2 : g2 42 = h 42 := p3.2.2.2.2.1 42 (by omega)
  have w44_g2 : g2 44 = h 44 := p3.2.2.2.2.1 44 (by omega)
  have e44_g2 : g2 44 = h 44 := w44_g2
  have e9_g2 : (g2 39 9).toInt = (h 39 9).toInt := e39_9_g2
  show (0 ≤ (l3 + 1).toInt ∧ (l3 + 1).toInt < (X.1 : Int)) ∧ (qm_PW X 232 [.ref 39, .int (X.2 (l3 + 1).toInt.toNat)] g2 _)
  refine ⟨(by have := ti_addK l3 (1 : Int32) 1 rfl; omega), ?_⟩
  refine ty_232 X g2 (X.2 (l3 + 1).toInt.toNat) ⟨k5, k6, k7, k8⟩ _ (fun r12 g13 p14 => ?_)
  have f15 : ∀ k, (k < 0 ∨ 50 < k) → g13 k = h k := fun k hk => (p14.2.2.2.2.1 k (by omega)).trans (f4 k hk)
  have k16 : mq 1 g13 := by unfold mq; rw [p14.2.2.2.2.1 1 (by omega)]; exact p3.1
  have k17 : mq 8 g13 := by unfold mq; rw [p14.2.2.2.2.1 8 (by omega)]; exact p3.2.1
  have k18 : mq 15 g13 := by unfold mq; rw [p14.2.2.2.2.1 15 (by omega)]; exact p3.2.2.1
  have k19 : sq g13 := by unfold sq; rw [p14.2.2.2.2.1 37 (by omega)]; exact p3.2.2.2.1
  have k20 : tp g13 := by unfold tp; rw [p14.2.2.2.2.1 23 (by omega)]; rw [p14.2.2.2.2.1 24 (by omega)]; rw [p14.2.2.2.2.1 39 (by omega)]; rw [p14.2.2.2.2.1 44 (by omega)]; exact k9
  have o21 : bkR (X.2 (l3 + 1).toInt.toNat) r12.toInt g2 g13 ∧ (∀ j : Nat, 49 ≤ j → (g13 40) j = (g2 40) j) := p14.2.2.2.2.2
  have e39_9_g13 : (g13 39 9).toInt = (g2 39 9).toInt := congrArg (fun f : Nat → Int32 => (f 9).toInt) (p14.2.2.2.2.1 39 (by omega))
  have e39_14_g13 : (g13 39 14).toInt = (g2 39 14).toInt := congrArg (fun f : Nat → Int32 => (f 14).toInt) (p14.2.2.2.2.1 39 (by omega))
  have e23_2_g13 : (g13 23 2).toInt = (g2 23 2).toInt := congrArg (fun f : Nat → Int32 => (f 2).toInt) (p14.2.2.2.2.1 23 (by omega))
  have e23_4_g13 : (g13 23 4).toInt = (g2 23 4).toInt := congrArg (fun f : Nat → Int32 => (f 4).toInt) (p14.2.2.2.2.1 23 (by omega))
  have w22_g13 : g13 22 = g2 22 := p14.2.2.2.2.1 22 (by omega)
  have w24_g13 : g13 24 = g2 24 := p14.2.2.2.2.1 24 (by omega)
  have w42_g13 : g13 42 = g2 42 := p14.2.2.2.2.1 42 (by omega)
  have w44_g13 : g13 44 = g2 44 := p14.2.2.2.2.1 44 (by omega)
  show qm_PA X 239 18 [(0, .ref 130), (1, .ref 0), (2, .ref 39), (3, .int (l3 + 5))] [] g13 Q
  exact ih g13 ⟨k16, k17, k18, k19, p14.1, p14.2.1, p14.2.2.1, p14.2.2.2.1, k20, (by exact (mm_back hmmm o11 o21 (fun i hi => p3.2.2.2.2.1 i (by omega)) (fun i hi => p14.2.2.2.2.1 i (by omega))).1)⟩
set_option maxRecDepth 100000 in
set_option maxHeartbeats 4000000 in
theorem lw_t1103 (X : qm_X) (h : qm_H) (l3 : Int32) (Q : qm_Q) (hX : X.1 ≤ 320) (hi : 0 ≤ l3.toInt ∧ l3.toInt + 5 ≤ X.1) (hp : mq 1 h ∧ mq 8 h ∧ mq 15 h ∧ sq h ∧ mi h ∧ sm h ∧ zs h ∧ rw_ h ∧ tp h ∧ mm h) (ih : ∀ g : qm_H, (mq 1 g ∧ mq 8 g ∧ mq 15 g ∧ sq g ∧ mi g ∧ sm g ∧ zs g ∧ rw_ g ∧ tp g ∧ mm g) → qm_PA X 239 18 [(0, .ref 130), (1, .ref 0), (2, .ref 39), (3, .int (l3 + 5))] [] g Q) : qm_PA X 239 1103 [(0, .ref 130), (1, .ref 0), (2, .ref 39), (3, .int l3)] [] h Q := by
  have hm1 : mq 1 h := hp.1
  have hm8 : mq 8 h := hp.2.1
  have hm15 : mq 15 h := hp.2.2.1
  have hmsq : sq h := hp.2.2.2.1
  have hmmi : mi h := hp.2.2.2.2.1
  have hmsm : sm h := hp.2.2.2.2.2.1
  have hmzs : zs h := hp.2.2.2.2.2.2.1
  have hmrw : rw_ h := hp.2.2.2.2.2.2.2.1
  have hmtp : tp h := hp.2.2.2.2.2.2.2.2.1
  have hmmm : mm h := hp.2.2.2.2.2.2.2.2.2
  have hrt0 : (h 23 2).toInt = (h 39 9).toInt := hmtp.1
  have hbt : bt (h 44) (h 39 9).toInt := hmtp.2.2
  have ⟨⟨_, _⟩, ⟨_, _⟩, ⟨_, _⟩, ⟨_, _⟩, _, _⟩ := hmmi
  refine qm_seg_okw (C := qk_1103 ++ qk_1278) (rt := some .boolean) qkw_1103 rfl (cuts := [(18, [0, 1, 2, 3])]) 1500 _ _ _ _ ?_
  show (0 ≤ (l3 + 1).toInt ∧ (l3 + 1).toInt < (X.1 : Int)) ∧ ((0 ≤ (l3 + 2).toInt ∧ (l3 + 2).toInt < (X.1 : Int)) ∧ ((0 ≤ (l3 + 3).toInt ∧ (l3 + 3).toInt < (X.1 : Int)) ∧ (qm_PW X 125 [.ref 0, .int (X.2 (l3 + 1).toInt.toNat), .int (X.2 (l3 + 2).toInt.toNat), .int (X.2 (l3 + 3).toInt.toNat)] h _)))
  refine ⟨(by have := ti_addK l3 (1 : Int32) 1 rfl; omega), ?_⟩
  refine ⟨(by have := ti_addK l3 (2 : Int32) 2 rfl; omega), ?_⟩
  refine ⟨(by have := ti_addK l3 (3 : Int32) 3 rfl; omega), ?_⟩
  refine ty_125 X h (X.2 (l3 + 1).toInt.toNat) (X.2 (l3 + 2).toInt.toNat) (X.2 (l3 + 3).toInt.toNat) ⟨hm1, hm8, hm15, hmsq⟩ _ (fun r1 g2 p3 => ?_)
  have f4 : ∀ k, (k < 0 ∨ 50 < k) → g2 k = h k := fun k hk => (p3.2.2.2.2.1 k (by omega)).trans (rfl)
  have k5 : mi g2 := by unfold mi; rw [p3.2.2.2.2.1 39 (by omega)]; exact hmmi
  have k6 : sm g2 := by unfold sm; rw [p3.2.2.2.2.1 40 (by omega)]; exact hmsm
  have k7 : zs g2 := by unfold zs; rw [p3.2.2.2.2.1 49 (by omega)]; exact hmzs
  have k8 : rw_ g2 := by unfold rw_; rw [p3.2.2.2.2.1 46 (by omega)]; exact hmrw
  have k9 : tp g2 := by unfold tp; rw [p3.2.2.2.2.1 23 (by omega)]; rw [p3.2.2.2.2.1 24 (by omega)]; rw [p3.2.2.2.2.1 39 (by omega)]; rw [p3.2.2.2.2.1 44 (by omega)]; exact hmtp
  have k10 : wc g2 := wf_tr2 (show wc h from hmmm.1.2) (mC_of (fun k h1 h2 => p3.2.2.2.2.1 k (by omega)))
  have k11 : wr g2 := wf_tr2 (show wr h from wf_tr2 hmmm.1.2 hmmm.1.1.symm) (mR_of (congrFun (p3.2.2.2.2.1 39 (by omega)) 3) (p3.2.2.2.2.1 40 (by omega)))
  have o12 : svC g2 = opSheet (X.2 (l3 + 1).toInt.toNat) (X.2 (l3 + 2).toInt.toNat) (X.2 (l3 + 3).toInt.toNat) (svC h) := p3.2.2.2.2.2
  have e39_9_g2 : (g2 39 9).toInt = (h 39 9).toInt := congrArg (fun f : Nat → Int32 => (f 9).toInt) (p3.2.2.2.2.1 39 (by omega))
  have e39_14_g2 : (g2 39 14).toInt = (h 39 14).toInt := congrArg (fun f : Nat → Int32 => (f 14).toInt) (p3.2.2.2.2.1 39 (by omega))
  have e23_2_g2 : (g2 23 2).toInt = (h 23 2).toInt := congrArg (fun f : Nat → Int32 => (f 2).toInt) (p3.2.2.2.2.1 23 (by omega))
  have e23_4_g2 : (g2 23 4).toInt = (h 23 4).toInt := congrArg (fun f : Nat → Int32 => (f 4).toInt) (p3.2.2.2.2.1 23 (by omega))
  have w22_g2 : g2 22 = h 22 := p3.2.2.2.2.1 22 (by omega)
  have w24_g2 : g2 24 = h 24 := p3.2.2.2.2.1 24 (by omega)
  have w42_g2 : g2 42 = h 42 := p3.2.2.2.2.1 42 (by omega)
  have w44_g2 : g2 44 = h 44 := p3.2.2.2.2.1 44 (by omega)
  have e44_g2 : g2 44 = h 44 := w44_g2
  have e9_g2 : (g2 39 9).toInt = (h 39 9).toInt := e39_9_g2
  show (0 ≤ (l3 + 1).toInt ∧ (l3 + 1).toInt < (X.1 : Int)) ∧ ((0 ≤ (l3 + 2).toInt ∧ (l3 + 2).toInt < (X.1 : Int)) ∧ ((0 ≤ (l3 + 3).toInt ∧ (l3 + 3).toInt < (X.1 : Int)) ∧ (qm_PW X 234 [.ref 39, .int (X.2 (l3 + 1).toInt.toNat), .int (X.2 (l3 + 2).toInt.toNat), .int (X.2 (l3 + 3).toInt.toNat)] g2 _)))
  refine ⟨(by have := ti_addK l3 (1 : Int32) 1 rfl; have := ti_addK l3 (2 : Int32) 2 rfl; have := ti_addK l3 (3 : Int32) 3 rfl; omega), ?_⟩
  refine ⟨(by have := ti_addK l3 (2 : Int32) 2 rfl; have := ti_addK l3 (1 : Int32) 1 rfl; have := ti_addK l3 (3 : Int32) 3 rfl; omega), ?_⟩
  refine ⟨(by have := ti_addK l3 (3 : Int32) 3 rfl; have := ti_addK l3 (1 : Int32) 1 rfl; have := ti_addK l3 (2 : Int32) 2 rfl; omega), ?_⟩
  refine ty_234 X g2 (X.2 (l3 + 1).toInt.toNat) (X.2 (l3 + 2).toInt.toNat) (X.2 (l3 + 3).toInt.toNat) ⟨k5, k6, k7, k8⟩ _ (fun r13 g14 p15 => ?_)
  have f16 : ∀ k, (k < 0 ∨ 50 < k) → g14 k = h k := fun k hk => (p15.2.2.2.2.1 k (by omega)).trans (f4 k hk)
  have k17 : mq 1 g14 := by unfold mq; rw [p15.2.2.2.2.1 1 (by omega)]; exact p3.1
  have k18 : mq 8 g14 := by unfold mq; rw [p15.2.2.2.2.1 8 (by omega)]; exact p3.2.1
  have k19 : mq 15 g14 := by unfold mq; rw [p15.2.2.2.2.1 15 (by omega)]; exact p3.2.2.1
  have k20 : sq g14 := by unfold sq; rw [p15.2.2.2.2.1 37 (by omega)]; exact p3.2.2.2.1
  have k21 : tp g14 := by unfold tp; rw [p15.2.2.2.2.1 23 (by omega)]; rw [p15.2.2.2.2.1 24 (by omega)]; rw [p15.2.2.2.2.1 39 (by omega)]; rw [p15.2.2.2.2.1 44 (by omega)]; exact k9
  have k22 : wc g14 := wf_tr2 k10 (mC_of (fun k h1 h2 => p15.2.2.2.2.1 k (by omega)))
  have k23 : wr g14 := wf_tr2 k11 (mR_of (congrFun (p15.2.2.2.2.1 39 (by omega)) 3) (p15.2.2.2.2.1 40 (by omega)))
  have o24 : svR g14 = opSheet (X.2 (l3 + 1).toInt.toNat) (X.2 (l3 + 2).toInt.toNat) (X.2 (l3 + 3).toInt.toNat) (svR g2) := p15.2.2.2.2.2
  have e39_9_g14 : (g14 39 9).toInt = (g2 39 9).toInt := congrArg (fun f : Nat → Int32 => (f 9).toInt) (p15.2.2.2.2.1 39 (by omega))
  have e39_14_g14 : (g14 39 14).toInt = (g2 39 14).toInt := congrArg (fun f : Nat → Int32 => (f 14).toInt) (p15.2.2.2.2.1 39 (by omega))
  have e23_2_g14 : (g14 23 2).toInt = (g2 23 2).toInt := congrArg (fun f : Nat → Int32 => (f 2).toInt) (p15.2.2.2.2.1 23 (by omega))
  have e23_4_g14 : (g14 23 4).toInt = (g2 23 4).toInt := congrArg (fun f : Nat → Int32 => (f 4).toInt) (p15.2.2.2.2.1 23 (by omega))
  have w22_g14 : g14 22 = g2 22 := p15.2.2.2.2.1 22 (by omega)
  have w24_g14 : g14 24 = g2 24 := p15.2.2.2.2.1 24 (by omega)
  have w42_g14 : g14 42 = g2 42 := p15.2.2.2.2.1 42 (by omega)
  have w44_g14 : g14 44 = g2 44 := p15.2.2.2.2.1 44 (by omega)
  show qm_PA X 239 18 [(0, .ref 130), (1, .ref 0), (2, .ref 39), (3, .int (l3 + 5))] [] g14 Q
  exact ih g14 ⟨k17, k18, k19, k20, p15.1, p15.2.1, p15.2.2.1, p15.2.2.2.1, k21, (by exact mm_sh (opSheet (X.2 (l3 + 1).toInt.toNat) (X.2 (l3 + 2).toInt.toNat) (X.2 (l3 + 3).toInt.toNat)) sheet_co hmmm (fun i hi => congrFun o12 i) (fun i hi => congrFun o24 i) (fun i hi => p3.2.2.2.2.1 i (by omega)) (fun i hi => p15.2.2.2.2.1 i (by omega)))⟩
set_option maxRecDepth 100000 in
set_option maxHeartbeats 4000000 in
theorem lw_t1146 (X : qm_X) (h : qm_H) (l3 : Int32) (Q : qm_Q) (hX : X.1 ≤ 320) (hi : 0 ≤ l3.toInt ∧ l3.toInt + 5 ≤ X.1) (hp : mq 1 h ∧ mq 8 h ∧ mq 15 h ∧ sq h ∧ mi h ∧ sm h ∧ zs h ∧ rw_ h ∧ tp h ∧ mm h) (ih : ∀ g : qm_H, (mq 1 g ∧ mq 8 g ∧ mq 15 g ∧ sq g ∧ mi g ∧ sm g ∧ zs g ∧ rw_ g ∧ tp g ∧ mm g) → qm_PA X 239 18 [(0, .ref 130), (1, .ref 0), (2, .ref 39), (3, .int (l3 + 5))] [] g Q) : qm_PA X 239 1146 [(0, .ref 130), (1, .ref 0), (2, .ref 39), (3, .int l3)] [] h Q := by
  have hm1 : mq 1 h := hp.1
  have hm8 : mq 8 h := hp.2.1
  have hm15 : mq 15 h := hp.2.2.1
  have hmsq : sq h := hp.2.2.2.1
  have hmmi : mi h := hp.2.2.2.2.1
  have hmsm : sm h := hp.2.2.2.2.2.1
  have hmzs : zs h := hp.2.2.2.2.2.2.1
  have hmrw : rw_ h := hp.2.2.2.2.2.2.2.1
  have hmtp : tp h := hp.2.2.2.2.2.2.2.2.1
  have hmmm : mm h := hp.2.2.2.2.2.2.2.2.2
  have hrt0 : (h 23 2).toInt = (h 39 9).toInt := hmtp.1
  have hbt : bt (h 44) (h 39 9).toInt := hmtp.2.2
  have ⟨⟨_, _⟩, ⟨_, _⟩, ⟨_, _⟩, ⟨_, _⟩, _, _⟩ := hmmi
  refine qm_seg_okw (C := qk_1146 ++ qk_1278) (rt := some .boolean) qkw_1146 rfl (cuts := [(18, [0, 1, 2, 3])]) 1500 _ _ _ _ ?_
  show (0 ≤ (l3 + 1).toInt ∧ (l3 + 1).toInt < (X.1 : Int)) ∧ ((0 ≤ (l3 + 2).toInt ∧ (l3 + 2).toInt < (X.1 : Int)) ∧ ((0 ≤ (l3 + 3).toInt ∧ (l3 + 3).toInt < (X.1 : Int)) ∧ (qm_PW X 126 [.ref 0, .int (X.2 (l3 + 1).toInt.toNat), .int (X.2 (l3 + 2).toInt.toNat), .int (X.2 (l3 + 3).toInt.toNat)] h _)))
  refine ⟨(by have := ti_addK l3 (1 : Int32) 1 rfl; omega), ?_⟩
  refine ⟨(by have := ti_addK l3 (2 : Int32) 2 rfl; omega), ?_⟩
  refine ⟨(by have := ti_addK l3 (3 : Int32) 3 rfl; omega), ?_⟩
  refine ty_126 X h (X.2 (l3 + 1).toInt.toNat) (X.2 (l3 + 2).toInt.toNat) (X.2 (l3 + 3).toInt.toNat) ⟨hm1, hm8, hm15, hmsq⟩ _ (fun r1 g2 p3 => ?_)
  have f4 : ∀ k, (k < 0 ∨ 50 < k) → g2 k = h k := fun k hk => (p3.2.2.2.2.1 k (by omega)).trans (rfl)
  have k5 : mi g2 := by unfold mi; rw [p3.2.2.2.2.1 39 (by omega)]; exact hmmi
  have k6 : sm g2 := by unfold sm; rw [p3.2.2.2.2.1 40 (by omega)]; exact hmsm
  have k7 : zs g2 := by unfold zs; rw [p3.2.2.2.2.1 49 (by omega)]; exact hmzs
  have k8 : rw_ g2 := by unfold rw_; rw [p3.2.2.2.2.1 46 (by omega)]; exact hmrw
  have k9 : tp g2 := by unfold tp; rw [p3.2.2.2.2.1 23 (by omega)]; rw [p3.2.2.2.2.1 24 (by omega)]; rw [p3.2.2.2.2.1 39 (by omega)]; rw [p3.2.2.2.2.1 44 (by omega)]; exact hmtp
  have k10 : wc g2 := wf_tr2 (show wc h from hmmm.1.2) (mC_of (fun k h1 h2 => p3.2.2.2.2.1 k (by omega)))
  have k11 : wr g2 := wf_tr2 (show wr h from wf_tr2 hmmm.1.2 hmmm.1.1.symm) (mR_of (congrFun (p3.2.2.2.2.1 39 (by omega)) 3) (p3.2.2.2.2.1 40 (by omega)))
  have o12 : (∀ k : Nat, k < 4 → svC g2 k = opLay (X.2 (l3 + 1).toInt.toNat) (X.2 (l3 + 2).toInt.toNat) (X.2 (l3 + 3).toInt.toNat) (svC h) k) := p3.2.2.2.2.2
  have e39_9_g2 : (g2 39 9).toInt = (h 39 9).toInt := congrArg (fun f : Nat → Int32 => (f 9).toInt) (p3.2.2.2.2.1 39 (by omega))
  have e39_14_g2 : (g2 39 14).toInt = (h 39 14).toInt := congrArg (fun f : Nat → Int32 => (f 14).toInt) (p3.2.2.2.2.1 39 (by omega))
  have e23_2_g2 : (g2 23 2).toInt = (h 23 2).toInt := congrArg (fun f : Nat → Int32 => (f 2).toInt) (p3.2.2.2.2.1 23 (by omega))
  have e23_4_g2 : (g2 23 4).toInt = (h 23 4).toInt := congrArg (fun f : Nat → Int32 => (f 4).toInt) (p3.2.2.2.2.1 23 (by omega))
  have w22_g2 : g2 22 = h 22 := p3.2.2.2.2.1 22 (by omega)
  have w24_g2 : g2 24 = h 24 := p3.2.2.2.2.1 24 (by omega)
  have w42_g2 : g2 42 = h 42 := p3.2.2.2.2.1 42 (by omega)
  have w44_g2 : g2 44 = h 44 := p3.2.2.2.2.1 44 (by omega)
  have e44_g2 : g2 44 = h 44 := w44_g2
  have e9_g2 : (g2 39 9).toInt = (h 39 9).toInt := e39_9_g2
  show (0 ≤ (l3 + 1).toInt ∧ (l3 + 1).toInt < (X.1 : Int)) ∧ ((0 ≤ (l3 + 2).toInt ∧ (l3 + 2).toInt < (X.1 : Int)) ∧ ((0 ≤ (l3 + 3).toInt ∧ (l3 + 3).toInt < (X.1 : Int)) ∧ (qm_PW X 235 [.ref 39, .int (X.2 (l3 + 1).toInt.toNat), .int (X.2 (l3 + 2).toInt.toNat), .int (X.2 (l3 + 3).toInt.toNat)] g2 _)))
  refine ⟨(by have := ti_addK l3 (1 : Int32) 1 rfl; have := ti_addK l3 (2 : Int32) 2 rfl; have := ti_addK l3 (3 : Int32) 3 rfl; omega), ?_⟩
  refine ⟨(by have := ti_addK l3 (2 : Int32) 2 rfl; have := ti_addK l3 (1 : Int32) 1 rfl; have := ti_addK l3 (3 : Int32) 3 rfl; omega), ?_⟩
  refine ⟨(by have := ti_addK l3 (3 : Int32) 3 rfl; have := ti_addK l3 (1 : Int32) 1 rfl; have := ti_addK l3 (2 : Int32) 2 rfl; omega), ?_⟩
  refine ty_235 X g2 (X.2 (l3 + 1).toInt.toNat) (X.2 (l3 + 2).toInt.toNat) (X.2 (l3 + 3).toInt.toNat) ⟨k5, k6, k7, k8⟩ _ (fun r13 g14 p15 => ?_)
  have f16 : ∀ k, (k < 0 ∨ 50 < k) → g14 k = h k := fun k hk => (p15.2.2.2.2.1 k (by omega)).trans (f4 k hk)
  have k17 : mq 1 g14 := by unfold mq; rw [p15.2.2.2.2.1 1 (by omega)]; exact p3.1
  have k18 : mq 8 g14 := by unfold mq; rw [p15.2.2.2.2.1 8 (by omega)]; exact p3.2.1
  have k19 : mq 15 g14 := by unfold mq; rw [p15.2.2.2.2.1 15 (by omega)]; exact p3.2.2.1
  have k20 : sq g14 := by unfold sq; rw [p15.2.2.2.2.1 37 (by omega)]; exact p3.2.2.2.1
  have k21 : tp g14 := by unfold tp; rw [p15.2.2.2.2.1 23 (by omega)]; rw [p15.2.2.2.2.1 24 (by omega)]; rw [p15.2.2.2.2.1 39 (by omega)]; rw [p15.2.2.2.2.1 44 (by omega)]; exact k9
  have k22 : wc g14 := wf_tr2 k10 (mC_of (fun k h1 h2 => p15.2.2.2.2.1 k (by omega)))
  have k23 : wr g14 := wf_tr2 k11 (mR_of (congrFun (p15.2.2.2.2.1 39 (by omega)) 3) (p15.2.2.2.2.1 40 (by omega)))
  have o24 : (∀ k : Nat, k < 4 → svR g14 k = opLay (X.2 (l3 + 1).toInt.toNat) (X.2 (l3 + 2).toInt.toNat) (X.2 (l3 + 3).toInt.toNat) (svR g2) k) := p15.2.2.2.2.2
  have e39_9_g14 : (g14 39 9).toInt = (g2 39 9).toInt := congrArg (fun f : Nat → Int32 => (f 9).toInt) (p15.2.2.2.2.1 39 (by omega))
  have e39_14_g14 : (g14 39 14).toInt = (g2 39 14).toInt := congrArg (fun f : Nat → Int32 => (f 14).toInt) (p15.2.2.2.2.1 39 (by omega))
  have e23_2_g14 : (g14 23 2).toInt = (g2 23 2).toInt := congrArg (fun f : Nat → Int32 => (f 2).toInt) (p15.2.2.2.2.1 23 (by omega))
  have e23_4_g14 : (g14 23 4).toInt = (g2 23 4).toInt := congrArg (fun f : Nat → Int32 => (f 4).toInt) (p15.2.2.2.2.1 23 (by omega))
  have w22_g14 : g14 22 = g2 22 := p15.2.2.2.2.1 22 (by omega)
  have w24_g14 : g14 24 = g2 24 := p15.2.2.2.2.1 24 (by omega)
  have w42_g14 : g14 42 = g2 42 := p15.2.2.2.2.1 42 (by omega)
  have w44_g14 : g14 44 = g2 44 := p15.2.2.2.2.1 44 (by omega)
  show qm_PA X 239 18 [(0, .ref 130), (1, .ref 0), (2, .ref 39), (3, .int (l3 + 5))] [] g14 Q
  exact ih g14 ⟨k17, k18, k19, k20, p15.1, p15.2.1, p15.2.2.1, p15.2.2.2.1, k21, (by exact mm_sh (opLay (X.2 (l3 + 1).toInt.toNat) (X.2 (l3 + 2).toInt.toNat) (X.2 (l3 + 3).toInt.toNat)) lay_co hmmm o12 o24 (fun i hi => p3.2.2.2.2.1 i (by omega)) (fun i hi => p15.2.2.2.2.1 i (by omega)))⟩
set_option maxRecDepth 100000 in
set_option maxHeartbeats 4000000 in
theorem lw_t1189 (X : qm_X) (h : qm_H) (l3 : Int32) (Q : qm_Q) (hX : X.1 ≤ 320) (hi : 0 ≤ l3.toInt ∧ l3.toInt + 5 ≤ X.1) (hp : mq 1 h ∧ mq 8 h ∧ mq 15 h ∧ sq h ∧ mi h ∧ sm h ∧ zs h ∧ rw_ h ∧ tp h ∧ mm h) (ih : ∀ g : qm_H, (mq 1 g ∧ mq 8 g ∧ mq 15 g ∧ sq g ∧ mi g ∧ sm g ∧ zs g ∧ rw_ g ∧ tp g ∧ mm g) → qm_PA X 239 18 [(0, .ref 130), (1, .ref 0), (2, .ref 39), (3, .int (l3 + 5))] [] g Q) : qm_PA X 239 1189 [(0, .ref 130), (1, .ref 0), (2, .ref 39), (3, .int l3)] [] h Q := by
  have hm1 : mq 1 h := hp.1
  have hm8 : mq 8 h := hp.2.1
  have hm15 : mq 15 h := hp.2.2.1
  have hmsq : sq h := hp.2.2.2.1
  have hmmi : mi h := hp.2.2.2.2.1
  have hmsm : sm h := hp.2.2.2.2.2.1
  have hmzs : zs h := hp.2.2.2.2.2.2.1
  have hmrw : rw_ h := hp.2.2.2.2.2.2.2.1
  have hmtp : tp h := hp.2.2.2.2.2.2.2.2.1
  have hmmm : mm h := hp.2.2.2.2.2.2.2.2.2
  have hrt0 : (h 23 2).toInt = (h 39 9).toInt := hmtp.1
  have hbt : bt (h 44) (h 39 9).toInt := hmtp.2.2
  have ⟨⟨_, _⟩, ⟨_, _⟩, ⟨_, _⟩, ⟨_, _⟩, _, _⟩ := hmmi
  refine qm_seg_okw (C := qk_1189 ++ qk_1278) (rt := some .boolean) qkw_1189 rfl (cuts := [(18, [0, 1, 2, 3])]) 1500 _ _ _ _ ?_
  show (0 ≤ (l3 + 1).toInt ∧ (l3 + 1).toInt < (X.1 : Int)) ∧ ((0 ≤ (l3 + 2).toInt ∧ (l3 + 2).toInt < (X.1 : Int)) ∧ ((0 ≤ (l3 + 3).toInt ∧ (l3 + 3).toInt < (X.1 : Int)) ∧ ((0 ≤ (l3 + 4).toInt ∧ (l3 + 4).toInt < (X.1 : Int)) ∧ (qm_PW X 127 [.ref 0, .int (X.2 (l3 + 1).toInt.toNat), .int (X.2 (l3 + 2).toInt.toNat), .int (X.2 (l3 + 3).toInt.toNat), .int (X.2 (l3 + 4).toInt.toNat)] h _))))
  refine ⟨(by have := ti_addK l3 (1 : Int32) 1 rfl; omega), ?_⟩
  refine ⟨(by have := ti_addK l3 (2 : Int32) 2 rfl; omega), ?_⟩
  refine ⟨(by have := ti_addK l3 (3 : Int32) 3 rfl; omega), ?_⟩
  refine ⟨(by have := ti_addK l3 (4 : Int32) 4 rfl; omega), ?_⟩
  refine ty_127 X h (X.2 (l3 + 1).toInt.toNat) (X.2 (l3 + 2).toInt.toNat) (X.2 (l3 + 3).toInt.toNat) (X.2 (l3 + 4).toInt.toNat) ⟨hm1, hm8, hm15, hmsq⟩ _ (fun r1 g2 p3 => ?_)
  have f4 : ∀ k, (k < 0 ∨ 50 < k) → g2 k = h k := fun k hk => (p3.2.2.2.2.1 k (by omega)).trans (rfl)
  have k5 : mi g2 := by unfold mi; rw [p3.2.2.2.2.1 39 (by omega)]; exact hmmi
  have k6 : sm g2 := by unfold sm; rw [p3.2.2.2.2.1 40 (by omega)]; exact hmsm
  have k7 : zs g2 := by unfold zs; rw [p3.2.2.2.2.1 49 (by omega)]; exact hmzs
  have k8 : rw_ g2 := by unfold rw_; rw [p3.2.2.2.2.1 46 (by omega)]; exact hmrw
  have k9 : tp g2 := by unfold tp; rw [p3.2.2.2.2.1 23 (by omega)]; rw [p3.2.2.2.2.1 24 (by omega)]; rw [p3.2.2.2.2.1 39 (by omega)]; rw [p3.2.2.2.2.1 44 (by omega)]; exact hmtp
  have k10 : wr g2 := wf_tr2 (show wr h from wf_tr2 hmmm.1.2 hmmm.1.1.symm) (mR_of (congrFun (p3.2.2.2.2.1 39 (by omega)) 3) (p3.2.2.2.2.1 40 (by omega)))
  have o11 : r1.toInt = (opRead (X.2 (l3 + 1).toInt.toNat) (X.2 (l3 + 2).toInt.toNat) (X.2 (l3 + 3).toInt.toNat) (X.2 (l3 + 4).toInt.toNat) (svC h) (mC h)).1 ∧ mC g2 = (opRead (X.2 (l3 + 1).toInt.toNat) (X.2 (l3 + 2).toInt.toNat) (X.2 (l3 + 3).toInt.toNat) (X.2 (l3 + 4).toInt.toNat) (svC h) (mC h)).2 := p3.2.2.2.2.2
  have e39_9_g2 : (g2 39 9).toInt = (h 39 9).toInt := congrArg (fun f : Nat → Int32 => (f 9).toInt) (p3.2.2.2.2.1 39 (by omega))
  have e39_14_g2 : (g2 39 14).toInt = (h 39 14).toInt := congrArg (fun f : Nat → Int32 => (f 14).toInt) (p3.2.2.2.2.1 39 (by omega))
  have e23_2_g2 : (g2 23 2).toInt = (h 23 2).toInt := congrArg (fun f : Nat → Int32 => (f 2).toInt) (p3.2.2.2.2.1 23 (by omega))
  have e23_4_g2 : (g2 23 4).toInt = (h 23 4).toInt := congrArg (fun f : Nat → Int32 => (f 4).toInt) (p3.2.2.2.2.1 23 (by omega))
  have w22_g2 : g2 22 = h 22 := p3.2.2.2.2.1 22 (by omega)
  have w24_g2 : g2 24 = h 24 := p3.2.2.2.2.1 24 (by omega)
  have w42_g2 : g2 42 = h 42 := p3.2.2.2.2.1 42 (by omega)
  have w44_g2 : g2 44 = h 44 := p3.2.2.2.2.1 44 (by omega)
  have e44_g2 : g2 44 = h 44 := w44_g2
  have e9_g2 : (g2 39 9).toInt = (h 39 9).toInt := e39_9_g2
  show (0 ≤ (l3 + 1).toInt ∧ (l3 + 1).toInt < (X.1 : Int)) ∧ ((0 ≤ (l3 + 2).toInt ∧ (l3 + 2).toInt < (X.1 : Int)) ∧ ((0 ≤ (l3 + 3).toInt ∧ (l3 + 3).toInt < (X.1 : Int)) ∧ ((0 ≤ (l3 + 4).toInt ∧ (l3 + 4).toInt < (X.1 : Int)) ∧ (qm_PW X 236 [.ref 39, .int (X.2 (l3 + 1).toInt.toNat), .int (X.2 (l3 + 2).toInt.toNat), .int (X.2 (l3 + 3).toInt.toNat), .int (X.2 (l3 + 4).toInt.toNat)] g2 _))))
  refine ⟨(by have := ti_addK l3 (1 : Int32) 1 rfl; have := ti_addK l3 (2 : Int32) 2 rfl; have := ti_addK l3 (3 : Int32) 3 rfl; have := ti_addK l3 (4 : Int32) 4 rfl; omega), ?_⟩
  refine ⟨(by have := ti_addK l3 (2 : Int32) 2 rfl; have := ti_addK l3 (1 : Int32) 1 rfl; have := ti_addK l3 (3 : Int32) 3 rfl; have := ti_addK l3 (4 : Int32) 4 rfl; omega), ?_⟩
  refine ⟨(by have := ti_addK l3 (3 : Int32) 3 rfl; have := ti_addK l3 (1 : Int32) 1 rfl; have := ti_addK l3 (2 : Int32) 2 rfl; have := ti_addK l3 (4 : Int32) 4 rfl; omega), ?_⟩
  refine ⟨(by have := ti_addK l3 (4 : Int32) 4 rfl; have := ti_addK l3 (1 : Int32) 1 rfl; have := ti_addK l3 (2 : Int32) 2 rfl; have := ti_addK l3 (3 : Int32) 3 rfl; omega), ?_⟩
  refine ty_236 X g2 (X.2 (l3 + 1).toInt.toNat) (X.2 (l3 + 2).toInt.toNat) (X.2 (l3 + 3).toInt.toNat) (X.2 (l3 + 4).toInt.toNat) ⟨k5, k6, k7, k8⟩ _ (fun r12 g13 p14 => ?_)
  have f15 : ∀ k, (k < 0 ∨ 50 < k) → g13 k = h k := fun k hk => (p14.2.2.2.2.2.2.1 k (by omega)).trans (f4 k hk)
  have k16 : mq 1 g13 := by unfold mq; rw [p14.2.2.2.2.2.2.1 1 (by omega)]; exact p3.1
  have k17 : mq 8 g13 := by unfold mq; rw [p14.2.2.2.2.2.2.1 8 (by omega)]; exact p3.2.1
  have k18 : mq 15 g13 := by unfold mq; rw [p14.2.2.2.2.2.2.1 15 (by omega)]; exact p3.2.2.1
  have k19 : sq g13 := by unfold sq; rw [p14.2.2.2.2.2.2.1 37 (by omega)]; exact p3.2.2.2.1
  have o20 : (wfM (mR g2) → r12.toInt = (opRead (X.2 (l3 + 1).toInt.toNat) (X.2 (l3 + 2).toInt.toNat) (X.2 (l3 + 3).toInt.toNat) (X.2 (l3 + 4).toInt.toNat) (svR g2) (mR g2)).1 ∧ mR g13 = (opRead (X.2 (l3 + 1).toInt.toNat) (X.2 (l3 + 2).toInt.toNat) (X.2 (l3 + 3).toInt.toNat) (X.2 (l3 + 4).toInt.toNat) (svR g2) (mR g2)).2) ∧ (∀ j : Nat, 49 ≤ j → (g13 40) j = (g2 40) j) := p14.2.2.2.2.2.2.2
  have e23_2_g13 : (g13 23 2).toInt = (g2 23 2).toInt := congrArg (fun f : Nat → Int32 => (f 2).toInt) (p14.2.2.2.2.2.2.1 23 (by omega))
  have e23_4_g13 : (g13 23 4).toInt = (g2 23 4).toInt := congrArg (fun f : Nat → Int32 => (f 4).toInt) (p14.2.2.2.2.2.2.1 23 (by omega))
  have w22_g13 : g13 22 = g2 22 := p14.2.2.2.2.2.2.1 22 (by omega)
  have w24_g13 : g13 24 = g2 24 := p14.2.2.2.2.2.2.1 24 (by omega)
  have w42_g13 : g13 42 = g2 42 := p14.2.2.2.2.2.2.1 42 (by omega)
  have w44_g13 : g13 44 = g2 44 := p14.2.2.2.2.2.2.1 44 (by omega)
  have s3_g13 : g13 39 3 = g2 39 3 := p14.2.2.2.2.1
  have e39_9_g13 : (g13 39 9).toInt = (g2 39 9).toInt := congrArg Int32.toInt p14.2.2.2.2.2.1
  show qm_PA X 239 18 [(0, .ref 130), (1, .ref 0), (2, .ref 39), (3, .int (l3 + 5))] [] g13 Q
  exact ih g13 ⟨k16, k17, k18, k19, p14.1, p14.2.1, p14.2.2.1, p14.2.2.2.1, (by exact tp_keep hmtp (by omega) (by omega) (w24_g13.trans w24_g2) (w44_g13.trans w44_g2)), (by exact (mm_read hmmm o11 o20 (fun i hi => p3.2.2.2.2.1 i (by omega)) (fun i hi => p14.2.2.2.2.2.2.1 i (by omega)) (fun i hi => p14.2.2.2.2.2.2.1 i (by omega)) (s3_g13)).1)⟩
set_option maxRecDepth 100000 in
set_option maxHeartbeats 4000000 in
theorem lw_t1242 (X : qm_X) (h : qm_H) (l3 : Int32) (Q : qm_Q) (hX : X.1 ≤ 320) (hi : 0 ≤ l3.toInt ∧ l3.toInt + 5 ≤ X.1) (hp : mq 1 h ∧ mq 8 h ∧ mq 15 h ∧ sq h ∧ mi h ∧ sm h ∧ zs h ∧ rw_ h ∧ tp h ∧ mm h) (ih : ∀ g : qm_H, (mq 1 g ∧ mq 8 g ∧ mq 15 g ∧ sq g ∧ mi g ∧ sm g ∧ zs g ∧ rw_ g ∧ tp g ∧ mm g) → qm_PA X 239 18 [(0, .ref 130), (1, .ref 0), (2, .ref 39), (3, .int (l3 + 5))] [] g Q) : qm_PA X 239 1242 [(0, .ref 130), (1, .ref 0), (2, .ref 39), (3, .int l3)] [] h Q := by
  have hm1 : mq 1 h := hp.1
  have hm8 : mq 8 h := hp.2.1
  have hm15 : mq 15 h := hp.2.2.1
  have hmsq : sq h := hp.2.2.2.1
  have hmmi : mi h := hp.2.2.2.2.1
  have hmsm : sm h := hp.2.2.2.2.2.1
  have hmzs : zs h := hp.2.2.2.2.2.2.1
  have hmrw : rw_ h := hp.2.2.2.2.2.2.2.1
  have hmtp : tp h := hp.2.2.2.2.2.2.2.2.1
  have hmmm : mm h := hp.2.2.2.2.2.2.2.2.2
  refine qm_seg_okw (C := qk_1242 ++ qk_1278) (rt := some .boolean) qkw_1242 rfl (cuts := [(18, [0, 1, 2, 3])]) 1500 _ _ _ _ ?_
  show qm_PW X 128 [.ref 0] h _
  refine sf_128_0 X h  trivial _ (fun r1 p2 => ?_)
  show qm_PW X 237 [.ref 39] h _
  refine sf_237_39 X h  trivial _ (fun r3 p4 => ?_)
  show qm_PA X 239 18 [(0, .ref 130), (1, .ref 0), (2, .ref 39), (3, .int (l3 + 5))] [] h Q
  exact ih h ⟨hm1, hm8, hm15, hmsq, hmmi, hmsm, hmzs, hmrw, hmtp, hmmm⟩
set_option maxRecDepth 100000 in
set_option maxHeartbeats 4000000 in
theorem lw_t1255 (X : qm_X) (h : qm_H) (l3 : Int32) (Q : qm_Q) (hX : X.1 ≤ 320) (hi : 0 ≤ l3.toInt ∧ l3.toInt + 5 ≤ X.1) (hp : mq 1 h ∧ mq 8 h ∧ mq 15 h ∧ sq h ∧ mi h ∧ sm h ∧ zs h ∧ rw_ h ∧ tp h ∧ mm h) (ih : ∀ g : qm_H, (mq 1 g ∧ mq 8 g ∧ mq 15 g ∧ sq g ∧ mi g ∧ sm g ∧ zs g ∧ rw_ g ∧ tp g ∧ mm g) → qm_PA X 239 18 [(0, .ref 130), (1, .ref 0), (2, .ref 39), (3, .int (l3 + 5))] [] g Q) : qm_PA X 239 1255 [(0, .ref 130), (1, .ref 0), (2, .ref 39), (3, .int l3)] [] h Q := by
  have hm1 : mq 1 h := hp.1
  have hm8 : mq 8 h := hp.2.1
  have hm15 : mq 15 h := hp.2.2.1
  have hmsq : sq h := hp.2.2.2.1
  have hmmi : mi h := hp.2.2.2.2.1
  have hmsm : sm h := hp.2.2.2.2.2.1
  have hmzs : zs h := hp.2.2.2.2.2.2.1
  have hmrw : rw_ h := hp.2.2.2.2.2.2.2.1
  have hmtp : tp h := hp.2.2.2.2.2.2.2.2.1
  have hmmm : mm h := hp.2.2.2.2.2.2.2.2.2
  refine qm_seg_okw (C := qk_1255 ++ qk_1278) (rt := some .boolean) qkw_1255 rfl (cuts := [(18, [0, 1, 2, 3])]) 1500 _ _ _ _ ?_
  show (0 ≤ (l3 + 1).toInt ∧ (l3 + 1).toInt < (X.1 : Int)) ∧ (qm_PW X 129 [.ref 0, .int (X.2 (l3 + 1).toInt.toNat)] h _)
  refine ⟨(by have := ti_addK l3 (1 : Int32) 1 rfl; omega), ?_⟩
  refine sf_129_0 X h (X.2 (l3 + 1).toInt.toNat) hm1 _ (fun r1 p2 => ?_)
  show (0 ≤ (l3 + 1).toInt ∧ (l3 + 1).toInt < (X.1 : Int)) ∧ (qm_PW X 238 [.ref 39, .int (X.2 (l3 + 1).toInt.toNat)] h _)
  refine ⟨(by have := ti_addK l3 (1 : Int32) 1 rfl; omega), ?_⟩
  refine sf_238_39 X h (X.2 (l3 + 1).toInt.toNat) ⟨hmmi, hmsm, hmzs, hmrw⟩ _ (fun r3 g4 p5 => ?_)
  have f6 : ∀ k, (k < 0 ∨ 50 < k) → g4 k = h k := fun k hk => (p5.2.2.2.2 k (by omega)).trans (rfl)
  have k7 : mq 1 g4 := by unfold mq; rw [p5.2.2.2.2 1 (by omega)]; exact hm1
  have k8 : mq 8 g4 := by unfold mq; rw [p5.2.2.2.2 8 (by omega)]; exact hm8
  have k9 : mq 15 g4 := by unfold mq; rw [p5.2.2.2.2 15 (by omega)]; exact hm15
  have k10 : sq g4 := by unfold sq; rw [p5.2.2.2.2 37 (by omega)]; exact hmsq
  have k11 : tp g4 := by unfold tp; rw [p5.2.2.2.2 23 (by omega)]; rw [p5.2.2.2.2 24 (by omega)]; rw [p5.2.2.2.2 39 (by omega)]; rw [p5.2.2.2.2 44 (by omega)]; exact hmtp
  have k12 : mm g4 := mm_keep hmmm (fun k h1 h2 => p5.2.2.2.2 k (by omega)) (fun k h1 h2 => p5.2.2.2.2 k (by omega)) (congrFun (p5.2.2.2.2 39 (by omega)) 3) (p5.2.2.2.2 40 (by omega)) (p5.2.2.2.2 42 (by omega)) (fun k h1 h2 => p5.2.2.2.2 k (by omega))
  have k13 : wc g4 := wf_tr2 (show wc h from hmmm.1.2) (mC_of (fun k h1 h2 => p5.2.2.2.2 k (by omega)))
  have k14 : wr g4 := wf_tr2 (show wr h from wf_tr2 hmmm.1.2 hmmm.1.1.symm) (mR_of (congrFun (p5.2.2.2.2 39 (by omega)) 3) (p5.2.2.2.2 40 (by omega)))
  have e39_9_g4 : (g4 39 9).toInt = (h 39 9).toInt := congrArg (fun f : Nat → Int32 => (f 9).toInt) (p5.2.2.2.2 39 (by omega))
  have e39_14_g4 : (g4 39 14).toInt = (h 39 14).toInt := congrArg (fun f : Nat → Int32 => (f 14).toInt) (p5.2.2.2.2 39 (by omega))
  have e23_2_g4 : (g4 23 2).toInt = (h 23 2).toInt := congrArg (fun f : Nat → Int32 => (f 2).toInt) (p5.2.2.2.2 23 (by omega))
  have e23_4_g4 : (g4 23 4).toInt = (h 23 4).toInt := congrArg (fun f : Nat → Int32 => (f 4).toInt) (p5.2.2.2.2 23 (by omega))
  have w22_g4 : g4 22 = h 22 := p5.2.2.2.2 22 (by omega)
  have w24_g4 : g4 24 = h 24 := p5.2.2.2.2 24 (by omega)
  have w42_g4 : g4 42 = h 42 := p5.2.2.2.2 42 (by omega)
  have w44_g4 : g4 44 = h 44 := p5.2.2.2.2 44 (by omega)
  have e44_g4 : g4 44 = h 44 := w44_g4
  have e9_g4 : (g4 39 9).toInt = (h 39 9).toInt := e39_9_g4
  show qm_PA X 239 18 [(0, .ref 130), (1, .ref 0), (2, .ref 39), (3, .int (l3 + 5))] [] g4 Q
  exact ih g4 ⟨k7, k8, k9, k10, p5.1, p5.2.1, p5.2.2.1, p5.2.2.2.1, k11, k12⟩
set_option maxRecDepth 100000 in
set_option maxHeartbeats 4000000 in
theorem lw_t1278 (X : qm_X) (h : qm_H) (l3 : Int32) (Q : qm_Q) (hX : X.1 ≤ 320) (hi : 0 ≤ l3.toInt ∧ l3.toInt + 5 ≤ X.1) (hp : mq 1 h ∧ mq 8 h ∧ mq 15 h ∧ sq h ∧ mi h ∧ sm h ∧ zs h ∧ rw_ h ∧ tp h ∧ mm h) (ih : ∀ g : qm_H, (mq 1 g ∧ mq 8 g ∧ mq 15 g ∧ sq g ∧ mi g ∧ sm g ∧ zs g ∧ rw_ g ∧ tp g ∧ mm g) → qm_PA X 239 18 [(0, .ref 130), (1, .ref 0), (2, .ref 39), (3, .int (l3 + 5))] [] g Q) : qm_PA X 239 1278 [(0, .ref 130), (1, .ref 0), (2, .ref 39), (3, .int l3)] [] h Q := by
  have hm1 : mq 1 h := hp.1
  have hm8 : mq 8 h := hp.2.1
  have hm15 : mq 15 h := hp.2.2.1
  have hmsq : sq h := hp.2.2.2.1
  have hmmi : mi h := hp.2.2.2.2.1
  have hmsm : sm h := hp.2.2.2.2.2.1
  have hmzs : zs h := hp.2.2.2.2.2.2.1
  have hmrw : rw_ h := hp.2.2.2.2.2.2.2.1
  have hmtp : tp h := hp.2.2.2.2.2.2.2.2.1
  have hmmm : mm h := hp.2.2.2.2.2.2.2.2.2
  refine qm_seg_okw (C := qk_1278 ++ qk_1278) (rt := some .boolean) qkw_1278 rfl (cuts := [(18, [0, 1, 2, 3])]) 1500 _ _ _ _ ?_
  show qm_PA X 239 18 [(0, .ref 130), (1, .ref 0), (2, .ref 39), (3, .int (l3 + 5))] [] h Q
  exact ih h ⟨hm1, hm8, hm15, hmsq, hmmi, hmsm, hmzs, hmrw, hmtp, hmmm⟩
set_option maxRecDepth 100000 in
set_option maxHeartbeats 4000000 in
theorem law_ok_c (X : qm_X) (Q : qm_Q) (hX : X.1 ≤ 320) (hq : ∀ h : qm_H, Q (some (.int 1)) h) : ∀ (n : Nat) (l3 : Int32) (h : qm_H), (0 ≤ l3.toInt ∧ l3.toInt ≤ X.1) → (mq 1 h ∧ mq 8 h ∧ mq 15 h ∧ sq h ∧ mi h ∧ sm h ∧ zs h ∧ rw_ h ∧ tp h ∧ mm h) → ((X.1 : Int) + 5 - l3.toInt).toNat < n → qm_PA X 239 18 [(0, .ref 130), (1, .ref 0), (2, .ref 39), (3, .int l3)] [] h Q := by
  have hnl := nI_toInt (n := X.1) (by omega)
  intro n
  induction n with
  | zero => exact fun _ _ _ _ h0 => absurd h0 (Nat.not_lt_zero _)
  | succ n ih =>
    intro l3 h hi hp hr
    have e5 := ti_subK (nI X.1) (5 : Int32) 5 rfl (by omega)
    have e3 := ti_addK l3 (5 : Int32) 5 rfl (by omega)
    have go : l3.toInt ≤ ((nI X.1) - 5).toInt → ∀ g : qm_H, (mq 1 g ∧ mq 8 g ∧ mq 15 g ∧ sq g ∧ mi g ∧ sm g ∧ zs g ∧ rw_ g ∧ tp g ∧ mm g) → qm_PA X 239 18 [(0, .ref 130), (1, .ref 0), (2, .ref 39), (3, .int (l3 + 5))] [] g Q := fun hc g hg => ih (l3 + 5) g (by omega) hg (by omega)
    refine qm_seg_ok (C := qc_239) (rt := some .boolean) rfl rfl (cuts := [(18, [0, 1, 2, 3]), (208, [0, 1, 2, 3]), (231, [0, 1, 2, 3]), (254, [0, 1, 2, 3]), (267, [0, 1, 2, 3]), (280, [0, 1, 2, 3]), (303, [0, 1, 2, 3]), (336, [0, 1, 2, 3]), (369, [0, 1, 2, 3]), (402, [0, 1, 2, 3]), (445, [0, 1, 2, 3]), (468, [0, 1, 2, 3]), (501, [0, 1, 2, 3]), (524, [0, 1, 2, 3]), (557, [0, 1, 2, 3]), (580, [0, 1, 2, 3]), (613, [0, 1, 2, 3]), (636, [0, 1, 2, 3]), (659, [0, 1, 2, 3]), (682, [0, 1, 2, 3]), (705, [0, 1, 2, 3]), (718, [0, 1, 2, 3]), (731, [0, 1, 2, 3]), (744, [0, 1, 2, 3]), (767, [0, 1, 2, 3]), (780, [0, 1, 2, 3]), (803, [0, 1, 2, 3]), (826, [0, 1, 2, 3]), (869, [0, 1, 2, 3]), (902, [0, 1, 2, 3]), (935, [0, 1, 2, 3]), (968, [0, 1, 2, 3]), (991, [0, 1, 2, 3]), (1014, [0, 1, 2, 3]), (1057, [0, 1, 2, 3]), (1080, [0, 1, 2, 3]), (1103, [0, 1, 2, 3]), (1146, [0, 1, 2, 3]), (1189, [0, 1, 2, 3]), (1242, [0, 1, 2, 3]), (1255, [0, 1, 2, 3]), (1278, [0, 1, 2, 3])]) 1500 _ _ _ _ ?_
    show (((nI X.1) - 5).toInt < l3.toInt → (((1 : Int32) = 0 ∨ (1 : Int32) = 1) ∧ Q (some (.int 1)) h)) ∧ (l3.toInt ≤ ((nI X.1) - 5).toInt → ((0 ≤ l3.toInt ∧ l3.toInt < (X.1 : Int)) ∧ (((((X.2 l3.toInt.toNat) &&& 63) = 0 → (qm_PA X 239 208 [(0, .ref 130), (1, .ref 0), (2, .ref 39), (3, .int l3)] [] h Q)) ∧ (¬ ((X.2 l3.toInt.toNat) &&& 63) = 0 → ((((X.2 l3.toInt.toNat) &&& 63) = 1 → (qm_PA X 239 231 [(0, .ref 130), (1, .ref 0), (2, .ref 39), (3, .int l3)] [] h Q)) ∧ (¬ ((X.2 l3.toInt.toNat) &&& 63) = 1 → ((((X.2 l3.toInt.toNat) &&& 63) = 2 → (qm_PA X 239 254 [(0, .ref 130), (1, .ref 0), (2, .ref 39), (3, .int l3)] [] h Q)) ∧ (¬ ((X.2 l3.toInt.toNat) &&& 63) = 2 → ((((X.2 l3.toInt.toNat) &&& 63) = 3 → (qm_PA X 239 267 [(0, .ref 130), (1, .ref 0), (2, .ref 39), (3, .int l3)] [] h Q)) ∧ (¬ ((X.2 l3.toInt.toNat) &&& 63) = 3 → ((((X.2 l3.toInt.toNat) &&& 63) = 4 → (qm_PA X 239 280 [(0, .ref 130), (1, .ref 0), (2, .ref 39), (3, .int l3)] [] h Q)) ∧ (¬ ((X.2 l3.toInt.toNat) &&& 63) = 4 → ((((X.2 l3.toInt.toNat) &&& 63) = 5 → (qm_PA X 239 303 [(0, .ref 130), (1, .ref 0), (2, .ref 39), (3, .int l3)] [] h Q)) ∧ (¬ ((X.2 l3.toInt.toNat) &&& 63) = 5 → ((((X.2 l3.toInt.toNat) &&& 63) = 6 → (qm_PA X 239 336 [(0, .ref 130), (1, .ref 0), (2, .ref 39), (3, .int l3)] [] h Q)) ∧ (¬ ((X.2 l3.toInt.toNat) &&& 63) = 6 → ((((X.2 l3.toInt.toNat) &&& 63) = 7 → (qm_PA X 239 369 [(0, .ref 130), (1, .ref 0), (2, .ref 39), (3, .int l3)] [] h Q)) ∧ (¬ ((X.2 l3.toInt.toNat) &&& 63) = 7 → ((((X.2 l3.toInt.toNat) &&& 63) = 8 → (qm_PA X 239 402 [(0, .ref 130), (1, .ref 0), (2, .ref 39), (3, .int l3)] [] h Q)) ∧ (¬ ((X.2 l3.toInt.toNat) &&& 63) = 8 → ((((X.2 l3.toInt.toNat) &&& 63) = 9 → (qm_PA X 239 445 [(0, .ref 130), (1, .ref 0), (2, .ref 39), (3, .int l3)] [] h Q)) ∧ (¬ ((X.2 l3.toInt.toNat) &&& 63) = 9 → ((((X.2 l3.toInt.toNat) &&& 63) = 10 → (qm_PA X 239 468 [(0, .ref 130), (1, .ref 0), (2, .ref 39), (3, .int l3)] [] h Q)) ∧ (¬ ((X.2 l3.toInt.toNat) &&& 63) = 10 → ((((X.2 l3.toInt.toNat) &&& 63) = 11 → (qm_PA X 239 501 [(0, .ref 130), (1, .ref 0), (2, .ref 39), (3, .int l3)] [] h Q)) ∧ (¬ ((X.2 l3.toInt.toNat) &&& 63) = 11 → ((((X.2 l3.toInt.toNat) &&& 63) = 12 → (qm_PA X 239 524 [(0, .ref 130), (1, .ref 0), (2, .ref 39), (3, .int l3)] [] h Q)) ∧ (¬ ((X.2 l3.toInt.toNat) &&& 63) = 12 → ((((X.2 l3.toInt.toNat) &&& 63) = 13 → (qm_PA X 239 557 [(0, .ref 130), (1, .ref 0), (2, .ref 39), (3, .int l3)] [] h Q)) ∧ (¬ ((X.2 l3.toInt.toNat) &&& 63) = 13 → ((((X.2 l3.toInt.toNat) &&& 63) = 14 → (qm_PA X 239 580 [(0, .ref 130), (1, .ref 0), (2, .ref 39), (3, .int l3)] [] h Q)) ∧ (¬ ((X.2 l3.toInt.toNat) &&& 63) = 14 → ((((X.2 l3.toInt.toNat) &&& 63) = 15 → (qm_PA X 239 613 [(0, .ref 130), (1, .ref 0), (2, .ref 39), (3, .int l3)] [] h Q)) ∧ (¬ ((X.2 l3.toInt.toNat) &&& 63) = 15 → ((((X.2 l3.toInt.toNat) &&& 63) = 16 → (qm_PA X 239 636 [(0, .ref 130), (1, .ref 0), (2, .ref 39), (3, .int l3)] [] h Q)) ∧ (¬ ((X.2 l3.toInt.toNat) &&& 63) = 16 → ((((X.2 l3.toInt.toNat) &&& 63) = 17 → (qm_PA X 239 659 [(0, .ref 130), (1, .ref 0), (2, .ref 39), (3, .int l3)] [] h Q)) ∧ (¬ ((X.2 l3.toInt.toNat) &&& 63) = 17 → ((((X.2 l3.toInt.toNat) &&& 63) = 18 → (qm_PA X 239 682 [(0, .ref 130), (1, .ref 0), (2, .ref 39), (3, .int l3)] [] h Q)) ∧ (¬ ((X.2 l3.toInt.toNat) &&& 63) = 18 → ((((X.2 l3.toInt.toNat) &&& 63) = 19 → (qm_PA X 239 705 [(0, .ref 130), (1, .ref 0), (2, .ref 39), (3, .int l3)] [] h Q)) ∧ (¬ ((X.2 l3.toInt.toNat) &&& 63) = 19 → ((((X.2 l3.toInt.toNat) &&& 63) = 20 → (qm_PA X 239 718 [(0, .ref 130), (1, .ref 0), (2, .ref 39), (3, .int l3)] [] h Q)) ∧ (¬ ((X.2 l3.toInt.toNat) &&& 63) = 20 → ((((X.2 l3.toInt.toNat) &&& 63) = 21 → (qm_PA X 239 731 [(0, .ref 130), (1, .ref 0), (2, .ref 39), (3, .int l3)] [] h Q)) ∧ (¬ ((X.2 l3.toInt.toNat) &&& 63) = 21 → ((((X.2 l3.toInt.toNat) &&& 63) = 22 → (qm_PA X 239 744 [(0, .ref 130), (1, .ref 0), (2, .ref 39), (3, .int l3)] [] h Q)) ∧ (¬ ((X.2 l3.toInt.toNat) &&& 63) = 22 → ((((X.2 l3.toInt.toNat) &&& 63) = 23 → (qm_PA X 239 767 [(0, .ref 130), (1, .ref 0), (2, .ref 39), (3, .int l3)] [] h Q)) ∧ (¬ ((X.2 l3.toInt.toNat) &&& 63) = 23 → ((((X.2 l3.toInt.toNat) &&& 63) = 24 → (qm_PA X 239 780 [(0, .ref 130), (1, .ref 0), (2, .ref 39), (3, .int l3)] [] h Q)) ∧ (¬ ((X.2 l3.toInt.toNat) &&& 63) = 24 → ((((X.2 l3.toInt.toNat) &&& 63) = 25 → (qm_PA X 239 803 [(0, .ref 130), (1, .ref 0), (2, .ref 39), (3, .int l3)] [] h Q)) ∧ (¬ ((X.2 l3.toInt.toNat) &&& 63) = 25 → ((((X.2 l3.toInt.toNat) &&& 63) = 26 → (qm_PA X 239 826 [(0, .ref 130), (1, .ref 0), (2, .ref 39), (3, .int l3)] [] h Q)) ∧ (¬ ((X.2 l3.toInt.toNat) &&& 63) = 26 → ((((X.2 l3.toInt.toNat) &&& 63) = 27 → (qm_PA X 239 869 [(0, .ref 130), (1, .ref 0), (2, .ref 39), (3, .int l3)] [] h Q)) ∧ (¬ ((X.2 l3.toInt.toNat) &&& 63) = 27 → ((((X.2 l3.toInt.toNat) &&& 63) = 28 → (qm_PA X 239 902 [(0, .ref 130), (1, .ref 0), (2, .ref 39), (3, .int l3)] [] h Q)) ∧ (¬ ((X.2 l3.toInt.toNat) &&& 63) = 28 → ((((X.2 l3.toInt.toNat) &&& 63) = 29 → (qm_PA X 239 935 [(0, .ref 130), (1, .ref 0), (2, .ref 39), (3, .int l3)] [] h Q)) ∧ (¬ ((X.2 l3.toInt.toNat) &&& 63) = 29 → ((((X.2 l3.toInt.toNat) &&& 63) = 30 → (qm_PA X 239 968 [(0, .ref 130), (1, .ref 0), (2, .ref 39), (3, .int l3)] [] h Q)) ∧ (¬ ((X.2 l3.toInt.toNat) &&& 63) = 30 → ((((X.2 l3.toInt.toNat) &&& 63) = 31 → (qm_PA X 239 991 [(0, .ref 130), (1, .ref 0), (2, .ref 39), (3, .int l3)] [] h Q)) ∧ (¬ ((X.2 l3.toInt.toNat) &&& 63) = 31 → ((((X.2 l3.toInt.toNat) &&& 63) = 32 → (qm_PA X 239 1014 [(0, .ref 130), (1, .ref 0), (2, .ref 39), (3, .int l3)] [] h Q)) ∧ (¬ ((X.2 l3.toInt.toNat) &&& 63) = 32 → ((((X.2 l3.toInt.toNat) &&& 63) = 33 → (qm_PA X 239 1057 [(0, .ref 130), (1, .ref 0), (2, .ref 39), (3, .int l3)] [] h Q)) ∧ (¬ ((X.2 l3.toInt.toNat) &&& 63) = 33 → ((((X.2 l3.toInt.toNat) &&& 63) = 34 → (qm_PA X 239 1080 [(0, .ref 130), (1, .ref 0), (2, .ref 39), (3, .int l3)] [] h Q)) ∧ (¬ ((X.2 l3.toInt.toNat) &&& 63) = 34 → ((((X.2 l3.toInt.toNat) &&& 63) = 35 → (qm_PA X 239 1103 [(0, .ref 130), (1, .ref 0), (2, .ref 39), (3, .int l3)] [] h Q)) ∧ (¬ ((X.2 l3.toInt.toNat) &&& 63) = 35 → ((((X.2 l3.toInt.toNat) &&& 63) = 36 → (qm_PA X 239 1146 [(0, .ref 130), (1, .ref 0), (2, .ref 39), (3, .int l3)] [] h Q)) ∧ (¬ ((X.2 l3.toInt.toNat) &&& 63) = 36 → ((((X.2 l3.toInt.toNat) &&& 63) = 37 → (qm_PA X 239 1189 [(0, .ref 130), (1, .ref 0), (2, .ref 39), (3, .int l3)] [] h Q)) ∧ (¬ ((X.2 l3.toInt.toNat) &&& 63) = 37 → ((((X.2 l3.toInt.toNat) &&& 63) = 38 → (qm_PA X 239 1242 [(0, .ref 130), (1, .ref 0), (2, .ref 39), (3, .int l3)] [] h Q)) ∧ (¬ ((X.2 l3.toInt.toNat) &&& 63) = 38 → ((((X.2 l3.toInt.toNat) &&& 63) = 39 → (qm_PA X 239 1255 [(0, .ref 130), (1, .ref 0), (2, .ref 39), (3, .int l3)] [] h Q)) ∧ (¬ ((X.2 l3.toInt.toNat) &&& 63) = 39 → (qm_PA X 239 1278 [(0, .ref 130), (1, .ref 0), (2, .ref 39), (3, .int l3)] [] h Q))))))))))))))))))))))))))))))))))))))))))))))))))))))))))))))))))))))))))))))))))))
    refine ⟨fun c1 => ⟨Or.inr rfl, hq h⟩, fun c2 => ⟨by omega, ?_⟩⟩
    refine ⟨fun _ => lw_t208 X h l3 Q hX (by omega) hp (go c2), fun _ => ?_⟩
    refine ⟨fun _ => lw_t231 X h l3 Q hX (by omega) hp (go c2), fun _ => ?_⟩
    refine ⟨fun _ => lw_t254 X h l3 Q hX (by omega) hp (go c2), fun _ => ?_⟩
    refine ⟨fun _ => lw_t267 X h l3 Q hX (by omega) hp (go c2), fun _ => ?_⟩
    refine ⟨fun _ => lw_t280 X h l3 Q hX (by omega) hp (go c2), fun _ => ?_⟩
    refine ⟨fun _ => lw_t303 X h l3 Q hX (by omega) hp (go c2), fun _ => ?_⟩
    refine ⟨fun _ => lw_t336 X h l3 Q hX (by omega) hp (go c2), fun _ => ?_⟩
    refine ⟨fun _ => lw_t369 X h l3 Q hX (by omega) hp (go c2), fun _ => ?_⟩
    refine ⟨fun _ => lw_t402 X h l3 Q hX (by omega) hp (go c2), fun _ => ?_⟩
    refine ⟨fun _ => lw_t445 X h l3 Q hX (by omega) hp (go c2), fun _ => ?_⟩
    refine ⟨fun _ => lw_t468 X h l3 Q hX (by omega) hp (go c2), fun _ => ?_⟩
    refine ⟨fun _ => lw_t501 X h l3 Q hX (by omega) hp (go c2), fun _ => ?_⟩
    refine ⟨fun _ => lw_t524 X h l3 Q hX (by omega) hp (go c2), fun _ => ?_⟩
    refine ⟨fun _ => lw_t557 X h l3 Q hX (by omega) hp (go c2), fun _ => ?_⟩
    refine ⟨fun _ => lw_t580 X h l3 Q hX (by omega) hp (go c2), fun _ => ?_⟩
    refine ⟨fun _ => lw_t613 X h l3 Q hX (by omega) hp (go c2), fun _ => ?_⟩
    refine ⟨fun _ => lw_t636 X h l3 Q hX (by omega) hp (go c2), fun _ => ?_⟩
    refine ⟨fun _ => lw_t659 X h l3 Q hX (by omega) hp (go c2), fun _ => ?_⟩
    refine ⟨fun _ => lw_t682 X h l3 Q hX (by omega) hp (go c2), fun _ => ?_⟩
    refine ⟨fun _ => lw_t705 X h l3 Q hX (by omega) hp (go c2), fun _ => ?_⟩
    refine ⟨fun _ => lw_t718 X h l3 Q hX (by omega) hp (go c2), fun _ => ?_⟩
    refine ⟨fun _ => lw_t731 X h l3 Q hX (by omega) hp (go c2), fun _ => ?_⟩
    refine ⟨fun _ => lw_t744 X h l3 Q hX (by omega) hp (go c2), fun _ => ?_⟩
    refine ⟨fun _ => lw_t767 X h l3 Q hX (by omega) hp (go c2), fun _ => ?_⟩
    refine ⟨fun _ => lw_t780 X h l3 Q hX (by omega) hp (go c2), fun _ => ?_⟩
    refine ⟨fun _ => lw_t803 X h l3 Q hX (by omega) hp (go c2), fun _ => ?_⟩
    refine ⟨fun _ => lw_t826 X h l3 Q hX (by omega) hp (go c2), fun _ => ?_⟩
    refine ⟨fun _ => lw_t869 X h l3 Q hX (by omega) hp (go c2), fun _ => ?_⟩
    refine ⟨fun _ => lw_t902 X h l3 Q hX (by omega) hp (go c2), fun _ => ?_⟩
    refine ⟨fun _ => lw_t935 X h l3 Q hX (by omega) hp (go c2), fun _ => ?_⟩
    refine ⟨fun _ => lw_t968 X h l3 Q hX (by omega) hp (go c2), fun _ => ?_⟩
    refine ⟨fun _ => lw_t991 X h l3 Q hX (by omega) hp (go c2), fun _ => ?_⟩
    refine ⟨fun _ => lw_t1014 X h l3 Q hX (by omega) hp (go c2), fun _ => ?_⟩
    refine ⟨fun _ => lw_t1057 X h l3 Q hX (by omega) hp (go c2), fun _ => ?_⟩
    refine ⟨fun _ => lw_t1080 X h l3 Q hX (by omega) hp (go c2), fun _ => ?_⟩
    refine ⟨fun _ => lw_t1103 X h l3 Q hX (by omega) hp (go c2), fun _ => ?_⟩
    refine ⟨fun _ => lw_t1146 X h l3 Q hX (by omega) hp (go c2), fun _ => ?_⟩
    refine ⟨fun _ => lw_t1189 X h l3 Q hX (by omega) hp (go c2), fun _ => ?_⟩
    refine ⟨fun _ => lw_t1242 X h l3 Q hX (by omega) hp (go c2), fun _ => ?_⟩
    refine ⟨fun _ => lw_t1255 X h l3 Q hX (by omega) hp (go c2), fun _ => ?_⟩
    exact lw_t1278 X h l3 Q hX (by omega) hp (go c2)
set_option maxRecDepth 100000 in
set_option maxHeartbeats 4000000 in
theorem law_ok (X : qm_X) (h : qm_H) (hp : mq 1 h ∧ mq 8 h ∧ mq 15 h ∧ sq h ∧ mi h ∧ sm h ∧ zs h ∧ rw_ h ∧ tp h ∧ mm h ∧ X.1 ≤ 320) (Q : qm_Q) (hq : ∀ h : qm_H, Q (some (.int 1)) h) : qm_PA X 239 16 [(0, .ref 130), (1, .ref 0), (2, .ref 39)] [] h Q := by
  refine qm_seg_ok (C := qc_239) (rt := some .boolean) rfl rfl (cuts := [(18, [0, 1, 2, 3])]) 1500 _ _ _ _ ?_
  show qm_PA X 239 18 [(0, .ref 130), (1, .ref 0), (2, .ref 39), (3, .int 0)] [] h Q
  have z0 : (0 : Int32).toInt = 0 := rfl
  exact law_ok_c X Q hp.2.2.2.2.2.2.2.2.2.2 hq _ 0 h (by omega) ⟨hp.1, hp.2.1, hp.2.2.1, hp.2.2.2.1, hp.2.2.2.2.1, hp.2.2.2.2.2.1, hp.2.2.2.2.2.2.1, hp.2.2.2.2.2.2.2.1, hp.2.2.2.2.2.2.2.2.1, hp.2.2.2.2.2.2.2.2.2.1⟩ (Nat.lt_succ_self _)
