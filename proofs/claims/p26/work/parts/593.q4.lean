set_option maxRecDepth 100000 in
set_option maxHeartbeats 4000000 in
theorem sf_204_39 (X : qm_X) (h : qm_H) (hp : mi h ∧ sm h ∧ zs h ∧ rw_ h) (Q : qm_Q) (hq : ∀ (r : Int32) (h' : qm_H), (mi h' ∧ sm h' ∧ zs h' ∧ rw_ h' ∧ (h' 39 3 = h 39 3) ∧ (∀ k, (k < 39 ∨ 46 < k ∨ k = 40 ∨ k = 42 ∨ k = 43 ∨ k = 44) → h' k = h k) ∧ ((h' 39 9).toInt = (h 39 9).toInt ∧ (h' 39 14).toInt = (h 39 14).toInt)) → Q (some (.int r)) h') : qm_PW X 204 [.ref 39] h Q := by
  refine qm_seg_ok (C := qc_204) (rt := some .int) rfl rfl (cuts := [(6, [0, 1]), (38, [0, 1, 2, 3])]) 400 _ _ _ _ ?_
  show qm_PW X 202 [.ref 39] h _
  refine sg_202 X h hp _ (fun g p => ?_)
  show qm_PA X 204 6 [(0, .ref 39), (1, .int 0)] [] g Q
  exact (sg_204_c X h Q (fun r h' p => hq r h' ⟨p.1, p.2.1, p.2.2.1, p.2.2.2.1, p.2.2.2.2.2.2.2, p.2.2.2.2.1, p.2.2.2.2.2.1, p.2.2.2.2.2.2.1⟩) _).1 0 g ⟨p.1, p.2.1, p.2.2.1, p.2.2.2.1, owb_le p.2.2.2.2.2 (by decide), fun k hk => p.2.2.2.2.1 k (by omega), congrArg (fun f : Nat → Int32 => (f 9).toInt) (p.2.2.2.2.1 39 (by omega)), congrArg (fun f : Nat → Int32 => (f 14).toInt) (p.2.2.2.2.1 39 (by omega)), congrFun (p.2.2.2.2.1 39 (by omega)) 3⟩ (Nat.lt_succ_self _)
-- ThreadBankModel.clear(I)I
set_option maxRecDepth 100000 in
set_option maxHeartbeats 4000000 in
theorem sf_205_39 (X : qm_X) (h : qm_H) (a : Int32) (hp : mi h ∧ sm h ∧ zs h ∧ rw_ h) (Q : qm_Q) (hq : ∀ r : Int32, ∀ h' : qm_H, (mi h' ∧ sm h' ∧ zs h' ∧ rw_ h' ∧ (h' 39 3 = h 39 3) ∧ (∀ k, (k < 39 ∨ 46 < k ∨ k = 40 ∨ k = 42 ∨ k = 43 ∨ k = 44) → h' k = h k) ∧ (((h' 39 9).toInt = (h 39 9).toInt ∧ (h' 39 14).toInt = (h 39 14).toInt))) → Q (some (.int r)) h') : qm_PW X 205 [.ref 39, .int a] h Q := by
  have hmmi : mi h := hp.1
  have ⟨⟨_, _⟩, ⟨_, _⟩, ⟨_, _⟩, ⟨_, _⟩, _, _⟩ := hmmi
  have hmsm : sm h := hp.2.1
  have ⟨⟨⟨_, _⟩, _, _⟩, _, _, _⟩ := hmsm
  have hmzs : zs h := hp.2.2.1
  have hmrw : rw_ h := hp.2.2.2
  refine qm_seg_ok (C := qc_205) (rt := some .int) rfl rfl (cuts := []) 400 _ _ _ _ ?_
  show qm_PW X 168 [.int a] h _
  refine sf_168 X h a trivial _ (fun r1 p2 => ?_)
  show (¬ r1 = 0 → (qm_PW X 204 [.ref 39] h _)) ∧ (r1 = 0 → (Q (some (.int (-1 : Int32))) h))
  refine ⟨fun c3 => ?_, fun c4 => ?_⟩
  · have := p2.2 c3
    refine sf_204_39 X h  ⟨hmmi, hmsm, hmzs, hmrw⟩ _ (fun r5 g6 p7 => ?_)
    have k8s : (g6 39 3 = h 39 3) := (p7.2.2.2.2.1).trans rfl
    have f9 : ∀ k, (k < 39 ∨ 46 < k ∨ k = 40 ∨ k = 42 ∨ k = 43 ∨ k = 44) → g6 k = h k := fun k hk => (p7.2.2.2.2.2.1 k (by omega)).trans (rfl)
    have o10 : ((g6 39 9).toInt = (h 39 9).toInt ∧ (g6 39 14).toInt = (h 39 14).toInt) := p7.2.2.2.2.2.2
    have e23_g6 : (g6 23 2).toInt = (h 23 2).toInt := congrArg (fun f : Nat → Int32 => (f 2).toInt) (p7.2.2.2.2.2.1 23 (by omega))
    show (¬ a = 0 → (Q (some (.int r5)) g6)) ∧ (a = 0 → (qm_PW X 183 [.ref 39] g6 _))
    refine ⟨fun c11 => ?_, fun c12 => ?_⟩
    · exact hq r5 g6 ⟨p7.1, p7.2.1, p7.2.2.1, p7.2.2.2.1, k8s, (fun k hk => f9 k hk), (by show ((g6 39 9).toInt = (h 39 9).toInt ∧ (g6 39 14).toInt = (h 39 14).toInt); omega)⟩
    · refine sf_183_39 X g6  trivial _ (fun r13 p14 => ?_)
      show Q (some (.int r13)) g6
      exact hq r13 g6 ⟨p7.1, p7.2.1, p7.2.2.1, p7.2.2.2.1, k8s, (fun k hk => f9 k hk), (by show ((g6 39 9).toInt = (h 39 9).toInt ∧ (g6 39 14).toInt = (h 39 14).toInt); omega)⟩
  · exact hq (-1 : Int32) h ⟨hmmi, hmsm, hmzs, hmrw, rfl, (fun k hk => rfl), (by show ((h 39 9).toInt = (h 39 9).toInt ∧ (h 39 14).toInt = (h 39 14).toInt); omega)⟩
-- ThreadBankModel.left(I)I
set_option maxRecDepth 100000 in
set_option maxHeartbeats 4000000 in
theorem sf_206_39 (X : qm_X) (h : qm_H) (a : Int32) (hp : mi h ∧ sm h ∧ zs h ∧ rw_ h) (Q : qm_Q) (hq : ∀ r : Int32, ∀ h' : qm_H, (mi h' ∧ sm h' ∧ zs h' ∧ rw_ h' ∧ (h' 39 3 = h 39 3) ∧ (∀ k, (k < 39 ∨ 46 < k ∨ k = 40 ∨ k = 42 ∨ k = 43 ∨ k = 44) → h' k = h k) ∧ (((h' 39 9).toInt = (h 39 9).toInt ∧ (h' 39 14).toInt = (h 39 14).toInt))) → Q (some (.int r)) h') : qm_PW X 206 [.ref 39, .int a] h Q := by
  have hmmi : mi h := hp.1
  have ⟨⟨_, _⟩, ⟨_, _⟩, ⟨_, _⟩, ⟨_, _⟩, _, _⟩ := hmmi
  have hmsm : sm h := hp.2.1
  have ⟨⟨⟨_, _⟩, _, _⟩, _, _, _⟩ := hmsm
  have hmzs : zs h := hp.2.2.1
  have hmrw : rw_ h := hp.2.2.2
  refine qm_seg_ok (C := qc_206) (rt := some .int) rfl rfl (cuts := []) 400 _ _ _ _ ?_
  show qm_PW X 166 [.ref 39, .int a] h _
  refine sf_166_39 X h a hmmi _ (fun r1 p2 => ?_)
  show (¬ r1 = 0 → (qm_PW X 204 [.ref 39] h _)) ∧ (r1 = 0 → (Q (some (.int (-1 : Int32))) h))
  refine ⟨fun c3 => ?_, fun c4 => ?_⟩
  · have := p2.2 c3
    refine sf_204_39 X h  ⟨hmmi, hmsm, hmzs, hmrw⟩ _ (fun r5 g6 p7 => ?_)
    have k8s : (g6 39 3 = h 39 3) := (p7.2.2.2.2.1).trans rfl
    have f9 : ∀ k, (k < 39 ∨ 46 < k ∨ k = 40 ∨ k = 42 ∨ k = 43 ∨ k = 44) → g6 k = h k := fun k hk => (p7.2.2.2.2.2.1 k (by omega)).trans (rfl)
    have o10 : ((g6 39 9).toInt = (h 39 9).toInt ∧ (g6 39 14).toInt = (h 39 14).toInt) := p7.2.2.2.2.2.2
    have e23_g6 : (g6 23 2).toInt = (h 23 2).toInt := congrArg (fun f : Nat → Int32 => (f 2).toInt) (p7.2.2.2.2.2.1 23 (by omega))
    show qm_PW X 181 [.ref 39, .int a] g6 _
    refine sf_181_39 X g6 a (by omega) _ (fun r11 p12 => ?_)
    show Q (some (.int r11)) g6
    exact hq r11 g6 ⟨p7.1, p7.2.1, p7.2.2.1, p7.2.2.2.1, k8s, (fun k hk => f9 k hk), (by show ((g6 39 9).toInt = (h 39 9).toInt ∧ (g6 39 14).toInt = (h 39 14).toInt); omega)⟩
  · exact hq (-1 : Int32) h ⟨hmmi, hmsm, hmzs, hmrw, rfl, (fun k hk => rfl), (by show ((h 39 9).toInt = (h 39 9).toInt ∧ (h 39 14).toInt = (h 39 14).toInt); omega)⟩
