theorem chr_0_0 : (Int32.toUInt32 (((qm_sbyt.getD 0 []).getD 0 0) &&& 255) % 65536).toInt32 = (qm_sbyt.getD 0 []).getD 0 0 := by decide +kernel
theorem chr_0_1 : (Int32.toUInt32 (((qm_sbyt.getD 0 []).getD 1 0) &&& 255) % 65536).toInt32 = (qm_sbyt.getD 0 []).getD 1 0 := by decide +kernel
theorem chr_0_2 : (Int32.toUInt32 (((qm_sbyt.getD 0 []).getD 2 0) &&& 255) % 65536).toInt32 = (qm_sbyt.getD 0 []).getD 2 0 := by decide +kernel
theorem chr_0_3 : (Int32.toUInt32 (((qm_sbyt.getD 0 []).getD 3 0) &&& 255) % 65536).toInt32 = (qm_sbyt.getD 0 []).getD 3 0 := by decide +kernel
theorem chr_0_4 : (Int32.toUInt32 (((qm_sbyt.getD 0 []).getD 4 0) &&& 255) % 65536).toInt32 = (qm_sbyt.getD 0 []).getD 4 0 := by decide +kernel
theorem chr_0 {k : Nat} (hk : k < 5) : (Int32.toUInt32 (((qm_sbyt.getD 0 []).getD k 0) &&& 255) % 65536).toInt32 = (qm_sbyt.getD 0 []).getD k 0 := by
  have h : k = 0 ∨ k = 1 ∨ k = 2 ∨ k = 3 ∨ k = 4 := by omega
  obtain q | q | q | q | q := h
  · rw [q]; exact chr_0_0
  · rw [q]; exact chr_0_1
  · rw [q]; exact chr_0_2
  · rw [q]; exact chr_0_3
  · rw [q]; exact chr_0_4
-- java/lang/StringLatin1.charAt([BI)C
set_option maxRecDepth 100000 in
set_option maxHeartbeats 4000000 in
theorem tx_7_0 (X : qm_X) (h : qm_H) (a : Int32) (hp : 0 ≤ a.toInt ∧ a.toInt < 5) (Q : qm_Q) (hq : ∀ r : Int32, ((0 ≤ r.toInt ∧ r.toInt < 65536) ∧ r = (qm_sbyt.getD 0 []).getD a.toInt.toNat 0) → Q (some (.int r)) h) : qm_PW X 7 [.ref 120, .int a] h Q := by
  have hp0 : 0 ≤ a.toInt ∧ a.toInt < 5 := hp
  refine qm_seg_ok (C := qc_7) (rt := some .char) rfl rfl (cuts := []) 400 _ _ _ _ ?_
  show qm_PW X 8 [.int a, .int 5] h _
  refine sf_8 X h a (5 : Int32) (by have : (5 : Int32).toInt = 5 := rfl; omega) _ (fun p1 => ?_)
  show (0 ≤ a.toInt ∧ a.toInt < 5) ∧ ((0 ≤ ((Int32.toUInt32 (((qm_sbyt.getD 0 []).getD a.toInt.toNat 0) &&& 255) % 65536).toInt32).toInt ∧ ((Int32.toUInt32 (((qm_sbyt.getD 0 []).getD a.toInt.toNat 0) &&& 255) % 65536).toInt32).toInt < 65536) ∧ Q (some (.int ((Int32.toUInt32 (((qm_sbyt.getD 0 []).getD a.toInt.toNat 0) &&& 255) % 65536).toInt32))) h)
  refine ⟨(by omega), ?_⟩
  exact ⟨(by exact i2c_rng _), hq ((Int32.toUInt32 (((qm_sbyt.getD 0 []).getD a.toInt.toNat 0) &&& 255) % 65536).toInt32) (by exact ⟨i2c_rng _, chr_0 (show a.toInt.toNat < 5 by omega)⟩)⟩
-- java/lang/String.charAt(I)C
set_option maxRecDepth 100000 in
set_option maxHeartbeats 4000000 in
theorem tx_6_0 (X : qm_X) (h : qm_H) (a : Int32) (hp : 0 ≤ a.toInt ∧ a.toInt < 5) (Q : qm_Q) (hq : ∀ r : Int32, (r = (qm_sbyt.getD 0 []).getD a.toInt.toNat 0) → Q (some (.int r)) h) : qm_PW X 6 [.ref 110, .int a] h Q := by
  have hp0 : 0 ≤ a.toInt ∧ a.toInt < 5 := hp
  refine qm_seg_ok (C := qc_6) (rt := some .char) rfl rfl (cuts := []) 400 _ _ _ _ ?_
  show qm_PW X 5 [.ref 110] h _
  refine sf_5_110 X h  trivial _ (fun r1 p2 => ?_)
  show (r1 = 0 → (False)) ∧ (¬ r1 = 0 → (qm_PW X 7 [.ref 120, .int a] h _))
  refine ⟨fun c3 => ?_, fun c4 => ?_⟩
  · exact absurd (Eq.trans (Eq.symm p2) c3) (by decide)
  · refine tx_7_0 X h a (by omega) _ (fun r5 p6 => ?_)
    show (0 ≤ r5.toInt ∧ r5.toInt < 65536) ∧ Q (some (.int r5)) h
    exact ⟨(by exact p6.1), hq r5 (by show r5 = (qm_sbyt.getD 0 []).getD a.toInt.toNat 0; exact p6.2)⟩
theorem chr_1_0 : (Int32.toUInt32 (((qm_sbyt.getD 1 []).getD 0 0) &&& 255) % 65536).toInt32 = (qm_sbyt.getD 1 []).getD 0 0 := by decide +kernel
theorem chr_1_1 : (Int32.toUInt32 (((qm_sbyt.getD 1 []).getD 1 0) &&& 255) % 65536).toInt32 = (qm_sbyt.getD 1 []).getD 1 0 := by decide +kernel
theorem chr_1_2 : (Int32.toUInt32 (((qm_sbyt.getD 1 []).getD 2 0) &&& 255) % 65536).toInt32 = (qm_sbyt.getD 1 []).getD 2 0 := by decide +kernel
theorem chr_1_3 : (Int32.toUInt32 (((qm_sbyt.getD 1 []).getD 3 0) &&& 255) % 65536).toInt32 = (qm_sbyt.getD 1 []).getD 3 0 := by decide +kernel
theorem chr_1 {k : Nat} (hk : k < 4) : (Int32.toUInt32 (((qm_sbyt.getD 1 []).getD k 0) &&& 255) % 65536).toInt32 = (qm_sbyt.getD 1 []).getD k 0 := by
  have h : k = 0 ∨ k = 1 ∨ k = 2 ∨ k = 3 := by omega
  obtain q | q | q | q := h
  · rw [q]; exact chr_1_0
  · rw [q]; exact chr_1_1
  · rw [q]; exact chr_1_2
  · rw [q]; exact chr_1_3
-- java/lang/StringLatin1.charAt([BI)C
set_option maxRecDepth 100000 in
set_option maxHeartbeats 4000000 in
theorem tx_7_1 (X : qm_X) (h : qm_H) (a : Int32) (hp : 0 ≤ a.toInt ∧ a.toInt < 4) (Q : qm_Q) (hq : ∀ r : Int32, ((0 ≤ r.toInt ∧ r.toInt < 65536) ∧ r = (qm_sbyt.getD 1 []).getD a.toInt.toNat 0) → Q (some (.int r)) h) : qm_PW X 7 [.ref 121, .int a] h Q := by
  have hp0 : 0 ≤ a.toInt ∧ a.toInt < 4 := hp
  refine qm_seg_ok (C := qc_7) (rt := some .char) rfl rfl (cuts := []) 400 _ _ _ _ ?_
  show qm_PW X 8 [.int a, .int 4] h _
  refine sf_8 X h a (4 : Int32) (by have : (4 : Int32).toInt = 4 := rfl; omega) _ (fun p1 => ?_)
  show (0 ≤ a.toInt ∧ a.toInt < 4) ∧ ((0 ≤ ((Int32.toUInt32 (((qm_sbyt.getD 1 []).getD a.toInt.toNat 0) &&& 255) % 65536).toInt32).toInt ∧ ((Int32.toUInt32 (((qm_sbyt.getD 1 []).getD a.toInt.toNat 0) &&& 255) % 65536).toInt32).toInt < 65536) ∧ Q (some (.int ((Int32.toUInt32 (((qm_sbyt.getD 1 []).getD a.toInt.toNat 0) &&& 255) % 65536).toInt32))) h)
  refine ⟨(by omega), ?_⟩
  exact ⟨(by exact i2c_rng _), hq ((Int32.toUInt32 (((qm_sbyt.getD 1 []).getD a.toInt.toNat 0) &&& 255) % 65536).toInt32) (by exact ⟨i2c_rng _, chr_1 (show a.toInt.toNat < 4 by omega)⟩)⟩
-- java/lang/String.charAt(I)C
set_option maxRecDepth 100000 in
set_option maxHeartbeats 4000000 in
theorem tx_6_1 (X : qm_X) (h : qm_H) (a : Int32) (hp : 0 ≤ a.toInt ∧ a.toInt < 4) (Q : qm_Q) (hq : ∀ r : Int32, (r = (qm_sbyt.getD 1 []).getD a.toInt.toNat 0) → Q (some (.int r)) h) : qm_PW X 6 [.ref 111, .int a] h Q := by
  have hp0 : 0 ≤ a.toInt ∧ a.toInt < 4 := hp
  refine qm_seg_ok (C := qc_6) (rt := some .char) rfl rfl (cuts := []) 400 _ _ _ _ ?_
  show qm_PW X 5 [.ref 111] h _
  refine sf_5_111 X h  trivial _ (fun r1 p2 => ?_)
  show (r1 = 0 → (False)) ∧ (¬ r1 = 0 → (qm_PW X 7 [.ref 121, .int a] h _))
  refine ⟨fun c3 => ?_, fun c4 => ?_⟩
  · exact absurd (Eq.trans (Eq.symm p2) c3) (by decide)
  · refine tx_7_1 X h a (by omega) _ (fun r5 p6 => ?_)
    show (0 ≤ r5.toInt ∧ r5.toInt < 65536) ∧ Q (some (.int r5)) h
    exact ⟨(by exact p6.1), hq r5 (by show r5 = (qm_sbyt.getD 1 []).getD a.toInt.toNat 0; exact p6.2)⟩
theorem chr_2_0 : (Int32.toUInt32 (((qm_sbyt.getD 2 []).getD 0 0) &&& 255) % 65536).toInt32 = (qm_sbyt.getD 2 []).getD 0 0 := by decide +kernel
theorem chr_2_1 : (Int32.toUInt32 (((qm_sbyt.getD 2 []).getD 1 0) &&& 255) % 65536).toInt32 = (qm_sbyt.getD 2 []).getD 1 0 := by decide +kernel
theorem chr_2_2 : (Int32.toUInt32 (((qm_sbyt.getD 2 []).getD 2 0) &&& 255) % 65536).toInt32 = (qm_sbyt.getD 2 []).getD 2 0 := by decide +kernel
theorem chr_2 {k : Nat} (hk : k < 3) : (Int32.toUInt32 (((qm_sbyt.getD 2 []).getD k 0) &&& 255) % 65536).toInt32 = (qm_sbyt.getD 2 []).getD k 0 := by
  have h : k = 0 ∨ k = 1 ∨ k = 2 := by omega
  obtain q | q | q := h
  · rw [q]; exact chr_2_0
  · rw [q]; exact chr_2_1
  · rw [q]; exact chr_2_2
-- java/lang/StringLatin1.charAt([BI)C
set_option maxRecDepth 100000 in
set_option maxHeartbeats 4000000 in
theorem tx_7_2 (X : qm_X) (h : qm_H) (a : Int32) (hp : 0 ≤ a.toInt ∧ a.toInt < 3) (Q : qm_Q) (hq : ∀ r : Int32, ((0 ≤ r.toInt ∧ r.toInt < 65536) ∧ r = (qm_sbyt.getD 2 []).getD a.toInt.toNat 0) → Q (some (.int r)) h) : qm_PW X 7 [.ref 122, .int a] h Q := by
  have hp0 : 0 ≤ a.toInt ∧ a.toInt < 3 := hp
  refine qm_seg_ok (C := qc_7) (rt := some .char) rfl rfl (cuts := []) 400 _ _ _ _ ?_
  show qm_PW X 8 [.int a, .int 3] h _
  refine sf_8 X h a (3 : Int32) (by have : (3 : Int32).toInt = 3 := rfl; omega) _ (fun p1 => ?_)
  show (0 ≤ a.toInt ∧ a.toInt < 3) ∧ ((0 ≤ ((Int32.toUInt32 (((qm_sbyt.getD 2 []).getD a.toInt.toNat 0) &&& 255) % 65536).toInt32).toInt ∧ ((Int32.toUInt32 (((qm_sbyt.getD 2 []).getD a.toInt.toNat 0) &&& 255) % 65536).toInt32).toInt < 65536) ∧ Q (some (.int ((Int32.toUInt32 (((qm_sbyt.getD 2 []).getD a.toInt.toNat 0) &&& 255) % 65536).toInt32))) h)
  refine ⟨(by omega), ?_⟩
  exact ⟨(by exact i2c_rng _), hq ((Int32.toUInt32 (((qm_sbyt.getD 2 []).getD a.toInt.toNat 0) &&& 255) % 65536).toInt32) (by exact ⟨i2c_rng _, chr_2 (show a.toInt.toNat < 3 by omega)⟩)⟩
-- java/lang/String.charAt(I)C
set_option maxRecDepth 100000 in
set_option maxHeartbeats 4000000 in
theorem tx_6_2 (X : qm_X) (h : qm_H) (a : Int32) (hp : 0 ≤ a.toInt ∧ a.toInt < 3) (Q : qm_Q) (hq : ∀ r : Int32, (r = (qm_sbyt.getD 2 []).getD a.toInt.toNat 0) → Q (some (.int r)) h) : qm_PW X 6 [.ref 112, .int a] h Q := by
  have hp0 : 0 ≤ a.toInt ∧ a.toInt < 3 := hp
  refine qm_seg_ok (C := qc_6) (rt := some .char) rfl rfl (cuts := []) 400 _ _ _ _ ?_
  show qm_PW X 5 [.ref 112] h _
  refine sf_5_112 X h  trivial _ (fun r1 p2 => ?_)
  show (r1 = 0 → (False)) ∧ (¬ r1 = 0 → (qm_PW X 7 [.ref 122, .int a] h _))
  refine ⟨fun c3 => ?_, fun c4 => ?_⟩
  · exact absurd (Eq.trans (Eq.symm p2) c3) (by decide)
  · refine tx_7_2 X h a (by omega) _ (fun r5 p6 => ?_)
    show (0 ≤ r5.toInt ∧ r5.toInt < 65536) ∧ Q (some (.int r5)) h
    exact ⟨(by exact p6.1), hq r5 (by show r5 = (qm_sbyt.getD 2 []).getD a.toInt.toNat 0; exact p6.2)⟩
theorem chr_3_0 : (Int32.toUInt32 (((qm_sbyt.getD 3 []).getD 0 0) &&& 255) % 65536).toInt32 = (qm_sbyt.getD 3 []).getD 0 0 := by decide +kernel
theorem chr_3_1 : (Int32.toUInt32 (((qm_sbyt.getD 3 []).getD 1 0) &&& 255) % 65536).toInt32 = (qm_sbyt.getD 3 []).getD 1 0 := by decide +kernel
theorem chr_3_2 : (Int32.toUInt32 (((qm_sbyt.getD 3 []).getD 2 0) &&& 255) % 65536).toInt32 = (qm_sbyt.getD 3 []).getD 2 0 := by decide +kernel
theorem chr_3_3 : (Int32.toUInt32 (((qm_sbyt.getD 3 []).getD 3 0) &&& 255) % 65536).toInt32 = (qm_sbyt.getD 3 []).getD 3 0 := by decide +kernel
theorem chr_3_4 : (Int32.toUInt32 (((qm_sbyt.getD 3 []).getD 4 0) &&& 255) % 65536).toInt32 = (qm_sbyt.getD 3 []).getD 4 0 := by decide +kernel
theorem chr_3_5 : (Int32.toUInt32 (((qm_sbyt.getD 3 []).getD 5 0) &&& 255) % 65536).toInt32 = (qm_sbyt.getD 3 []).getD 5 0 := by decide +kernel
theorem chr_3_6 : (Int32.toUInt32 (((qm_sbyt.getD 3 []).getD 6 0) &&& 255) % 65536).toInt32 = (qm_sbyt.getD 3 []).getD 6 0 := by decide +kernel
theorem chr_3 {k : Nat} (hk : k < 7) : (Int32.toUInt32 (((qm_sbyt.getD 3 []).getD k 0) &&& 255) % 65536).toInt32 = (qm_sbyt.getD 3 []).getD k 0 := by
  have h : k = 0 ∨ k = 1 ∨ k = 2 ∨ k = 3 ∨ k = 4 ∨ k = 5 ∨ k = 6 := by omega
  obtain q | q | q | q | q | q | q := h
  · rw [q]; exact chr_3_0
  · rw [q]; exact chr_3_1
  · rw [q]; exact chr_3_2
  · rw [q]; exact chr_3_3
  · rw [q]; exact chr_3_4
  · rw [q]; exact chr_3_5
  · rw [q]; exact chr_3_6
-- java/lang/StringLatin1.charAt([BI)C
set_option maxRecDepth 100000 in
set_option maxHeartbeats 4000000 in
theorem tx_7_3 (X : qm_X) (h : qm_H) (a : Int32) (hp : 0 ≤ a.toInt ∧ a.toInt < 7) (Q : qm_Q) (hq : ∀ r : Int32, ((0 ≤ r.toInt ∧ r.toInt < 65536) ∧ r = (qm_sbyt.getD 3 []).getD a.toInt.toNat 0) → Q (some (.int r)) h) : qm_PW X 7 [.ref 123, .int a] h Q := by
  have hp0 : 0 ≤ a.toInt ∧ a.toInt < 7 := hp
  refine qm_seg_ok (C := qc_7) (rt := some .char) rfl rfl (cuts := []) 400 _ _ _ _ ?_
  show qm_PW X 8 [.int a, .int 7] h _
  refine sf_8 X h a (7 : Int32) (by have : (7 : Int32).toInt = 7 := rfl; omega) _ (fun p1 => ?_)
  show (0 ≤ a.toInt ∧ a.toInt < 7) ∧ ((0 ≤ ((Int32.toUInt32 (((qm_sbyt.getD 3 []).getD a.toInt.toNat 0) &&& 255) % 65536).toInt32).toInt ∧ ((Int32.toUInt32 (((qm_sbyt.getD 3 []).getD a.toInt.toNat 0) &&& 255) % 65536).toInt32).toInt < 65536) ∧ Q (some (.int ((Int32.toUInt32 (((qm_sbyt.getD 3 []).getD a.toInt.toNat 0) &&& 255) % 65536).toInt32))) h)
  refine ⟨(by omega), ?_⟩
  exact ⟨(by exact i2c_rng _), hq ((Int32.toUInt32 (((qm_sbyt.getD 3 []).getD a.toInt.toNat 0) &&& 255) % 65536).toInt32) (by exact ⟨i2c_rng _, chr_3 (show a.toInt.toNat < 7 by omega)⟩)⟩
-- java/lang/String.charAt(I)C
set_option maxRecDepth 100000 in
set_option maxHeartbeats 4000000 in
theorem tx_6_3 (X : qm_X) (h : qm_H) (a : Int32) (hp : 0 ≤ a.toInt ∧ a.toInt < 7) (Q : qm_Q) (hq : ∀ r : Int32, (r = (qm_sbyt.getD 3 []).getD a.toInt.toNat 0) → Q (some (.int r)) h) : qm_PW X 6 [.ref 113, .int a] h Q := by
  have hp0 : 0 ≤ a.toInt ∧ a.toInt < 7 := hp
  refine qm_seg_ok (C := qc_6) (rt := some .char) rfl rfl (cuts := []) 400 _ _ _ _ ?_
  show qm_PW X 5 [.ref 113] h _
  refine sf_5_113 X h  trivial _ (fun r1 p2 => ?_)
  show (r1 = 0 → (False)) ∧ (¬ r1 = 0 → (qm_PW X 7 [.ref 123, .int a] h _))
  refine ⟨fun c3 => ?_, fun c4 => ?_⟩
  · exact absurd (Eq.trans (Eq.symm p2) c3) (by decide)
  · refine tx_7_3 X h a (by omega) _ (fun r5 p6 => ?_)
    show (0 ≤ r5.toInt ∧ r5.toInt < 65536) ∧ Q (some (.int r5)) h
    exact ⟨(by exact p6.1), hq r5 (by show r5 = (qm_sbyt.getD 3 []).getD a.toInt.toNat 0; exact p6.2)⟩
theorem chr_4_0 : (Int32.toUInt32 (((qm_sbyt.getD 4 []).getD 0 0) &&& 255) % 65536).toInt32 = (qm_sbyt.getD 4 []).getD 0 0 := by decide +kernel
theorem chr_4_1 : (Int32.toUInt32 (((qm_sbyt.getD 4 []).getD 1 0) &&& 255) % 65536).toInt32 = (qm_sbyt.getD 4 []).getD 1 0 := by decide +kernel
theorem chr_4_2 : (Int32.toUInt32 (((qm_sbyt.getD 4 []).getD 2 0) &&& 255) % 65536).toInt32 = (qm_sbyt.getD 4 []).getD 2 0 := by decide +kernel
theorem chr_4 {k : Nat} (hk : k < 3) : (Int32.toUInt32 (((qm_sbyt.getD 4 []).getD k 0) &&& 255) % 65536).toInt32 = (qm_sbyt.getD 4 []).getD k 0 := by
  have h : k = 0 ∨ k = 1 ∨ k = 2 := by omega
  obtain q | q | q := h
  · rw [q]; exact chr_4_0
  · rw [q]; exact chr_4_1
  · rw [q]; exact chr_4_2
-- java/lang/StringLatin1.charAt([BI)C
set_option maxRecDepth 100000 in
set_option maxHeartbeats 4000000 in
theorem tx_7_4 (X : qm_X) (h : qm_H) (a : Int32) (hp : 0 ≤ a.toInt ∧ a.toInt < 3) (Q : qm_Q) (hq : ∀ r : Int32, ((0 ≤ r.toInt ∧ r.toInt < 65536) ∧ r = (qm_sbyt.getD 4 []).getD a.toInt.toNat 0) → Q (some (.int r)) h) : qm_PW X 7 [.ref 124, .int a] h Q := by
  have hp0 : 0 ≤ a.toInt ∧ a.toInt < 3 := hp
  refine qm_seg_ok (C := qc_7) (rt := some .char) rfl rfl (cuts := []) 400 _ _ _ _ ?_
  show qm_PW X 8 [.int a, .int 3] h _
  refine sf_8 X h a (3 : Int32) (by have : (3 : Int32).toInt = 3 := rfl; omega) _ (fun p1 => ?_)
  show (0 ≤ a.toInt ∧ a.toInt < 3) ∧ ((0 ≤ ((Int32.toUInt32 (((qm_sbyt.getD 4 []).getD a.toInt.toNat 0) &&& 255) % 65536).toInt32).toInt ∧ ((Int32.toUInt32 (((qm_sbyt.getD 4 []).getD a.toInt.toNat 0) &&& 255) % 65536).toInt32).toInt < 65536) ∧ Q (some (.int ((Int32.toUInt32 (((qm_sbyt.getD 4 []).getD a.toInt.toNat 0) &&& 255) % 65536).toInt32))) h)
  refine ⟨(by omega), ?_⟩
  exact ⟨(by exact i2c_rng _), hq ((Int32.toUInt32 (((qm_sbyt.getD 4 []).getD a.toInt.toNat 0) &&& 255) % 65536).toInt32) (by exact ⟨i2c_rng _, chr_4 (show a.toInt.toNat < 3 by omega)⟩)⟩
-- java/lang/String.charAt(I)C
set_option maxRecDepth 100000 in
set_option maxHeartbeats 4000000 in
theorem tx_6_4 (X : qm_X) (h : qm_H) (a : Int32) (hp : 0 ≤ a.toInt ∧ a.toInt < 3) (Q : qm_Q) (hq : ∀ r : Int32, (r = (qm_sbyt.getD 4 []).getD a.toInt.toNat 0) → Q (some (.int r)) h) : qm_PW X 6 [.ref 114, .int a] h Q := by
  have hp0 : 0 ≤ a.toInt ∧ a.toInt < 3 := hp
  refine qm_seg_ok (C := qc_6) (rt := some .char) rfl rfl (cuts := []) 400 _ _ _ _ ?_
  show qm_PW X 5 [.ref 114] h _
  refine sf_5_114 X h  trivial _ (fun r1 p2 => ?_)
  show (r1 = 0 → (False)) ∧ (¬ r1 = 0 → (qm_PW X 7 [.ref 124, .int a] h _))
  refine ⟨fun c3 => ?_, fun c4 => ?_⟩
  · exact absurd (Eq.trans (Eq.symm p2) c3) (by decide)
  · refine tx_7_4 X h a (by omega) _ (fun r5 p6 => ?_)
    show (0 ≤ r5.toInt ∧ r5.toInt < 65536) ∧ Q (some (.int r5)) h
    exact ⟨(by exact p6.1), hq r5 (by show r5 = (qm_sbyt.getD 4 []).getD a.toInt.toNat 0; exact p6.2)⟩
theorem chr_5_0 : (Int32.toUInt32 (((qm_sbyt.getD 5 []).getD 0 0) &&& 255) % 65536).toInt32 = (qm_sbyt.getD 5 []).getD 0 0 := by decide +kernel
theorem chr_5_1 : (Int32.toUInt32 (((qm_sbyt.getD 5 []).getD 1 0) &&& 255) % 65536).toInt32 = (qm_sbyt.getD 5 []).getD 1 0 := by decide +kernel
theorem chr_5_2 : (Int32.toUInt32 (((qm_sbyt.getD 5 []).getD 2 0) &&& 255) % 65536).toInt32 = (qm_sbyt.getD 5 []).getD 2 0 := by decide +kernel
theorem chr_5 {k : Nat} (hk : k < 3) : (Int32.toUInt32 (((qm_sbyt.getD 5 []).getD k 0) &&& 255) % 65536).toInt32 = (qm_sbyt.getD 5 []).getD k 0 := by
  have h : k = 0 ∨ k = 1 ∨ k = 2 := by omega
  obtain q | q | q := h
  · rw [q]; exact chr_5_0
  · rw [q]; exact chr_5_1
  · rw [q]; exact chr_5_2
-- java/lang/StringLatin1.charAt([BI)C
set_option maxRecDepth 100000 in
set_option maxHeartbeats 4000000 in
theorem tx_7_5 (X : qm_X) (h : qm_H) (a : Int32) (hp : 0 ≤ a.toInt ∧ a.toInt < 3) (Q : qm_Q) (hq : ∀ r : Int32, ((0 ≤ r.toInt ∧ r.toInt < 65536) ∧ r = (qm_sbyt.getD 5 []).getD a.toInt.toNat 0) → Q (some (.int r)) h) : qm_PW X 7 [.ref 125, .int a] h Q := by
  have hp0 : 0 ≤ a.toInt ∧ a.toInt < 3 := hp
  refine qm_seg_ok (C := qc_7) (rt := some .char) rfl rfl (cuts := []) 400 _ _ _ _ ?_
  show qm_PW X 8 [.int a, .int 3] h _
  refine sf_8 X h a (3 : Int32) (by have : (3 : Int32).toInt = 3 := rfl; omega) _ (fun p1 => ?_)
  show (0 ≤ a.toInt ∧ a.toInt < 3) ∧ ((0 ≤ ((Int32.toUInt32 (((qm_sbyt.getD 5 []).getD a.toInt.toNat 0) &&& 255) % 65536).toInt32).toInt ∧ ((Int32.toUInt32 (((qm_sbyt.getD 5 []).getD a.toInt.toNat 0) &&& 255) % 65536).toInt32).toInt < 65536) ∧ Q (some (.int ((Int32.toUInt32 (((qm_sbyt.getD 5 []).getD a.toInt.toNat 0) &&& 255) % 65536).toInt32))) h)
  refine ⟨(by omega), ?_⟩
  exact ⟨(by exact i2c_rng _), hq ((Int32.toUInt32 (((qm_sbyt.getD 5 []).getD a.toInt.toNat 0) &&& 255) % 65536).toInt32) (by exact ⟨i2c_rng _, chr_5 (show a.toInt.toNat < 3 by omega)⟩)⟩
-- java/lang/String.charAt(I)C
set_option maxRecDepth 100000 in
set_option maxHeartbeats 4000000 in
theorem tx_6_5 (X : qm_X) (h : qm_H) (a : Int32) (hp : 0 ≤ a.toInt ∧ a.toInt < 3) (Q : qm_Q) (hq : ∀ r : Int32, (r = (qm_sbyt.getD 5 []).getD a.toInt.toNat 0) → Q (some (.int r)) h) : qm_PW X 6 [.ref 115, .int a] h Q := by
  have hp0 : 0 ≤ a.toInt ∧ a.toInt < 3 := hp
  refine qm_seg_ok (C := qc_6) (rt := some .char) rfl rfl (cuts := []) 400 _ _ _ _ ?_
  show qm_PW X 5 [.ref 115] h _
  refine sf_5_115 X h  trivial _ (fun r1 p2 => ?_)
  show (r1 = 0 → (False)) ∧ (¬ r1 = 0 → (qm_PW X 7 [.ref 125, .int a] h _))
  refine ⟨fun c3 => ?_, fun c4 => ?_⟩
  · exact absurd (Eq.trans (Eq.symm p2) c3) (by decide)
  · refine tx_7_5 X h a (by omega) _ (fun r5 p6 => ?_)
    show (0 ≤ r5.toInt ∧ r5.toInt < 65536) ∧ Q (some (.int r5)) h
    exact ⟨(by exact p6.1), hq r5 (by show r5 = (qm_sbyt.getD 5 []).getD a.toInt.toNat 0; exact p6.2)⟩
