/-! ===== what is asked of a method's own words, by numbers ===== -/
noncomputable def qdc (m : Nat) : Nat := (bif Nat.ble 120 m then (bif Nat.ble 180 m then (bif Nat.ble 210 m then (bif Nat.ble 225 m then (bif Nat.ble 232 m then (bif Nat.ble 236 m then (bif Nat.ble 238 m then (bif Nat.ble 239 m then 31 else 0) else (bif Nat.ble 237 m then 2 else 23)) else (bif Nat.ble 234 m then 14 else (bif Nat.ble 233 m then 11 else 0))) else (bif Nat.ble 228 m then (bif Nat.ble 230 m then (bif Nat.ble 231 m then 0 else 7) else (bif Nat.ble 229 m then 14 else 0)) else (bif Nat.ble 226 m then (bif Nat.ble 227 m then 12 else 0) else 1))) else (bif Nat.ble 217 m then (bif Nat.ble 221 m then (bif Nat.ble 223 m then 22 else (bif Nat.ble 222 m then 21 else 1)) else (bif Nat.ble 219 m then (bif Nat.ble 220 m then 25 else 26) else 0)) else (bif Nat.ble 213 m then (bif Nat.ble 215 m then (bif Nat.ble 216 m then 2 else 0) else (bif Nat.ble 214 m then 0 else 12)) else (bif Nat.ble 211 m then (bif Nat.ble 212 m then 0 else 2) else 2)))) else (bif Nat.ble 195 m then (bif Nat.ble 202 m then (bif Nat.ble 206 m then (bif Nat.ble 208 m then (bif Nat.ble 209 m then 2 else 0) else 0) else (bif Nat.ble 204 m then (bif Nat.ble 205 m then 0 else 2) else (bif Nat.ble 203 m then 0 else 10))) else (bif Nat.ble 198 m then (bif Nat.ble 200 m then (bif Nat.ble 201 m then 4 else 1) else (bif Nat.ble 199 m then 0 else 11)) else (bif Nat.ble 196 m then (bif Nat.ble 197 m then 0 else 1) else 0))) else (bif Nat.ble 187 m then (bif Nat.ble 191 m then (bif Nat.ble 193 m then (bif Nat.ble 194 m then 1 else 0) else (bif Nat.ble 192 m then 0 else 1)) else (bif Nat.ble 189 m then (bif Nat.ble 190 m then 0 else 14) else 1)) else (bif Nat.ble 183 m then (bif Nat.ble 185 m then 1 else (bif Nat.ble 184 m then 0 else 2)) else (bif Nat.ble 181 m then 0 else 15))))) else (bif Nat.ble 150 m then (bif Nat.ble 165 m then (bif Nat.ble 172 m then (bif Nat.ble 176 m then (bif Nat.ble 178 m then (bif Nat.ble 179 m then 12 else 11) else (bif Nat.ble 177 m then 15 else 0)) else 0) else (bif Nat.ble 168 m then (bif Nat.ble 170 m then (bif Nat.ble 171 m then 1 else 10) else (bif Nat.ble 169 m then 10 else 12)) else 12)) else (bif Nat.ble 157 m then (bif Nat.ble 161 m then (bif Nat.ble 163 m then (bif Nat.ble 164 m then 12 else 2) else (bif Nat.ble 162 m then 2 else 4)) else (bif Nat.ble 159 m then (bif Nat.ble 160 m then 1 else 10) else (bif Nat.ble 158 m then 15 else 2))) else (bif Nat.ble 153 m then (bif Nat.ble 155 m then (bif Nat.ble 156 m then 2 else 15) else 1) else (bif Nat.ble 151 m then (bif Nat.ble 152 m then 10 else 2) else 30)))) else (bif Nat.ble 135 m then (bif Nat.ble 142 m then (bif Nat.ble 146 m then (bif Nat.ble 148 m then (bif Nat.ble 149 m then 30 else 0) else (bif Nat.ble 147 m then 29 else 0)) else (bif Nat.ble 144 m then (bif Nat.ble 145 m then 0 else 10) else (bif Nat.ble 143 m then 10 else 28))) else (bif Nat.ble 138 m then (bif Nat.ble 140 m then (bif Nat.ble 141 m then 27 else 26) else (bif Nat.ble 139 m then 25 else 11)) else 12)) else (bif Nat.ble 127 m then (bif Nat.ble 131 m then (bif Nat.ble 133 m then (bif Nat.ble 134 m then 24 else 0) else (bif Nat.ble 132 m then 4 else 2)) else (bif Nat.ble 129 m then (bif Nat.ble 130 m then 11 else 0) else (bif Nat.ble 128 m then 2 else 23))) else (bif Nat.ble 123 m then (bif Nat.ble 125 m then 14 else 0) else (bif Nat.ble 121 m then (bif Nat.ble 122 m then 14 else 0) else 0)))))) else (bif Nat.ble 60 m then (bif Nat.ble 90 m then (bif Nat.ble 105 m then (bif Nat.ble 112 m then (bif Nat.ble 116 m then (bif Nat.ble 118 m then (bif Nat.ble 119 m then 1 else 22) else (bif Nat.ble 117 m then 22 else 21)) else (bif Nat.ble 114 m then 0 else (bif Nat.ble 113 m then 2 else 0))) else (bif Nat.ble 108 m then (bif Nat.ble 110 m then 2 else (bif Nat.ble 109 m then 2 else 0)) else 0)) else (bif Nat.ble 97 m then (bif Nat.ble 101 m then (bif Nat.ble 103 m then (bif Nat.ble 104 m then 1 else 0) else (bif Nat.ble 102 m then 1 else 0)) else (bif Nat.ble 99 m then (bif Nat.ble 100 m then 1 else 0) else (bif Nat.ble 98 m then 14 else 1))) else (bif Nat.ble 93 m then (bif Nat.ble 95 m then 1 else (bif Nat.ble 94 m then 0 else 2)) else (bif Nat.ble 91 m then (bif Nat.ble 92 m then 2 else 0) else 0)))) else (bif Nat.ble 75 m then (bif Nat.ble 82 m then (bif Nat.ble 86 m then (bif Nat.ble 88 m then (bif Nat.ble 89 m then 20 else 2) else (bif Nat.ble 87 m then 0 else 14)) else 4) else (bif Nat.ble 78 m then (bif Nat.ble 80 m then 4 else (bif Nat.ble 79 m then 4 else 11)) else (bif Nat.ble 76 m then (bif Nat.ble 77 m then 10 else 4) else 12))) else (bif Nat.ble 67 m then (bif Nat.ble 71 m then (bif Nat.ble 73 m then 1 else (bif Nat.ble 72 m then 1 else 19)) else (bif Nat.ble 69 m then (bif Nat.ble 70 m then 19 else 1) else (bif Nat.ble 68 m then 11 else 12))) else (bif Nat.ble 63 m then (bif Nat.ble 65 m then 12 else (bif Nat.ble 64 m then 1 else 11)) else (bif Nat.ble 61 m then (bif Nat.ble 62 m then 0 else 11) else 2))))) else (bif Nat.ble 30 m then (bif Nat.ble 45 m then (bif Nat.ble 52 m then (bif Nat.ble 56 m then (bif Nat.ble 58 m then (bif Nat.ble 59 m then 12 else 18) else (bif Nat.ble 57 m then 17 else 16)) else (bif Nat.ble 54 m then 0 else (bif Nat.ble 53 m then 1 else 2))) else (bif Nat.ble 48 m then (bif Nat.ble 50 m then (bif Nat.ble 51 m then 12 else 0) else (bif Nat.ble 49 m then 11 else 15)) else (bif Nat.ble 46 m then (bif Nat.ble 47 m then 14 else 11) else 13))) else (bif Nat.ble 37 m then (bif Nat.ble 41 m then (bif Nat.ble 43 m then (bif Nat.ble 44 m then 12 else 2) else 0) else (bif Nat.ble 39 m then (bif Nat.ble 40 m then 0 else 2) else 0)) else (bif Nat.ble 33 m then (bif Nat.ble 35 m then 0 else (bif Nat.ble 34 m then 2 else 0)) else (bif Nat.ble 31 m then (bif Nat.ble 32 m then 0 else 12) else 12)))) else (bif Nat.ble 15 m then (bif Nat.ble 22 m then (bif Nat.ble 26 m then (bif Nat.ble 28 m then 12 else (bif Nat.ble 27 m then 1 else 12)) else (bif Nat.ble 24 m then 11 else (bif Nat.ble 23 m then 9 else 10))) else (bif Nat.ble 18 m then (bif Nat.ble 20 m then (bif Nat.ble 21 m then 1 else 0) else (bif Nat.ble 19 m then 0 else 10)) else (bif Nat.ble 16 m then (bif Nat.ble 17 m then 2 else 0) else 2))) else (bif Nat.ble 7 m then (bif Nat.ble 11 m then (bif Nat.ble 13 m then (bif Nat.ble 14 m then 2 else 4) else (bif Nat.ble 12 m then 2 else 1)) else (bif Nat.ble 9 m then (bif Nat.ble 10 m then 9 else 8) else (bif Nat.ble 8 m then 7 else 6))) else (bif Nat.ble 3 m then (bif Nat.ble 5 m then (bif Nat.ble 6 m then 5 else 4) else (bif Nat.ble 4 m then 3 else 2)) else (bif Nat.ble 1 m then 1 else 0)))))))
set_option maxRecDepth 100000 in
theorem qds_eq : (qmn.map (fun m => (qct m).1.desc)) = qmn.map (fun m => (qds (qdc m)).1) := rfl
theorem qds_m {m : Nat} (hm : m < 240) : (qct m).1.desc = (qds (qdc m)).1 := by
  have h := congrArg (fun l => l[m]?) qds_eq
  simp only [List.getElem?_map, qmn_at m hm, Option.map_some, Option.some.injEq] at h
  exact h
noncomputable def qcl (k o : Nat) : Bool := match k with
  | 7 => Nat.beq o 2
  | 0 => Nat.beq o 5
  | 1 => Nat.beq o 6
  | 2 => Nat.beq o 7
  | 3 => Nat.beq o 8
  | 4 => Nat.beq o 9
  | 5 => Nat.beq o 10
  | _ => false
theorem qcl_7 {o : Nat} (h : qcl 7 o = true) : qo o = "java/lang/String" := by
  have e : o = 2 := Nat.eq_of_beq_eq_true h
  subst e
  rfl
theorem qcl_n {k o : Nat} (h7 : k ≠ 7) (h : qcl k o = true) : (vwCl[k]?).map (fun q => q.1) = some (qo o) := by
  have hk : (k = 0 ∧ o = 5) ∨ (k = 1 ∧ o = 6) ∨ (k = 2 ∧ o = 7) ∨ (k = 3 ∧ o = 8) ∨ (k = 4 ∧ o = 9) ∨ (k = 5 ∧ o = 10) := by
    unfold qcl at h
    split at h
    · exact absurd rfl h7
    · have e : o = 5 := Nat.eq_of_beq_eq_true h
      omega
    · have e : o = 6 := Nat.eq_of_beq_eq_true h
      omega
    · have e : o = 7 := Nat.eq_of_beq_eq_true h
      omega
    · have e : o = 8 := Nat.eq_of_beq_eq_true h
      omega
    · have e : o = 9 := Nat.eq_of_beq_eq_true h
      omega
    · have e : o = 10 := Nat.eq_of_beq_eq_true h
      omega
    · cases h
  rcases hk with ⟨rfl, rfl⟩ | ⟨rfl, rfl⟩ | ⟨rfl, rfl⟩ | ⟨rfl, rfl⟩ | ⟨rfl, rfl⟩ | ⟨rfl, rfl⟩
  · rfl
  · rfl
  · rfl
  · rfl
  · rfl
  · rfl
noncomputable def qmk (m : Nat) : Bool := match qm_hins.getD m [] with
  | [x, y] => Nat.beq (qm_cls m) 9 && qhas x.1 x.2 (2, m, 0, 0, 0) && qhas y.1 y.2 (5, qoc m, 0, 0, 0)
  | [x, y, z] => qcl (qm_cls m) (qoc m) && qhas x.1 x.2 (3, m, 0, 0, 0) && qhas y.1 y.2 (4, m, 0, 0, 0) && qhas z.1 z.2 (5, qoc m, 0, 0, 0)
  | _ => false
theorem qmk_ok {m : Nat} (hm : m < 240) (h : qmk m = true) : qm_mk m = true := by
  unfold qmk at h
  unfold qm_mk
  split at h
  · rename_i x y e
    rw [e]
    simp only [Bool.and_eq_true] at h
    obtain ⟨⟨h1, h2⟩, h3⟩ := h
    have e1 : qm_cls m = 9 := Nat.eq_of_beq_eq_true h1
    show (decide (qm_cls m = 9) && qm_has x.1 x.2 (.static (qm_y m)) && qm_has y.1 y.2 (.initialized (qm_y m).cls)) = true
    rw [decide_eq_true e1, qh2 hm h2, qh5 hm h3]
    rfl
  · rename_i x y z e
    rw [e]
    simp only [Bool.and_eq_true] at h
    obtain ⟨⟨⟨h1, h2⟩, h3⟩, h4⟩ := h
    have e9 : qm_cls m ≠ 9 := by
      intro q
      rw [q] at h1
      exact absurd (show false = true from h1) (by decide)
    show (decide (qm_cls m ≠ 9) && qm_has x.1 x.2 (.instanceMethod (qm_y m)) && qm_has y.1 y.2 (.selects (qm_y m).cls (qm_y m) (qm_y m)) && qm_has z.1 z.2 (.initialized (qm_y m).cls) && (if qm_cls m = 7 then decide ((qm_y m).cls = "java/lang/String") else decide ((vwCl[qm_cls m]?).map (fun q => q.1) = some (qm_y m).cls))) = true
    rw [decide_eq_true e9, qh3 hm h2, qh4 hm h3, qh5 hm h4]
    have ec : (qm_y m).cls = qo (qoc m) := by rw [qct_ym hm, qct_om hm]
    by_cases e7 : qm_cls m = 7
    · rw [if_pos e7, ec]
      rw [e7] at h1
      rw [decide_eq_true (qcl_7 h1)]
      rfl
    · rw [if_neg e7, ec, decide_eq_true (qcl_n e7 h1)]
      rfl
  · cases h
noncomputable def qnk (m : Nat) : Bool := Nat.ble (qoc m + 1) 12 && (Nat.ble 5 (qoc m) || Nat.ble (m + 1) 10) && Nat.ble (qdc m + 1) 32 && Nat.beq (qds (qdc m)).2 (qm_np m)
theorem qnk_ok {m : Nat} (hm : m < 240) (h : qnk m = true) : qm_mk2 m = true := by
  unfold qnk at h
  simp only [Bool.and_eq_true, Bool.or_eq_true] at h
  obtain ⟨⟨⟨h1, h2⟩, h3⟩, h4⟩ := h
  have ho : qoc m < 12 := Nat.le_of_ble_eq_true h1
  have hd : qdc m < 32 := Nat.le_of_ble_eq_true h3
  have e4 : (qds (qdc m)).2 = qm_np m := Nat.eq_of_beq_eq_true h4
  have ec : (qm_y m).cls = qo (qoc m) := by rw [qct_ym hm, qct_om hm]
  have ed : (qm_y m).desc = (qds (qdc m)).1 := by rw [qct_ym hm, qds_m hm]
  have n1 := qo_ne _ ho
  have hp : plainFor (qm_y m) = true := by
    rcases h2 with h2 | h2
    · exact plainFor_of_name (by rw [ec]; exact qo_plain _ ho (Nat.le_of_ble_eq_true h2))
    · rw [qct_ym hm]
      exact qj_plain _ (Nat.le_of_ble_eq_true h2)
  have hn : (parseMethodDescriptor (qm_y m).desc).map (fun d => d.parameters.length) = some (qm_np m) := by rw [ed, ← e4]; exact qds_ok _ hd
  have hw : qm_own m = (qm_y m).cls := by rw [ec, qct_wm hm]
  unfold qm_mk2
  rw [hp, decide_eq_true hn, decide_eq_true hw, decide_eq_true (show (qm_y m).cls ≠ "java/lang/invoke/MethodHandle" by rw [ec]; exact n1.1), decide_eq_true (show (qm_y m).cls ≠ "java/lang/invoke/VarHandle" by rw [ec]; exact n1.2)]
  rfl
noncomputable def qck (m : Nat) : Bool := let q := qm_cws.getD m (0, 0); qhas q.1 q.2 (1, m, 0, 0, 0)
noncomputable def qmm (m : Nat) : Bool := qmk m && qnk m && qck m
theorem qmm_all : (List.range' 0 239).all qmm = true := by decide +kernel
theorem qmm_at {m : Nat} (hm : m < 239) : qmm m = true := List.all_eq_true.mp qmm_all m (List.mem_range'_1.mpr ⟨by omega, by omega⟩)
theorem qm_mval (m : Nat) (hm : m < qm_law) : (qm_mk m && qm_mk2 m) = true := by
  have hm : m < 239 := hm
  have h := qmm_at hm
  unfold qmm at h
  simp only [Bool.and_eq_true] at h
  rw [qmk_ok (by omega) h.1.1, qnk_ok (by omega) h.1.2]
  rfl
theorem qm_cw (m : Nat) (hm : m < qm_law) : Cond.code (qm_y m) (qm_b m) (qm_ml m) (qm_ret m) ∈ qm_tbl := by
  have hm : m < 239 := hm
  have h := qmm_at hm
  unfold qmm at h
  simp only [Bool.and_eq_true] at h
  exact qm_has_mem (qh1 (j := (qm_cws.getD m (0, 0)).1) (p := (qm_cws.getD m (0, 0)).2) (by omega) h.2)
