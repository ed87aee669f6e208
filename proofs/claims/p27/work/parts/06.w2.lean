theorem qww_0 : (List.range' 0 20).all qwm = true := by decide +kernel
theorem qww_20 : (List.range' 20 20).all qwm = true := by decide +kernel
theorem qww_40 : (List.range' 40 20).all qwm = true := by decide +kernel
theorem qww_60 : (List.range' 60 20).all qwm = true := by decide +kernel
theorem qww_80 : (List.range' 80 20).all qwm = true := by decide +kernel
theorem qww_100 : (List.range' 100 20).all qwm = true := by decide +kernel
theorem qww_120 : (List.range' 120 20).all qwm = true := by decide +kernel
theorem qww_140 : (List.range' 140 20).all qwm = true := by decide +kernel
theorem qww_160 : (List.range' 160 20).all qwm = true := by decide +kernel
theorem qww_180 : (List.range' 180 20).all qwm = true := by decide +kernel
theorem qww_200 : (List.range' 200 20).all qwm = true := by decide +kernel
theorem qww_220 : (List.range' 220 19).all qwm = true := by decide +kernel
theorem qwl_0 : qwk 239 (qoc 239) (((qm_code 239).drop 0).take 100) 0 (qm_b 239).data.toList = true := by decide +kernel
theorem qwl_100 : qwk 239 (qoc 239) (((qm_code 239).drop 100).take 100) 0 (qm_b 239).data.toList = true := by decide +kernel
theorem qwl_200 : qwk 239 (qoc 239) (((qm_code 239).drop 200).take 100) 0 (qm_b 239).data.toList = true := by decide +kernel
theorem qwl_300 : qwk 239 (qoc 239) (((qm_code 239).drop 300).take 100) 0 (qm_b 239).data.toList = true := by decide +kernel
theorem qwl_400 : qwk 239 (qoc 239) (((qm_code 239).drop 400).take 100) 0 (qm_b 239).data.toList = true := by decide +kernel
theorem qwl_500 : qwk 239 (qoc 239) (((qm_code 239).drop 500).take 100) 0 (qm_b 239).data.toList = true := by decide +kernel
theorem qwl_600 : qwk 239 (qoc 239) (((qm_code 239).drop 600).take 100) 0 (qm_b 239).data.toList = true := by decide +kernel
theorem qwl_700 : qwk 239 (qoc 239) (((qm_code 239).drop 700).take 100) 0 (qm_b 239).data.toList = true := by decide +kernel
theorem qwl_800 : qwk 239 (qoc 239) (((qm_code 239).drop 800).take 100) 0 (qm_b 239).data.toList = true := by decide +kernel
theorem qm_chunk {α : Type} {p : α → Bool} {l : List α} {k c : Nat} (h1 : ((l.drop k).take c).all p = true) (h2 : (l.drop (k + c)).all p = true) : (l.drop k).all p = true := by
  rw [← List.take_append_drop c (l.drop k), List.all_append, h1, List.drop_drop, h2]
  rfl
theorem qwl_own : qm_own 239 = qo (qoc 239) := qct_wm (by omega)
theorem qm_okl : (qm_code 239).all (qm_ok 239) = true := by
  have e : ((qm_code 239).drop 900).all (qm_ok 239) = true := by decide +kernel
  have e := qm_chunk (k := 800) (c := 100) (qwk_ok qwl_own _ 0 (qm_b 239).data.toList List.drop_zero qwl_800) e
  have e := qm_chunk (k := 700) (c := 100) (qwk_ok qwl_own _ 0 (qm_b 239).data.toList List.drop_zero qwl_700) e
  have e := qm_chunk (k := 600) (c := 100) (qwk_ok qwl_own _ 0 (qm_b 239).data.toList List.drop_zero qwl_600) e
  have e := qm_chunk (k := 500) (c := 100) (qwk_ok qwl_own _ 0 (qm_b 239).data.toList List.drop_zero qwl_500) e
  have e := qm_chunk (k := 400) (c := 100) (qwk_ok qwl_own _ 0 (qm_b 239).data.toList List.drop_zero qwl_400) e
  have e := qm_chunk (k := 300) (c := 100) (qwk_ok qwl_own _ 0 (qm_b 239).data.toList List.drop_zero qwl_300) e
  have e := qm_chunk (k := 200) (c := 100) (qwk_ok qwl_own _ 0 (qm_b 239).data.toList List.drop_zero qwl_200) e
  have e := qm_chunk (k := 100) (c := 100) (qwk_ok qwl_own _ 0 (qm_b 239).data.toList List.drop_zero qwl_100) e
  have e := qm_chunk (k := 0) (c := 100) (qwk_ok qwl_own _ 0 (qm_b 239).data.toList List.drop_zero qwl_0) e
  exact e
theorem qm_valid (m : Nat) (hm : m < qm_n) : (qm_code m).all (qm_ok m) = true := by
  have hm : m < 240 := hm
  have key : ∀ (k n : Nat), (List.range' k n).all qwm = true → k ≤ m → m < k + n → (qm_code m).all (qm_ok m) = true := fun k n h h1 h2 => qwm_ok (by omega) (List.all_eq_true.mp h m (List.mem_range'_1.mpr ⟨h1, h2⟩))
  by_cases h0 : m < 20
  · exact key 0 20 qww_0 (by omega) (by omega)
  by_cases h20 : m < 40
  · exact key 20 20 qww_20 (by omega) (by omega)
  by_cases h40 : m < 60
  · exact key 40 20 qww_40 (by omega) (by omega)
  by_cases h60 : m < 80
  · exact key 60 20 qww_60 (by omega) (by omega)
  by_cases h80 : m < 100
  · exact key 80 20 qww_80 (by omega) (by omega)
  by_cases h100 : m < 120
  · exact key 100 20 qww_100 (by omega) (by omega)
  by_cases h120 : m < 140
  · exact key 120 20 qww_120 (by omega) (by omega)
  by_cases h140 : m < 160
  · exact key 140 20 qww_140 (by omega) (by omega)
  by_cases h160 : m < 180
  · exact key 160 20 qww_160 (by omega) (by omega)
  by_cases h180 : m < 200
  · exact key 180 20 qww_180 (by omega) (by omega)
  by_cases h200 : m < 220
  · exact key 200 20 qww_200 (by omega) (by omega)
  by_cases h220 : m < 239
  · exact key 220 19 qww_220 (by omega) (by omega)
  have e : m = 239 := by omega
  subst e
  exact qm_okl
