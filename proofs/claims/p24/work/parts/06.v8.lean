theorem qm_chunk {α : Type} {p : α → Bool} {l : List α} {k c : Nat} (h1 : ((l.drop k).take c).all p = true) (h2 : (l.drop (k + c)).all p = true) : (l.drop k).all p = true := by
  rw [← List.take_append_drop c (l.drop k), List.all_append, h1, List.drop_drop, h2]
  rfl
theorem qm_okl : (qm_code 239).all (qm_ok 239) = true := by
  have e : ((qm_code 239).drop 850).all (qm_ok 239) = true := by decide +kernel
  have e := qm_chunk (k := 800) (c := 50) qm_okl_16 e
  have e := qm_chunk (k := 750) (c := 50) qm_okl_15 e
  have e := qm_chunk (k := 700) (c := 50) qm_okl_14 e
  have e := qm_chunk (k := 650) (c := 50) qm_okl_13 e
  have e := qm_chunk (k := 600) (c := 50) qm_okl_12 e
  have e := qm_chunk (k := 550) (c := 50) qm_okl_11 e
  have e := qm_chunk (k := 500) (c := 50) qm_okl_10 e
  have e := qm_chunk (k := 450) (c := 50) qm_okl_9 e
  have e := qm_chunk (k := 400) (c := 50) qm_okl_8 e
  have e := qm_chunk (k := 350) (c := 50) qm_okl_7 e
  have e := qm_chunk (k := 300) (c := 50) qm_okl_6 e
  have e := qm_chunk (k := 250) (c := 50) qm_okl_5 e
  have e := qm_chunk (k := 200) (c := 50) qm_okl_4 e
  have e := qm_chunk (k := 150) (c := 50) qm_okl_3 e
  have e := qm_chunk (k := 100) (c := 50) qm_okl_2 e
  have e := qm_chunk (k := 50) (c := 50) qm_okl_1 e
  have e := qm_chunk (k := 0) (c := 50) qm_okl_0 e
  exact e
def qm_mkk (m : Nat) : Bool := qm_mk m && qm_mk2 m
theorem qm_mk_0 : (List.range' 0 40).all qm_mkk = true := by decide +kernel
theorem qm_mk_1 : (List.range' 40 40).all qm_mkk = true := by decide +kernel
theorem qm_mk_2 : (List.range' 80 40).all qm_mkk = true := by decide +kernel
theorem qm_mk_3 : (List.range' 120 40).all qm_mkk = true := by decide +kernel
theorem qm_mk_4 : (List.range' 160 40).all qm_mkk = true := by decide +kernel
theorem qm_mk_5 : (List.range' 200 39).all qm_mkk = true := by decide +kernel
theorem qm_valid (m : Nat) (hm : m < qm_n) : (qm_code m).all (qm_ok m) = true := by
  have hm : m < 240 := hm
  have key : ∀ (k n : Nat), (List.range' k n).all (fun m => (qm_code m).all (qm_ok m)) = true → k ≤ m → m < k + n → (qm_code m).all (qm_ok m) = true := fun k n h h1 h2 => List.all_eq_true.mp h m (List.mem_range'_1.mpr ⟨h1, h2⟩)
  by_cases h0 : m < 10
  · exact key 0 10 qm_ok_0 (by omega) (by omega)
  by_cases h1 : m < 20
  · exact key 10 10 qm_ok_1 (by omega) (by omega)
  by_cases h2 : m < 30
  · exact key 20 10 qm_ok_2 (by omega) (by omega)
  by_cases h3 : m < 40
  · exact key 30 10 qm_ok_3 (by omega) (by omega)
  by_cases h4 : m < 50
  · exact key 40 10 qm_ok_4 (by omega) (by omega)
  by_cases h5 : m < 60
  · exact key 50 10 qm_ok_5 (by omega) (by omega)
  by_cases h6 : m < 70
  · exact key 60 10 qm_ok_6 (by omega) (by omega)
  by_cases h7 : m < 80
  · exact key 70 10 qm_ok_7 (by omega) (by omega)
  by_cases h8 : m < 90
  · exact key 80 10 qm_ok_8 (by omega) (by omega)
  by_cases h9 : m < 100
  · exact key 90 10 qm_ok_9 (by omega) (by omega)
  by_cases h10 : m < 110
  · exact key 100 10 qm_ok_10 (by omega) (by omega)
  by_cases h11 : m < 120
  · exact key 110 10 qm_ok_11 (by omega) (by omega)
  by_cases h12 : m < 130
  · exact key 120 10 qm_ok_12 (by omega) (by omega)
  by_cases h13 : m < 140
  · exact key 130 10 qm_ok_13 (by omega) (by omega)
  by_cases h14 : m < 150
  · exact key 140 10 qm_ok_14 (by omega) (by omega)
  by_cases h15 : m < 160
  · exact key 150 10 qm_ok_15 (by omega) (by omega)
  by_cases h16 : m < 170
  · exact key 160 10 qm_ok_16 (by omega) (by omega)
  by_cases h17 : m < 180
  · exact key 170 10 qm_ok_17 (by omega) (by omega)
  by_cases h18 : m < 190
  · exact key 180 10 qm_ok_18 (by omega) (by omega)
  by_cases h19 : m < 200
  · exact key 190 10 qm_ok_19 (by omega) (by omega)
  by_cases h20 : m < 210
  · exact key 200 10 qm_ok_20 (by omega) (by omega)
  by_cases h21 : m < 220
  · exact key 210 10 qm_ok_21 (by omega) (by omega)
  by_cases h22 : m < 230
  · exact key 220 10 qm_ok_22 (by omega) (by omega)
  by_cases h23 : m < 239
  · exact key 230 9 qm_ok_23 (by omega) (by omega)
  have e : m = 239 := by omega
  subst e
  exact qm_okl
theorem qm_mval (m : Nat) (hm : m < qm_law) : (qm_mk m && qm_mk2 m) = true := by
  have hm : m < 239 := hm
  have key : ∀ (k n : Nat), (List.range' k n).all qm_mkk = true → k ≤ m → m < k + n → (qm_mk m && qm_mk2 m) = true := fun k n h h1 h2 => List.all_eq_true.mp h m (List.mem_range'_1.mpr ⟨h1, h2⟩)
  by_cases h0 : m < 40
  · exact key 0 40 qm_mk_0 (by omega) (by omega)
  by_cases h1 : m < 80
  · exact key 40 40 qm_mk_1 (by omega) (by omega)
  by_cases h2 : m < 120
  · exact key 80 40 qm_mk_2 (by omega) (by omega)
  by_cases h3 : m < 160
  · exact key 120 40 qm_mk_3 (by omega) (by omega)
  by_cases h4 : m < 200
  · exact key 160 40 qm_mk_4 (by omega) (by omega)
  by_cases h5 : m < 239
  · exact key 200 39 qm_mk_5 (by omega) (by omega)
  exact absurd hm (by omega)
