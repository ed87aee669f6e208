theorem qm_okl_6 : (((qm_code 239).drop 300).take 50).all (qm_ok 239) = true := by decide +kernel
theorem qm_okl_7 : (((qm_code 239).drop 350).take 50).all (qm_ok 239) = true := by decide +kernel
theorem qm_okl_8 : (((qm_code 239).drop 400).take 50).all (qm_ok 239) = true := by decide +kernel
theorem qm_okl_9 : (((qm_code 239).drop 450).take 50).all (qm_ok 239) = true := by decide +kernel
theorem qm_okl_10 : (((qm_code 239).drop 500).take 50).all (qm_ok 239) = true := by decide +kernel
theorem qm_okl_11 : (((qm_code 239).drop 550).take 50).all (qm_ok 239) = true := by decide +kernel
