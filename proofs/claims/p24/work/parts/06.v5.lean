theorem qm_okl_0 : (((qm_code 239).drop 0).take 50).all (qm_ok 239) = true := by decide +kernel
theorem qm_okl_1 : (((qm_code 239).drop 50).take 50).all (qm_ok 239) = true := by decide +kernel
theorem qm_okl_2 : (((qm_code 239).drop 100).take 50).all (qm_ok 239) = true := by decide +kernel
theorem qm_okl_3 : (((qm_code 239).drop 150).take 50).all (qm_ok 239) = true := by decide +kernel
theorem qm_okl_4 : (((qm_code 239).drop 200).take 50).all (qm_ok 239) = true := by decide +kernel
theorem qm_okl_5 : (((qm_code 239).drop 250).take 50).all (qm_ok 239) = true := by decide +kernel
