theorem qm_okl_12 : (((qm_code 239).drop 600).take 50).all (qm_ok 239) = true := by decide +kernel
theorem qm_okl_13 : (((qm_code 239).drop 650).take 50).all (qm_ok 239) = true := by decide +kernel
theorem qm_okl_14 : (((qm_code 239).drop 700).take 50).all (qm_ok 239) = true := by decide +kernel
theorem qm_okl_15 : (((qm_code 239).drop 750).take 50).all (qm_ok 239) = true := by decide +kernel
theorem qm_okl_16 : (((qm_code 239).drop 800).take 50).all (qm_ok 239) = true := by decide +kernel
