theorem qm_ok_20 : (List.range' 200 10).all (fun m => (qm_code m).all (qm_ok m)) = true := by decide +kernel
theorem qm_ok_21 : (List.range' 210 10).all (fun m => (qm_code m).all (qm_ok m)) = true := by decide +kernel
theorem qm_ok_22 : (List.range' 220 10).all (fun m => (qm_code m).all (qm_ok m)) = true := by decide +kernel
theorem qm_ok_23 : (List.range' 230 9).all (fun m => (qm_code m).all (qm_ok m)) = true := by decide +kernel
