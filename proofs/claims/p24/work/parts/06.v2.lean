theorem qm_ok_8 : (List.range' 80 10).all (fun m => (qm_code m).all (qm_ok m)) = true := by decide +kernel
theorem qm_ok_9 : (List.range' 90 10).all (fun m => (qm_code m).all (qm_ok m)) = true := by decide +kernel
theorem qm_ok_10 : (List.range' 100 10).all (fun m => (qm_code m).all (qm_ok m)) = true := by decide +kernel
theorem qm_ok_11 : (List.range' 110 10).all (fun m => (qm_code m).all (qm_ok m)) = true := by decide +kernel
theorem qm_ok_12 : (List.range' 120 10).all (fun m => (qm_code m).all (qm_ok m)) = true := by decide +kernel
theorem qm_ok_13 : (List.range' 130 10).all (fun m => (qm_code m).all (qm_ok m)) = true := by decide +kernel
theorem qm_ok_14 : (List.range' 140 10).all (fun m => (qm_code m).all (qm_ok m)) = true := by decide +kernel
