theorem qm_ok_15 : (List.range' 150 10).all (fun m => (qm_code m).all (qm_ok m)) = true := by decide +kernel
theorem qm_ok_16 : (List.range' 160 10).all (fun m => (qm_code m).all (qm_ok m)) = true := by decide +kernel
theorem qm_ok_17 : (List.range' 170 10).all (fun m => (qm_code m).all (qm_ok m)) = true := by decide +kernel
theorem qm_ok_18 : (List.range' 180 10).all (fun m => (qm_code m).all (qm_ok m)) = true := by decide +kernel
theorem qm_ok_19 : (List.range' 190 10).all (fun m => (qm_code m).all (qm_ok m)) = true := by decide +kernel
