theorem qm_ok_0 : (List.range' 0 10).all (fun m => (qm_code m).all (qm_ok m)) = true := by decide +kernel
theorem qm_ok_1 : (List.range' 10 10).all (fun m => (qm_code m).all (qm_ok m)) = true := by decide +kernel
theorem qm_ok_2 : (List.range' 20 10).all (fun m => (qm_code m).all (qm_ok m)) = true := by decide +kernel
theorem qm_ok_3 : (List.range' 30 10).all (fun m => (qm_code m).all (qm_ok m)) = true := by decide +kernel
theorem qm_ok_4 : (List.range' 40 10).all (fun m => (qm_code m).all (qm_ok m)) = true := by decide +kernel
theorem qm_ok_5 : (List.range' 50 10).all (fun m => (qm_code m).all (qm_ok m)) = true := by decide +kernel
theorem qm_ok_6 : (List.range' 60 10).all (fun m => (qm_code m).all (qm_ok m)) = true := by decide +kernel
theorem qm_ok_7 : (List.range' 70 10).all (fun m => (qm_code m).all (qm_ok m)) = true := by decide +kernel
