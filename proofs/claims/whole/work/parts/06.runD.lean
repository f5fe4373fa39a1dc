theorem cl14 : (List.range 8).all (fun i => chkB 361 (pcs 361 (112 + i)) (MC 361 (112 + i))) = true := by decide +kernel
theorem cl15 : (List.range 8).all (fun i => chkB 361 (pcs 361 (120 + i)) (MC 361 (120 + i))) = true := by decide +kernel
theorem cl16 : (List.range 8).all (fun i => chkB 361 (pcs 361 (128 + i)) (MC 361 (128 + i))) = true := by decide +kernel
theorem cl17 : (List.range 8).all (fun i => chkB 361 (pcs 361 (136 + i)) (MC 361 (136 + i))) = true := by decide +kernel
theorem cl18 : (List.range 8).all (fun i => chkB 361 (pcs 361 (144 + i)) (MC 361 (144 + i))) = true := by decide +kernel
theorem cl19 : (List.range 8).all (fun i => chkB 361 (pcs 361 (152 + i)) (MC 361 (152 + i))) = true := by decide +kernel
