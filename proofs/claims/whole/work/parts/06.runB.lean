theorem cl0 : (List.range 8).all (fun i => chkB 361 (pcs 361 (0 + i)) (MC 361 (0 + i))) = true := by decide +kernel
theorem cl1 : (List.range 8).all (fun i => chkB 361 (pcs 361 (8 + i)) (MC 361 (8 + i))) = true := by decide +kernel
theorem cl2 : (List.range 8).all (fun i => chkB 361 (pcs 361 (16 + i)) (MC 361 (16 + i))) = true := by decide +kernel
theorem cl3 : (List.range 8).all (fun i => chkB 361 (pcs 361 (24 + i)) (MC 361 (24 + i))) = true := by decide +kernel
theorem cl4 : (List.range 8).all (fun i => chkB 361 (pcs 361 (32 + i)) (MC 361 (32 + i))) = true := by decide +kernel
theorem cl5 : (List.range 8).all (fun i => chkB 361 (pcs 361 (40 + i)) (MC 361 (40 + i))) = true := by decide +kernel
theorem cl6 : (List.range 8).all (fun i => chkB 361 (pcs 361 (48 + i)) (MC 361 (48 + i))) = true := by decide +kernel
