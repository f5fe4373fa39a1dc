theorem cl7 : (List.range 8).all (fun i => chkB 361 (pcs 361 (56 + i)) (MC 361 (56 + i))) = true := by decide +kernel
theorem cl8 : (List.range 8).all (fun i => chkB 361 (pcs 361 (64 + i)) (MC 361 (64 + i))) = true := by decide +kernel
theorem cl9 : (List.range 8).all (fun i => chkB 361 (pcs 361 (72 + i)) (MC 361 (72 + i))) = true := by decide +kernel
theorem cl10 : (List.range 8).all (fun i => chkB 361 (pcs 361 (80 + i)) (MC 361 (80 + i))) = true := by decide +kernel
theorem cl11 : (List.range 8).all (fun i => chkB 361 (pcs 361 (88 + i)) (MC 361 (88 + i))) = true := by decide +kernel
theorem cl12 : (List.range 8).all (fun i => chkB 361 (pcs 361 (96 + i)) (MC 361 (96 + i))) = true := by decide +kernel
theorem cl13 : (List.range 8).all (fun i => chkB 361 (pcs 361 (104 + i)) (MC 361 (104 + i))) = true := by decide +kernel
