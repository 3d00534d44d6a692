/-! Runs of the law, computed. -/
set_option maxRecDepth 100000 in
theorem f_12_0 : fin [] (run MM NF (PLW 6 (scK 0) 12) 15 592 (lawC [])) = true := by decide +kernel
set_option maxRecDepth 100000 in
theorem f_12_1 : fin [] (run MM NF (PLW 6 (scK 1) 12) 15 592 (lawC [])) = true := by decide +kernel
set_option maxRecDepth 100000 in
theorem f_12_2 : fin [] (run MM NF (PLW 6 (scK 2) 12) 15 592 (lawC [])) = true := by decide +kernel
set_option maxRecDepth 100000 in
theorem f_12_3 : fin [] (run MM NF (PLW 6 (scK 3) 12) 15 592 (lawC [])) = true := by decide +kernel
set_option maxRecDepth 100000 in
theorem f_12_4 : fin [] (run MM NF (PLW 6 (scK 4) 12) 15 592 (lawC [])) = true := by decide +kernel
set_option maxRecDepth 100000 in
theorem f_12_5 : fin [] (run MM NF (PLW 6 (scK 5) 12) 15 592 (lawC [])) = true := by decide +kernel
set_option maxRecDepth 100000 in
theorem f_12_out : fin [(6, 1, 5, true)] (run MM NF (PLW 6 scS 12) 15 592 (lawC [true, true])) = true := by decide +kernel
set_option maxRecDepth 100000 in
theorem f_13 : fin [] (run MM NF (PLW 6 scS 13) 15 592 (lawC [])) = true := by decide +kernel
set_option maxRecDepth 100000 in
theorem f_14 : fin [] (run MM NF (PLW 6 scS 14) 15 592 (lawC [])) = true := by decide +kernel
set_option maxRecDepth 100000 in
theorem f_15 : fin [] (run MM NF (PLW 6 scS 15) 15 592 (lawC [])) = true := by decide +kernel
set_option maxRecDepth 100000 in
theorem f_s0 : fin [] (run MM NF (PLA 0 scS) 15 592 (lawC [])) = true := by decide +kernel
set_option maxRecDepth 100000 in
theorem f_s1 : fin [] (run MM NF (PLA 1 scS) 15 592 (lawC [])) = true := by decide +kernel
set_option maxRecDepth 100000 in
theorem f_s2 : fin [] (run MM NF (PLA 2 scS) 15 592 (lawC [])) = true := by decide +kernel
set_option maxRecDepth 100000 in
theorem f_s3 : fin [] (run MM NF (PLA 3 scS) 15 592 (lawC [])) = true := by decide +kernel
set_option maxRecDepth 100000 in
theorem f_s4 : fin [] (run MM NF (PLA 4 scS) 15 592 (lawC [])) = true := by decide +kernel
set_option maxRecDepth 100000 in
theorem f_s5 : fin [] (run MM NF (PLA 5 scS) 15 592 (lawC [])) = true := by decide +kernel
