/-! Runs of the law, computed. -/
set_option maxRecDepth 100000 in
theorem f_1_11 : fin [] (run MM NF (PLW 6 (scK 11) 1) 15 592 (lawC [])) = true := by decide +kernel
set_option maxRecDepth 100000 in
theorem f_1_12 : fin [] (run MM NF (PLW 6 (scK 12) 1) 15 592 (lawC [])) = true := by decide +kernel
set_option maxRecDepth 100000 in
theorem f_1_13 : fin [] (run MM NF (PLW 6 (scK 13) 1) 15 592 (lawC [])) = true := by decide +kernel
set_option maxRecDepth 100000 in
theorem f_1_14 : fin [] (run MM NF (PLW 6 (scK 14) 1) 15 592 (lawC [])) = true := by decide +kernel
set_option maxRecDepth 100000 in
theorem f_1_15 : fin [] (run MM NF (PLW 6 (scK 15) 1) 15 592 (lawC [])) = true := by decide +kernel
set_option maxRecDepth 100000 in
theorem f_1_16 : fin [] (run MM NF (PLW 6 (scK 16) 1) 15 592 (lawC [])) = true := by decide +kernel
set_option maxRecDepth 100000 in
theorem f_1_17 : fin [] (run MM NF (PLW 6 (scK 17) 1) 15 592 (lawC [])) = true := by decide +kernel
set_option maxRecDepth 100000 in
theorem f_1_18 : fin [] (run MM NF (PLW 6 (scK 18) 1) 15 592 (lawC [])) = true := by decide +kernel
set_option maxRecDepth 100000 in
theorem f_1_19 : fin [] (run MM NF (PLW 6 (scK 19) 1) 15 592 (lawC [])) = true := by decide +kernel
set_option maxRecDepth 100000 in
theorem f_1_20 : fin [] (run MM NF (PLW 6 (scK 20) 1) 15 592 (lawC [])) = true := by decide +kernel
