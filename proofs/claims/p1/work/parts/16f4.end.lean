/-! Runs of the law, computed. -/
set_option maxRecDepth 100000 in
theorem f_1_0 : fin [] (run MM NF (PLW 6 (scK 0) 1) 15 592 (lawC [])) = true := by decide +kernel
set_option maxRecDepth 100000 in
theorem f_1_1 : fin [] (run MM NF (PLW 6 (scK 1) 1) 15 592 (lawC [])) = true := by decide +kernel
set_option maxRecDepth 100000 in
theorem f_1_2 : fin [] (run MM NF (PLW 6 (scK 2) 1) 15 592 (lawC [])) = true := by decide +kernel
set_option maxRecDepth 100000 in
theorem f_1_3 : fin [] (run MM NF (PLW 6 (scK 3) 1) 15 592 (lawC [])) = true := by decide +kernel
set_option maxRecDepth 100000 in
theorem f_1_4 : fin [] (run MM NF (PLW 6 (scK 4) 1) 15 592 (lawC [])) = true := by decide +kernel
set_option maxRecDepth 100000 in
theorem f_1_5 : fin [] (run MM NF (PLW 6 (scK 5) 1) 15 592 (lawC [])) = true := by decide +kernel
set_option maxRecDepth 100000 in
theorem f_1_6 : fin [] (run MM NF (PLW 6 (scK 6) 1) 15 592 (lawC [])) = true := by decide +kernel
set_option maxRecDepth 100000 in
theorem f_1_7 : fin [] (run MM NF (PLW 6 (scK 7) 1) 15 592 (lawC [])) = true := by decide +kernel
set_option maxRecDepth 100000 in
theorem f_1_8 : fin [] (run MM NF (PLW 6 (scK 8) 1) 15 592 (lawC [])) = true := by decide +kernel
set_option maxRecDepth 100000 in
theorem f_1_9 : fin [] (run MM NF (PLW 6 (scK 9) 1) 15 592 (lawC [])) = true := by decide +kernel
set_option maxRecDepth 100000 in
theorem f_1_10 : fin [] (run MM NF (PLW 6 (scK 10) 1) 15 592 (lawC [])) = true := by decide +kernel
