/-! Runs of the law, computed. -/
set_option maxRecDepth 100000 in
theorem f_0 : fin [] (run MM NF (PLW 6 scS 0) 15 592 (lawC [])) = true := by decide +kernel
set_option maxRecDepth 100000 in
theorem f_1_lt : fin [(2, 1, 0, true)] (run MM NF (PLW 6 scS 1) 15 592 (lawC [true, true])) = true := by decide +kernel
set_option maxRecDepth 100000 in
theorem f_1_gt : fin [(2, 1, 0, false), (4, 1, 20, true)] (run MM NF (PLW 6 scS 1) 15 592 (lawC [false, true, false, true])) = true := by decide +kernel
set_option maxRecDepth 100000 in
theorem f_2 : fin [] (run MM NF (PLW 6 scS 2) 15 592 (lawC [])) = true := by decide +kernel
set_option maxRecDepth 100000 in
theorem f_5 : fin [] (run MM NF (PLW 6 scS 5) 15 592 (lawC [])) = true := by decide +kernel
set_option maxRecDepth 100000 in
theorem f_6 : fin [] (run MM NF (PLW 6 scS 6) 15 592 (lawC [])) = true := by decide +kernel
set_option maxRecDepth 100000 in
theorem f_7_lt : fin [(2, 1, 0, true)] (run MM NF (PLW 6 scS 7) 15 592 (lawC [true, true])) = true := by decide +kernel
set_option maxRecDepth 100000 in
theorem f_7_ge : fin [(3, 1, 0, true), (2, 1, 0, false)] (run MM NF (PLW 6 scS 7) 15 592 (lawC [false, true, false, true])) = true := by decide +kernel
set_option maxRecDepth 100000 in
theorem f_8 : fin [] (run MM NF (PLW 6 scS 8) 15 592 (lawC [])) = true := by decide +kernel
set_option maxRecDepth 100000 in
theorem f_9_lt : fin [(2, 1, 0, true)] (run MM NF (PLW 6 scS 9) 15 592 (lawC [true, true])) = true := by decide +kernel
set_option maxRecDepth 100000 in
theorem f_9_ge : fin [(3, 1, 0, true), (2, 1, 0, false)] (run MM NF (PLW 6 scS 9) 15 592 (lawC [false, true, false, true])) = true := by decide +kernel
set_option maxRecDepth 100000 in
theorem f_10_lt : fin [(2, 1, 0, true)] (run MM NF (PLW 6 scS 10) 15 592 (lawC [true])) = true := by decide +kernel
set_option maxRecDepth 100000 in
theorem f_10_ge : fin [(3, 1, 0, true), (2, 1, 0, false)] (run MM NF (PLW 6 scS 10) 15 592 (lawC [false, true])) = true := by decide +kernel
set_option maxRecDepth 100000 in
theorem f_11_lt : fin [(2, 1, 0, true)] (run MM NF (PLW 6 scS 11) 15 592 (lawC [true])) = true := by decide +kernel
set_option maxRecDepth 100000 in
theorem f_11_ge : fin [(3, 1, 0, true), (2, 1, 0, false)] (run MM NF (PLW 6 scS 11) 15 592 (lawC [false, true])) = true := by decide +kernel
