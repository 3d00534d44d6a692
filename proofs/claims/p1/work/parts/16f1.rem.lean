/-! Runs of the law, computed. -/
set_option maxRecDepth 100000 in
theorem r_lt : remT [(2, 1, 0, true)] (run MM NF (PLW 6 scS 3) 15 592 (lawC [true])) 255 2 3 PH_remove 2 1 3 P_71 21 = true := by decide +kernel
set_option maxRecDepth 100000 in
theorem r_ge : remT [(3, 1, 0, true), (2, 1, 0, false)] (run MM NF (PLW 6 scS 3) 15 592 (lawC [false, true])) 255 2 3 PH_remove 2 1 3 P_71 21 = true := by decide +kernel
set_option maxRecDepth 100000 in
theorem t_z_lt : remT [(0, 2, 0, true), (2, 1, 0, true)] (run MM NF (PLW 6 scS 4) 15 592 (lawC [true, true, true, true])) 306 4 5 PH_tag 5 2 6 P_73 25 = true := by decide +kernel
set_option maxRecDepth 100000 in
theorem t_z_ge : remT [(0, 2, 0, true), (3, 1, 0, true), (2, 1, 0, false)] (run MM NF (PLW 6 scS 4) 15 592 (lawC [true, true, false, true, false, true])) 306 4 5 PH_tag 5 2 6 P_73 25 = true := by decide +kernel
set_option maxRecDepth 100000 in
theorem t_n_lt : remT [(0, 2, 0, false), (2, 1, 0, true)] (run MM NF (PLW 6 scS 4) 15 592 (lawC [false, false, true, true])) 306 4 5 PH_tag 5 2 6 P_73 25 = true := by decide +kernel
set_option maxRecDepth 100000 in
theorem t_n_ge : remT [(0, 2, 0, false), (3, 1, 0, true), (2, 1, 0, false)] (run MM NF (PLW 6 scS 4) 15 592 (lawC [false, false, false, true, false, true])) 306 4 5 PH_tag 5 2 6 P_73 25 = true := by decide +kernel
