/-! Fields and calls, by program. -/
theorem fk_0_0 : 0 < clN 0 ∧ fk 0 0 = 0 := by decide +kernel
theorem fk_0_1 : 1 < clN 0 ∧ fk 0 1 = 2 := by decide +kernel
theorem fk_0_2 : 2 < clN 0 ∧ fk 0 2 = 0 := by decide +kernel
theorem fk_1_0 : 0 < clN 1 ∧ fk 1 0 = 2 := by decide +kernel
theorem fk_1_1 : 1 < clN 1 ∧ fk 1 1 = 2 := by decide +kernel
theorem fk_1_2 : 2 < clN 1 ∧ fk 1 2 = 2 := by decide +kernel
theorem fk_1_3 : 3 < clN 1 ∧ fk 1 3 = 2 := by decide +kernel
theorem fk_1_4 : 4 < clN 1 ∧ fk 1 4 = 2 := by decide +kernel
theorem fk_1_5 : 5 < clN 1 ∧ fk 1 5 = 0 := by decide +kernel
theorem fk_1_6 : 6 < clN 1 ∧ fk 1 6 = 0 := by decide +kernel
theorem fk_2_0 : 0 < clN 2 ∧ fk 2 0 = 2 := by decide +kernel
theorem fk_2_1 : 1 < clN 2 ∧ fk 2 1 = 0 := by decide +kernel
theorem fk_3_0 : 0 < clN 3 ∧ fk 3 0 = 2 := by decide +kernel
theorem fk_3_1 : 1 < clN 3 ∧ fk 3 1 = 2 := by decide +kernel
theorem fk_3_2 : 2 < clN 3 ∧ fk 3 2 = 2 := by decide +kernel
theorem fk_3_3 : 3 < clN 3 ∧ fk 3 3 = 0 := by decide +kernel
theorem fk_3_4 : 4 < clN 3 ∧ fk 3 4 = 0 := by decide +kernel
theorem fk_4_0 : 0 < clN 4 ∧ fk 4 0 = 2 := by decide +kernel
theorem fk_4_1 : 1 < clN 4 ∧ fk 4 1 = 0 := by decide +kernel
theorem fk_4_2 : 2 < clN 4 ∧ fk 4 2 = 0 := by decide +kernel
theorem fk_4_3 : 3 < clN 4 ∧ fk 4 3 = 0 := by decide +kernel
theorem fk_4_4 : 4 < clN 4 ∧ fk 4 4 = 0 := by decide +kernel
theorem fk_4_5 : 5 < clN 4 ∧ fk 4 5 = 0 := by decide +kernel
theorem fk_4_6 : 6 < clN 4 ∧ fk 4 6 = 3 := by decide +kernel
theorem fk_4_7 : 7 < clN 4 ∧ fk 4 7 = 0 := by decide +kernel
theorem fk_4_8 : 8 < clN 4 ∧ fk 4 8 = 0 := by decide +kernel
theorem fk_5_0 : 0 < clN 5 ∧ fk 5 0 = 0 := by decide +kernel
theorem fk_5_1 : 1 < clN 5 ∧ fk 5 1 = 2 := by decide +kernel
theorem fk_5_2 : 2 < clN 5 ∧ fk 5 2 = 2 := by decide +kernel
theorem fk_5_3 : 3 < clN 5 ∧ fk 5 3 = 0 := by decide +kernel
theorem fk_5_4 : 4 < clN 5 ∧ fk 5 4 = 0 := by decide +kernel
theorem fk_5_5 : 5 < clN 5 ∧ fk 5 5 = 2 := by decide +kernel
theorem fk_5_6 : 6 < clN 5 ∧ fk 5 6 = 2 := by decide +kernel
theorem fk_5_7 : 7 < clN 5 ∧ fk 5 7 = 0 := by decide +kernel
theorem fk_6_0 : 0 < clN 6 ∧ fk 6 0 = 2 := by decide +kernel
theorem fk_6_1 : 1 < clN 6 ∧ fk 6 1 = 2 := by decide +kernel
theorem fk_6_2 : 2 < clN 6 ∧ fk 6 2 = 2 := by decide +kernel
theorem fk_6_3 : 3 < clN 6 ∧ fk 6 3 = 2 := by decide +kernel
theorem fk_6_4 : 4 < clN 6 ∧ fk 6 4 = 2 := by decide +kernel
theorem fk_6_5 : 5 < clN 6 ∧ fk 6 5 = 2 := by decide +kernel
theorem fk_6_6 : 6 < clN 6 ∧ fk 6 6 = 2 := by decide +kernel
theorem fk_6_7 : 7 < clN 6 ∧ fk 6 7 = 2 := by decide +kernel
theorem fk_6_8 : 8 < clN 6 ∧ fk 6 8 = 2 := by decide +kernel
theorem fk_6_9 : 9 < clN 6 ∧ fk 6 9 = 2 := by decide +kernel
theorem fk_6_10 : 10 < clN 6 ∧ fk 6 10 = 2 := by decide +kernel
theorem fk_6_11 : 11 < clN 6 ∧ fk 6 11 = 2 := by decide +kernel
theorem fk_6_12 : 12 < clN 6 ∧ fk 6 12 = 2 := by decide +kernel
theorem fk_6_13 : 13 < clN 6 ∧ fk 6 13 = 0 := by decide +kernel
theorem fk_6_14 : 14 < clN 6 ∧ fk 6 14 = 0 := by decide +kernel
theorem fk_7_0 : 0 < clN 7 ∧ fk 7 0 = 2 := by decide +kernel
theorem fk_7_1 : 1 < clN 7 ∧ fk 7 1 = 2 := by decide +kernel
theorem fk_7_2 : 2 < clN 7 ∧ fk 7 2 = 2 := by decide +kernel
theorem fk_7_3 : 3 < clN 7 ∧ fk 7 3 = 2 := by decide +kernel
theorem fk_7_4 : 4 < clN 7 ∧ fk 7 4 = 2 := by decide +kernel
theorem fk_7_5 : 5 < clN 7 ∧ fk 7 5 = 2 := by decide +kernel
theorem fk_7_6 : 6 < clN 7 ∧ fk 7 6 = 2 := by decide +kernel
theorem fk_7_7 : 7 < clN 7 ∧ fk 7 7 = 2 := by decide +kernel
theorem fk_7_8 : 8 < clN 7 ∧ fk 7 8 = 2 := by decide +kernel
theorem fk_7_9 : 9 < clN 7 ∧ fk 7 9 = 2 := by decide +kernel
theorem fk_7_10 : 10 < clN 7 ∧ fk 7 10 = 2 := by decide +kernel
theorem fk_7_11 : 11 < clN 7 ∧ fk 7 11 = 2 := by decide +kernel
theorem fk_7_12 : 12 < clN 7 ∧ fk 7 12 = 0 := by decide +kernel
theorem fk_7_13 : 13 < clN 7 ∧ fk 7 13 = 3 := by decide +kernel
theorem fk_7_14 : 14 < clN 7 ∧ fk 7 14 = 0 := by decide +kernel
theorem fk_7_15 : 15 < clN 7 ∧ fk 7 15 = 1 := by decide +kernel
theorem fk_7_16 : 16 < clN 7 ∧ fk 7 16 = 0 := by decide +kernel
theorem fk_8_0 : 0 < clN 8 ∧ fk 8 0 = 2 := by decide +kernel
theorem fk_8_1 : 1 < clN 8 ∧ fk 8 1 = 2 := by decide +kernel
theorem fk_8_2 : 2 < clN 8 ∧ fk 8 2 = 2 := by decide +kernel
theorem fk_8_3 : 3 < clN 8 ∧ fk 8 3 = 2 := by decide +kernel
theorem fk_8_4 : 4 < clN 8 ∧ fk 8 4 = 2 := by decide +kernel
theorem fk_8_5 : 5 < clN 8 ∧ fk 8 5 = 2 := by decide +kernel
theorem fk_8_6 : 6 < clN 8 ∧ fk 8 6 = 3 := by decide +kernel
theorem fk_9_0 : 0 < clN 9 ∧ fk 9 0 = 2 := by decide +kernel
theorem fk_9_1 : 1 < clN 9 ∧ fk 9 1 = 2 := by decide +kernel
theorem fk_9_2 : 2 < clN 9 ∧ fk 9 2 = 2 := by decide +kernel
theorem fk_9_3 : 3 < clN 9 ∧ fk 9 3 = 2 := by decide +kernel
theorem fk_9_4 : 4 < clN 9 ∧ fk 9 4 = 2 := by decide +kernel
theorem fk_9_5 : 5 < clN 9 ∧ fk 9 5 = 2 := by decide +kernel
theorem fk_9_6 : 6 < clN 9 ∧ fk 9 6 = 2 := by decide +kernel
theorem fk_9_7 : 7 < clN 9 ∧ fk 9 7 = 2 := by decide +kernel
theorem fk_9_8 : 8 < clN 9 ∧ fk 9 8 = 2 := by decide +kernel
theorem fk_9_9 : 9 < clN 9 ∧ fk 9 9 = 2 := by decide +kernel
theorem fk_9_10 : 10 < clN 9 ∧ fk 9 10 = 2 := by decide +kernel
theorem fk_9_11 : 11 < clN 9 ∧ fk 9 11 = 2 := by decide +kernel
theorem fk_9_12 : 12 < clN 9 ∧ fk 9 12 = 2 := by decide +kernel
theorem fk_9_13 : 13 < clN 9 ∧ fk 9 13 = 0 := by decide +kernel
theorem fk_9_14 : 14 < clN 9 ∧ fk 9 14 = 0 := by decide +kernel
theorem fk_9_15 : 15 < clN 9 ∧ fk 9 15 = 0 := by decide +kernel
theorem fk_9_16 : 16 < clN 9 ∧ fk 9 16 = 0 := by decide +kernel
theorem fk_10_0 : 0 < clN 10 ∧ fk 10 0 = 0 := by decide +kernel
theorem fk_10_1 : 1 < clN 10 ∧ fk 10 1 = 2 := by decide +kernel
theorem fk_10_2 : 2 < clN 10 ∧ fk 10 2 = 2 := by decide +kernel
theorem fk_10_3 : 3 < clN 10 ∧ fk 10 3 = 0 := by decide +kernel
theorem fk_10_4 : 4 < clN 10 ∧ fk 10 4 = 0 := by decide +kernel
theorem fk_10_5 : 5 < clN 10 ∧ fk 10 5 = 0 := by decide +kernel
theorem fk_10_6 : 6 < clN 10 ∧ fk 10 6 = 2 := by decide +kernel
theorem fk_10_7 : 7 < clN 10 ∧ fk 10 7 = 2 := by decide +kernel
theorem fk_10_8 : 8 < clN 10 ∧ fk 10 8 = 2 := by decide +kernel
theorem fk_10_9 : 9 < clN 10 ∧ fk 10 9 = 2 := by decide +kernel
theorem fk_10_10 : 10 < clN 10 ∧ fk 10 10 = 2 := by decide +kernel
theorem fk_10_11 : 11 < clN 10 ∧ fk 10 11 = 2 := by decide +kernel
theorem fk_10_12 : 12 < clN 10 ∧ fk 10 12 = 0 := by decide +kernel
theorem fk_10_13 : 13 < clN 10 ∧ fk 10 13 = 2 := by decide +kernel
theorem fk_10_14 : 14 < clN 10 ∧ fk 10 14 = 2 := by decide +kernel
theorem fk_10_15 : 15 < clN 10 ∧ fk 10 15 = 2 := by decide +kernel
theorem fk_10_16 : 16 < clN 10 ∧ fk 10 16 = 1 := by decide +kernel
theorem fk_10_17 : 17 < clN 10 ∧ fk 10 17 = 2 := by decide +kernel
theorem fk_10_18 : 18 < clN 10 ∧ fk 10 18 = 0 := by decide +kernel
theorem fk_10_19 : 19 < clN 10 ∧ fk 10 19 = 0 := by decide +kernel
theorem fk_10_20 : 20 < clN 10 ∧ fk 10 20 = 2 := by decide +kernel
theorem fk_10_21 : 21 < clN 10 ∧ fk 10 21 = 2 := by decide +kernel
theorem fk_10_22 : 22 < clN 10 ∧ fk 10 22 = 2 := by decide +kernel
theorem fk_10_23 : 23 < clN 10 ∧ fk 10 23 = 0 := by decide +kernel
theorem fk_10_24 : 24 < clN 10 ∧ fk 10 24 = 2 := by decide +kernel
theorem fk_10_25 : 25 < clN 10 ∧ fk 10 25 = 0 := by decide +kernel
theorem fk_10_26 : 26 < clN 10 ∧ fk 10 26 = 0 := by decide +kernel
theorem fk_10_27 : 27 < clN 10 ∧ fk 10 27 = 2 := by decide +kernel
theorem fk_10_28 : 28 < clN 10 ∧ fk 10 28 = 0 := by decide +kernel
theorem fk_10_29 : 29 < clN 10 ∧ fk 10 29 = 0 := by decide +kernel
theorem fk_10_30 : 30 < clN 10 ∧ fk 10 30 = 2 := by decide +kernel
theorem fk_10_31 : 31 < clN 10 ∧ fk 10 31 = 2 := by decide +kernel
theorem fk_10_32 : 32 < clN 10 ∧ fk 10 32 = 2 := by decide +kernel
theorem fk_10_33 : 33 < clN 10 ∧ fk 10 33 = 0 := by decide +kernel
theorem fk_10_34 : 34 < clN 10 ∧ fk 10 34 = 2 := by decide +kernel
theorem fk_10_35 : 35 < clN 10 ∧ fk 10 35 = 2 := by decide +kernel
theorem fk_10_36 : 36 < clN 10 ∧ fk 10 36 = 0 := by decide +kernel
theorem fk_10_37 : 37 < clN 10 ∧ fk 10 37 = 0 := by decide +kernel
theorem fk_10_38 : 38 < clN 10 ∧ fk 10 38 = 2 := by decide +kernel
theorem fk_10_39 : 39 < clN 10 ∧ fk 10 39 = 2 := by decide +kernel
theorem fk_10_40 : 40 < clN 10 ∧ fk 10 40 = 2 := by decide +kernel
theorem fk_10_41 : 41 < clN 10 ∧ fk 10 41 = 2 := by decide +kernel
theorem fk_10_42 : 42 < clN 10 ∧ fk 10 42 = 2 := by decide +kernel
theorem fk_10_43 : 43 < clN 10 ∧ fk 10 43 = 2 := by decide +kernel
theorem fk_10_44 : 44 < clN 10 ∧ fk 10 44 = 0 := by decide +kernel
theorem fk_10_45 : 45 < clN 10 ∧ fk 10 45 = 0 := by decide +kernel
theorem fk_10_46 : 46 < clN 10 ∧ fk 10 46 = 0 := by decide +kernel
theorem fk_10_47 : 47 < clN 10 ∧ fk 10 47 = 0 := by decide +kernel
theorem fk_10_48 : 48 < clN 10 ∧ fk 10 48 = 0 := by decide +kernel
theorem fk_10_49 : 49 < clN 10 ∧ fk 10 49 = 2 := by decide +kernel
theorem fk_10_50 : 50 < clN 10 ∧ fk 10 50 = 2 := by decide +kernel
theorem fk_10_51 : 51 < clN 10 ∧ fk 10 51 = 2 := by decide +kernel
theorem fk_10_52 : 52 < clN 10 ∧ fk 10 52 = 2 := by decide +kernel
theorem fk_10_53 : 53 < clN 10 ∧ fk 10 53 = 2 := by decide +kernel
theorem fk_10_54 : 54 < clN 10 ∧ fk 10 54 = 2 := by decide +kernel
theorem fk_10_55 : 55 < clN 10 ∧ fk 10 55 = 2 := by decide +kernel
theorem fk_10_56 : 56 < clN 10 ∧ fk 10 56 = 2 := by decide +kernel
theorem fk_10_57 : 57 < clN 10 ∧ fk 10 57 = 2 := by decide +kernel
theorem fk_10_58 : 58 < clN 10 ∧ fk 10 58 = 2 := by decide +kernel
theorem fk_10_59 : 59 < clN 10 ∧ fk 10 59 = 2 := by decide +kernel
theorem fk_10_60 : 60 < clN 10 ∧ fk 10 60 = 0 := by decide +kernel
theorem fk_10_62 : 62 < clN 10 ∧ fk 10 62 = 0 := by decide +kernel
theorem fk_10_63 : 63 < clN 10 ∧ fk 10 63 = 0 := by decide +kernel
theorem fk_10_64 : 64 < clN 10 ∧ fk 10 64 = 2 := by decide +kernel
theorem fk_10_65 : 65 < clN 10 ∧ fk 10 65 = 2 := by decide +kernel
theorem fk_10_66 : 66 < clN 10 ∧ fk 10 66 = 2 := by decide +kernel
theorem fk_10_67 : 67 < clN 10 ∧ fk 10 67 = 0 := by decide +kernel
theorem fk_10_68 : 68 < clN 10 ∧ fk 10 68 = 2 := by decide +kernel
theorem fk_10_69 : 69 < clN 10 ∧ fk 10 69 = 2 := by decide +kernel
set_option maxRecDepth 100000 in
theorem p_c1_11 : PR RX0 "<init>" 11 1 0 := ⟨put_okF (j := 0) (C := RX0) (T := TX0) (N := 7) (ci := 1) rfl (by decide) rfl rfl rfl (tin 1 60 (by decide +kernel) rfl), fk_1_0.1, fk_1_0.2⟩
set_option maxRecDepth 100000 in
theorem p_c1_15 {nm : String} : PR RX0 nm 15 1 1 := ⟨put_ok (j := 1) (C := RX0) (T := TX0) (N := 7) (ci := 1) rfl (by decide) rfl (tin 1 61 (by decide +kernel) rfl) , fk_1_1.1, fk_1_1.2⟩
set_option maxRecDepth 100000 in
theorem p_c1_18 {nm : String} : PR RX0 nm 18 1 2 := ⟨put_ok (j := 2) (C := RX0) (T := TX0) (N := 7) (ci := 1) rfl (by decide) rfl (tin 1 62 (by decide +kernel) rfl) , fk_1_2.1, fk_1_2.2⟩
set_option maxRecDepth 100000 in
theorem p_c1_21 {nm : String} : PR RX0 nm 21 1 3 := ⟨put_ok (j := 3) (C := RX0) (T := TX0) (N := 7) (ci := 1) rfl (by decide) rfl (tin 1 63 (by decide +kernel) rfl) , fk_1_3.1, fk_1_3.2⟩
set_option maxRecDepth 100000 in
theorem p_c1_24 {nm : String} : PR RX0 nm 24 1 4 := ⟨put_ok (j := 4) (C := RX0) (T := TX0) (N := 7) (ci := 1) rfl (by decide) rfl (tin 1 64 (by decide +kernel) rfl) , fk_1_4.1, fk_1_4.2⟩
set_option maxRecDepth 100000 in
theorem g_c1_28 : GI RX0 28 1 5 := ⟨get_ok (j := 5) (C := RX0) (T := TX0) (N := 7) (ci := 1) rfl (by decide) (tin 1 65 (by decide +kernel) rfl) , fk_1_5.1, Or.inl fk_1_5.2⟩
set_option maxRecDepth 100000 in
theorem g_c1_18 : GR RX0 18 1 2 := ⟨get_ok (j := 2) (C := RX0) (T := TX0) (N := 7) (ci := 1) rfl (by decide) (tin 1 62 (by decide +kernel) rfl) , fk_1_2.1, fk_1_2.2⟩
set_option maxRecDepth 100000 in
theorem g_c1_24 : GR RX0 24 1 4 := ⟨get_ok (j := 4) (C := RX0) (T := TX0) (N := 7) (ci := 1) rfl (by decide) (tin 1 64 (by decide +kernel) rfl) , fk_1_4.1, fk_1_4.2⟩
set_option maxRecDepth 100000 in
theorem g_c1_11 : GR RX0 11 1 0 := ⟨get_ok (j := 0) (C := RX0) (T := TX0) (N := 7) (ci := 1) rfl (by decide) (tin 1 60 (by decide +kernel) rfl) , fk_1_0.1, fk_1_0.2⟩
set_option maxRecDepth 100000 in
theorem g_c1_15 : GR RX0 15 1 1 := ⟨get_ok (j := 1) (C := RX0) (T := TX0) (N := 7) (ci := 1) rfl (by decide) (tin 1 61 (by decide +kernel) rfl) , fk_1_1.1, fk_1_1.2⟩
set_option maxRecDepth 100000 in
theorem g_c2_15 : GI RX1 15 2 1 := ⟨get_ok (j := 1) (C := RX1) (T := TX1) (N := 2) (ci := 2) rfl (by decide) (tin 1 47 (by decide +kernel) rfl) , fk_2_1.1, Or.inl fk_2_1.2⟩
set_option maxRecDepth 100000 in
theorem g_c2_9 : GR RX1 9 2 0 := ⟨get_ok (j := 0) (C := RX1) (T := TX1) (N := 2) (ci := 2) rfl (by decide) (tin 1 46 (by decide +kernel) rfl) , fk_2_0.1, fk_2_0.2⟩
set_option maxRecDepth 100000 in
theorem p_c1_28 {nm : String} : PI RX0 nm 28 1 5 := ⟨put_ok (j := 5) (C := RX0) (T := TX0) (N := 7) (ci := 1) rfl (by decide) rfl (tin 1 65 (by decide +kernel) rfl) , fk_1_5.1, fk_1_5.2⟩
set_option maxRecDepth 100000 in
theorem g_c1_21 : GR RX0 21 1 3 := ⟨get_ok (j := 3) (C := RX0) (T := TX0) (N := 7) (ci := 1) rfl (by decide) (tin 1 63 (by decide +kernel) rfl) , fk_1_3.1, fk_1_3.2⟩
set_option maxRecDepth 100000 in
theorem g_c1_65 : GI RX0 65 1 6 := ⟨get_ok (j := 6) (C := RX0) (T := TX0) (N := 7) (ci := 1) rfl (by decide) (tin 1 66 (by decide +kernel) rfl) , fk_1_6.1, Or.inl fk_1_6.2⟩
set_option maxRecDepth 100000 in
theorem p_c1_65 {nm : String} : PI RX0 nm 65 1 6 := ⟨put_ok (j := 6) (C := RX0) (T := TX0) (N := 7) (ci := 1) rfl (by decide) rfl (tin 1 66 (by decide +kernel) rfl) , fk_1_6.1, fk_1_6.2⟩
set_option maxRecDepth 100000 in
theorem p_c2_9 : PR RX1 "<init>" 9 2 0 := ⟨put_okF (j := 0) (C := RX1) (T := TX1) (N := 2) (ci := 2) rfl (by decide) rfl rfl rfl (tin 1 46 (by decide +kernel) rfl), fk_2_0.1, fk_2_0.2⟩
set_option maxRecDepth 100000 in
theorem p_c2_15 {nm : String} : PI RX1 nm 15 2 1 := ⟨put_ok (j := 1) (C := RX1) (T := TX1) (N := 2) (ci := 2) rfl (by decide) rfl (tin 1 47 (by decide +kernel) rfl) , fk_2_1.1, fk_2_1.2⟩
set_option maxRecDepth 100000 in
theorem p_c5_11 : PR RX4 "<init>" 11 3 1 := ⟨put_okF (j := 1) (C := RX4) (T := TX4) (N := 5) (ci := 3) rfl (by decide) rfl rfl rfl (tin 1 152 (by decide +kernel) rfl), fk_3_1.1, fk_3_1.2⟩
set_option maxRecDepth 100000 in
theorem p_c5_15 : PR RX4 "<init>" 15 3 2 := ⟨put_okF (j := 2) (C := RX4) (T := TX4) (N := 5) (ci := 3) rfl (by decide) rfl rfl rfl (tin 1 153 (by decide +kernel) rfl), fk_3_2.1, fk_3_2.2⟩
set_option maxRecDepth 100000 in
theorem p_c5_18 : PR RX4 "<init>" 18 3 0 := ⟨put_okF (j := 0) (C := RX4) (T := TX4) (N := 5) (ci := 3) rfl (by decide) rfl rfl rfl (tin 1 151 (by decide +kernel) rfl), fk_3_0.1, fk_3_0.2⟩
set_option maxRecDepth 100000 in
theorem p_c5_22 {nm : String} : PI RX4 nm 22 3 4 := ⟨put_ok (j := 4) (C := RX4) (T := TX4) (N := 5) (ci := 3) rfl (by decide) rfl (tin 1 156 (by decide +kernel) rfl) , fk_3_4.1, fk_3_4.2⟩
set_option maxRecDepth 100000 in
theorem g_c5_11 : GR RX4 11 3 1 := ⟨get_ok (j := 1) (C := RX4) (T := TX4) (N := 5) (ci := 3) rfl (by decide) (tin 1 152 (by decide +kernel) rfl) , fk_3_1.1, fk_3_1.2⟩
set_option maxRecDepth 100000 in
theorem g_c5_15 : GR RX4 15 3 2 := ⟨get_ok (j := 2) (C := RX4) (T := TX4) (N := 5) (ci := 3) rfl (by decide) (tin 1 153 (by decide +kernel) rfl) , fk_3_2.1, fk_3_2.2⟩
set_option maxRecDepth 100000 in
theorem p_c5_32 {nm : String} : PI RX4 nm 32 3 3 := ⟨put_ok (j := 3) (C := RX4) (T := TX4) (N := 5) (ci := 3) rfl (by decide) rfl (tin 1 154 (by decide +kernel) rfl) , fk_3_3.1, fk_3_3.2⟩
set_option maxRecDepth 100000 in
theorem g_c5_22 : GI RX4 22 3 4 := ⟨get_ok (j := 4) (C := RX4) (T := TX4) (N := 5) (ci := 3) rfl (by decide) (tin 1 156 (by decide +kernel) rfl) , fk_3_4.1, Or.inl fk_3_4.2⟩
set_option maxRecDepth 100000 in
theorem g_c5_32 : GI RX4 32 3 3 := ⟨get_ok (j := 3) (C := RX4) (T := TX4) (N := 5) (ci := 3) rfl (by decide) (tin 1 154 (by decide +kernel) rfl) , fk_3_3.1, Or.inl fk_3_3.2⟩
set_option maxRecDepth 100000 in
theorem g_c5_18 : GR RX4 18 3 0 := ⟨get_ok (j := 0) (C := RX4) (T := TX4) (N := 5) (ci := 3) rfl (by decide) (tin 1 151 (by decide +kernel) rfl) , fk_3_0.1, fk_3_0.2⟩
set_option maxRecDepth 100000 in
theorem p_c6_9 : PR RX5 "<init>" 9 4 0 := ⟨put_okF (j := 0) (C := RX5) (T := TX5) (N := 9) (ci := 4) rfl (by decide) rfl rfl rfl (tin 1 229 (by decide +kernel) rfl), fk_4_0.1, fk_4_0.2⟩
set_option maxRecDepth 100000 in
theorem p_c6_15 {nm : String} : PI RX5 nm 15 4 2 := ⟨put_ok (j := 2) (C := RX5) (T := TX5) (N := 9) (ci := 4) rfl (by decide) rfl (tin 1 232 (by decide +kernel) rfl) , fk_4_2.1, fk_4_2.2⟩
set_option maxRecDepth 100000 in
theorem g_c6_9 : GR RX5 9 4 0 := ⟨get_ok (j := 0) (C := RX5) (T := TX5) (N := 9) (ci := 4) rfl (by decide) (tin 1 229 (by decide +kernel) rfl) , fk_4_0.1, fk_4_0.2⟩
set_option maxRecDepth 100000 in
theorem g_c6_15 : GI RX5 15 4 2 := ⟨get_ok (j := 2) (C := RX5) (T := TX5) (N := 9) (ci := 4) rfl (by decide) (tin 1 232 (by decide +kernel) rfl) , fk_4_2.1, Or.inl fk_4_2.2⟩
set_option maxRecDepth 100000 in
theorem p_c6_29 {nm : String} : PI RX5 nm 29 4 1 := ⟨put_ok (j := 1) (C := RX5) (T := TX5) (N := 9) (ci := 4) rfl (by decide) rfl (tin 1 231 (by decide +kernel) rfl) , fk_4_1.1, fk_4_1.2⟩
set_option maxRecDepth 100000 in
theorem g_c6_29 : GI RX5 29 4 1 := ⟨get_ok (j := 1) (C := RX5) (T := TX5) (N := 9) (ci := 4) rfl (by decide) (tin 1 231 (by decide +kernel) rfl) , fk_4_1.1, Or.inl fk_4_1.2⟩
set_option maxRecDepth 100000 in
theorem p_c6_36 {nm : String} : PI RX5 nm 36 4 3 := ⟨put_ok (j := 3) (C := RX5) (T := TX5) (N := 9) (ci := 4) rfl (by decide) rfl (tin 1 233 (by decide +kernel) rfl) , fk_4_3.1, fk_4_3.2⟩
set_option maxRecDepth 100000 in
theorem p_c6_39 {nm : String} : PZ RX5 nm 39 4 6 := ⟨put_ok (j := 6) (C := RX5) (T := TX5) (N := 9) (ci := 4) rfl (by decide) rfl (tin 1 239 (by decide +kernel) rfl) , fk_4_6.1, fk_4_6.2⟩
set_option maxRecDepth 100000 in
theorem p_c6_53 {nm : String} : PI RX5 nm 53 4 4 := ⟨put_ok (j := 4) (C := RX5) (T := TX5) (N := 9) (ci := 4) rfl (by decide) rfl (tin 1 235 (by decide +kernel) rfl) , fk_4_4.1, fk_4_4.2⟩
set_option maxRecDepth 100000 in
theorem p_c6_56 {nm : String} : PI RX5 nm 56 4 5 := ⟨put_ok (j := 5) (C := RX5) (T := TX5) (N := 9) (ci := 4) rfl (by decide) rfl (tin 1 237 (by decide +kernel) rfl) , fk_4_5.1, fk_4_5.2⟩
set_option maxRecDepth 100000 in
theorem g_c6_56 : GI RX5 56 4 5 := ⟨get_ok (j := 5) (C := RX5) (T := TX5) (N := 9) (ci := 4) rfl (by decide) (tin 1 237 (by decide +kernel) rfl) , fk_4_5.1, Or.inl fk_4_5.2⟩
set_option maxRecDepth 100000 in
theorem g_c6_36 : GI RX5 36 4 3 := ⟨get_ok (j := 3) (C := RX5) (T := TX5) (N := 9) (ci := 4) rfl (by decide) (tin 1 233 (by decide +kernel) rfl) , fk_4_3.1, Or.inl fk_4_3.2⟩
set_option maxRecDepth 100000 in
theorem g_c6_53 : GI RX5 53 4 4 := ⟨get_ok (j := 4) (C := RX5) (T := TX5) (N := 9) (ci := 4) rfl (by decide) (tin 1 235 (by decide +kernel) rfl) , fk_4_4.1, Or.inl fk_4_4.2⟩
set_option maxRecDepth 100000 in
theorem p_c6_113 {nm : String} : PI RX5 nm 113 4 7 := ⟨put_ok (j := 7) (C := RX5) (T := TX5) (N := 9) (ci := 4) rfl (by decide) rfl (tin 2 1 (by decide +kernel) rfl) , fk_4_7.1, fk_4_7.2⟩
set_option maxRecDepth 100000 in
theorem p_c6_117 {nm : String} : PI RX5 nm 117 4 8 := ⟨put_ok (j := 8) (C := RX5) (T := TX5) (N := 9) (ci := 4) rfl (by decide) rfl (tin 2 3 (by decide +kernel) rfl) , fk_4_8.1, fk_4_8.2⟩
set_option maxRecDepth 100000 in
theorem g_c6_113 : GI RX5 113 4 7 := ⟨get_ok (j := 7) (C := RX5) (T := TX5) (N := 9) (ci := 4) rfl (by decide) (tin 2 1 (by decide +kernel) rfl) , fk_4_7.1, Or.inl fk_4_7.2⟩
set_option maxRecDepth 100000 in
theorem g_c6_117 : GI RX5 117 4 8 := ⟨get_ok (j := 8) (C := RX5) (T := TX5) (N := 9) (ci := 4) rfl (by decide) (tin 2 3 (by decide +kernel) rfl) , fk_4_8.1, Or.inl fk_4_8.2⟩
set_option maxRecDepth 100000 in
theorem p_c7_9 : PR RX6 "<init>" 9 5 6 := ⟨put_okF (j := 6) (C := RX6) (T := TX6) (N := 8) (ci := 5) rfl (by decide) rfl rfl rfl (tin 5 65 (by decide +kernel) rfl), fk_5_6.1, fk_5_6.2⟩
set_option maxRecDepth 100000 in
theorem p_c7_15 : PI RX6 "<init>" 15 5 0 := ⟨put_okF (j := 0) (C := RX6) (T := TX6) (N := 8) (ci := 5) rfl (by decide) rfl rfl rfl (tin 5 49 (by decide +kernel) rfl), fk_5_0.1, fk_5_0.2⟩
set_option maxRecDepth 100000 in
theorem p_c7_19 : PR RX6 "<init>" 19 5 1 := ⟨put_okF (j := 1) (C := RX6) (T := TX6) (N := 8) (ci := 5) rfl (by decide) rfl rfl rfl (tin 5 52 (by decide +kernel) rfl), fk_5_1.1, fk_5_1.2⟩
set_option maxRecDepth 100000 in
theorem p_c7_22 : PR RX6 "<init>" 22 5 2 := ⟨put_okF (j := 2) (C := RX6) (T := TX6) (N := 8) (ci := 5) rfl (by decide) rfl rfl rfl (tin 5 54 (by decide +kernel) rfl), fk_5_2.1, fk_5_2.2⟩
set_option maxRecDepth 100000 in
theorem p_c7_25 : PI RX6 "<init>" 25 5 3 := ⟨put_okF (j := 3) (C := RX6) (T := TX6) (N := 8) (ci := 5) rfl (by decide) rfl rfl rfl (tin 5 55 (by decide +kernel) rfl), fk_5_3.1, fk_5_3.2⟩
set_option maxRecDepth 100000 in
theorem p_c7_28 : PI RX6 "<init>" 28 5 4 := ⟨put_okF (j := 4) (C := RX6) (T := TX6) (N := 8) (ci := 5) rfl (by decide) rfl rfl rfl (tin 5 58 (by decide +kernel) rfl), fk_5_4.1, fk_5_4.2⟩
set_option maxRecDepth 100000 in
theorem p_c7_31 : PR RX6 "<init>" 31 5 5 := ⟨put_okF (j := 5) (C := RX6) (T := TX6) (N := 8) (ci := 5) rfl (by decide) rfl rfl rfl (tin 5 62 (by decide +kernel) rfl), fk_5_5.1, fk_5_5.2⟩
set_option maxRecDepth 100000 in
theorem g_c7_22 : GR RX6 22 5 2 := ⟨get_ok (j := 2) (C := RX6) (T := TX6) (N := 8) (ci := 5) rfl (by decide) (tin 5 54 (by decide +kernel) rfl) , fk_5_2.1, fk_5_2.2⟩
set_option maxRecDepth 100000 in
theorem g_c7_19 : GR RX6 19 5 1 := ⟨get_ok (j := 1) (C := RX6) (T := TX6) (N := 8) (ci := 5) rfl (by decide) (tin 5 52 (by decide +kernel) rfl) , fk_5_1.1, fk_5_1.2⟩
set_option maxRecDepth 100000 in
theorem g_c7_31 : GR RX6 31 5 5 := ⟨get_ok (j := 5) (C := RX6) (T := TX6) (N := 8) (ci := 5) rfl (by decide) (tin 5 62 (by decide +kernel) rfl) , fk_5_5.1, fk_5_5.2⟩
set_option maxRecDepth 100000 in
theorem g_c7_38 : GI RX6 38 5 7 := ⟨get_ok (j := 7) (C := RX6) (T := TX6) (N := 8) (ci := 5) rfl (by decide) (tin 5 66 (by decide +kernel) rfl) , fk_5_7.1, Or.inl fk_5_7.2⟩
set_option maxRecDepth 100000 in
theorem g_c7_9 : GR RX6 9 5 6 := ⟨get_ok (j := 6) (C := RX6) (T := TX6) (N := 8) (ci := 5) rfl (by decide) (tin 5 65 (by decide +kernel) rfl) , fk_5_6.1, fk_5_6.2⟩
set_option maxRecDepth 100000 in
theorem p_c7_38 {nm : String} : PI RX6 nm 38 5 7 := ⟨put_ok (j := 7) (C := RX6) (T := TX6) (N := 8) (ci := 5) rfl (by decide) rfl (tin 5 66 (by decide +kernel) rfl) , fk_5_7.1, fk_5_7.2⟩
set_option maxRecDepth 100000 in
theorem p_c8_14 : PR RX7 "<init>" 14 6 4 := ⟨put_okF (j := 4) (C := RX7) (T := TX7) (N := 15) (ci := 6) rfl (by decide) rfl rfl rfl (tin 1 173 (by decide +kernel) rfl), fk_6_4.1, fk_6_4.2⟩
set_option maxRecDepth 100000 in
theorem p_c8_20 : PR RX7 "<init>" 20 6 5 := ⟨put_okF (j := 5) (C := RX7) (T := TX7) (N := 15) (ci := 6) rfl (by decide) rfl rfl rfl (tin 1 174 (by decide +kernel) rfl), fk_6_5.1, fk_6_5.2⟩
set_option maxRecDepth 100000 in
theorem p_c8_23 : PR RX7 "<init>" 23 6 6 := ⟨put_okF (j := 6) (C := RX7) (T := TX7) (N := 15) (ci := 6) rfl (by decide) rfl rfl rfl (tin 1 175 (by decide +kernel) rfl), fk_6_6.1, fk_6_6.2⟩
set_option maxRecDepth 100000 in
theorem p_c8_26 : PR RX7 "<init>" 26 6 7 := ⟨put_okF (j := 7) (C := RX7) (T := TX7) (N := 15) (ci := 6) rfl (by decide) rfl rfl rfl (tin 1 176 (by decide +kernel) rfl), fk_6_7.1, fk_6_7.2⟩
set_option maxRecDepth 100000 in
theorem p_c8_29 : PR RX7 "<init>" 29 6 8 := ⟨put_okF (j := 8) (C := RX7) (T := TX7) (N := 15) (ci := 6) rfl (by decide) rfl rfl rfl (tin 1 177 (by decide +kernel) rfl), fk_6_8.1, fk_6_8.2⟩
set_option maxRecDepth 100000 in
theorem p_c8_33 : PR RX7 "<init>" 33 6 9 := ⟨put_okF (j := 9) (C := RX7) (T := TX7) (N := 15) (ci := 6) rfl (by decide) rfl rfl rfl (tin 1 178 (by decide +kernel) rfl), fk_6_9.1, fk_6_9.2⟩
set_option maxRecDepth 100000 in
theorem p_c8_36 : PR RX7 "<init>" 36 6 10 := ⟨put_okF (j := 10) (C := RX7) (T := TX7) (N := 15) (ci := 6) rfl (by decide) rfl rfl rfl (tin 1 179 (by decide +kernel) rfl), fk_6_10.1, fk_6_10.2⟩
set_option maxRecDepth 100000 in
theorem p_c8_39 : PR RX7 "<init>" 39 6 11 := ⟨put_okF (j := 11) (C := RX7) (T := TX7) (N := 15) (ci := 6) rfl (by decide) rfl rfl rfl (tin 1 180 (by decide +kernel) rfl), fk_6_11.1, fk_6_11.2⟩
set_option maxRecDepth 100000 in
theorem p_c8_42 : PR RX7 "<init>" 42 6 12 := ⟨put_okF (j := 12) (C := RX7) (T := TX7) (N := 15) (ci := 6) rfl (by decide) rfl rfl rfl (tin 1 181 (by decide +kernel) rfl), fk_6_12.1, fk_6_12.2⟩
set_option maxRecDepth 100000 in
theorem p_c8_45 : PR RX7 "<init>" 45 6 0 := ⟨put_okF (j := 0) (C := RX7) (T := TX7) (N := 15) (ci := 6) rfl (by decide) rfl rfl rfl (tin 1 169 (by decide +kernel) rfl), fk_6_0.1, fk_6_0.2⟩
set_option maxRecDepth 100000 in
theorem p_c8_48 : PR RX7 "<init>" 48 6 1 := ⟨put_okF (j := 1) (C := RX7) (T := TX7) (N := 15) (ci := 6) rfl (by decide) rfl rfl rfl (tin 1 170 (by decide +kernel) rfl), fk_6_1.1, fk_6_1.2⟩
set_option maxRecDepth 100000 in
theorem p_c8_52 : PR RX7 "<init>" 52 6 2 := ⟨put_okF (j := 2) (C := RX7) (T := TX7) (N := 15) (ci := 6) rfl (by decide) rfl rfl rfl (tin 1 171 (by decide +kernel) rfl), fk_6_2.1, fk_6_2.2⟩
set_option maxRecDepth 100000 in
theorem p_c8_60 : PR RX7 "<init>" 60 6 3 := ⟨put_okF (j := 3) (C := RX7) (T := TX7) (N := 15) (ci := 6) rfl (by decide) rfl rfl rfl (tin 1 172 (by decide +kernel) rfl), fk_6_3.1, fk_6_3.2⟩
set_option maxRecDepth 100000 in
theorem g_c8_60 : GR RX7 60 6 3 := ⟨get_ok (j := 3) (C := RX7) (T := TX7) (N := 15) (ci := 6) rfl (by decide) (tin 1 172 (by decide +kernel) rfl) , fk_6_3.1, fk_6_3.2⟩
set_option maxRecDepth 100000 in
theorem g_c8_45 : GR RX7 45 6 0 := ⟨get_ok (j := 0) (C := RX7) (T := TX7) (N := 15) (ci := 6) rfl (by decide) (tin 1 169 (by decide +kernel) rfl) , fk_6_0.1, fk_6_0.2⟩
set_option maxRecDepth 100000 in
theorem p_c8_82 {nm : String} : PI RX7 nm 82 6 13 := ⟨put_ok (j := 13) (C := RX7) (T := TX7) (N := 15) (ci := 6) rfl (by decide) rfl (tin 1 182 (by decide +kernel) rfl) , fk_6_13.1, fk_6_13.2⟩
set_option maxRecDepth 100000 in
theorem g_c8_14 : GR RX7 14 6 4 := ⟨get_ok (j := 4) (C := RX7) (T := TX7) (N := 15) (ci := 6) rfl (by decide) (tin 1 173 (by decide +kernel) rfl) , fk_6_4.1, fk_6_4.2⟩
set_option maxRecDepth 100000 in
theorem g_c8_20 : GR RX7 20 6 5 := ⟨get_ok (j := 5) (C := RX7) (T := TX7) (N := 15) (ci := 6) rfl (by decide) (tin 1 174 (by decide +kernel) rfl) , fk_6_5.1, fk_6_5.2⟩
set_option maxRecDepth 100000 in
theorem g_c8_82 : GI RX7 82 6 13 := ⟨get_ok (j := 13) (C := RX7) (T := TX7) (N := 15) (ci := 6) rfl (by decide) (tin 1 182 (by decide +kernel) rfl) , fk_6_13.1, Or.inl fk_6_13.2⟩
set_option maxRecDepth 100000 in
theorem g_c8_29 : GR RX7 29 6 8 := ⟨get_ok (j := 8) (C := RX7) (T := TX7) (N := 15) (ci := 6) rfl (by decide) (tin 1 177 (by decide +kernel) rfl) , fk_6_8.1, fk_6_8.2⟩
set_option maxRecDepth 100000 in
theorem g_c8_52 : GR RX7 52 6 2 := ⟨get_ok (j := 2) (C := RX7) (T := TX7) (N := 15) (ci := 6) rfl (by decide) (tin 1 171 (by decide +kernel) rfl) , fk_6_2.1, fk_6_2.2⟩
set_option maxRecDepth 100000 in
theorem g_c8_33 : GR RX7 33 6 9 := ⟨get_ok (j := 9) (C := RX7) (T := TX7) (N := 15) (ci := 6) rfl (by decide) (tin 1 178 (by decide +kernel) rfl) , fk_6_9.1, fk_6_9.2⟩
set_option maxRecDepth 100000 in
theorem g_c8_23 : GR RX7 23 6 6 := ⟨get_ok (j := 6) (C := RX7) (T := TX7) (N := 15) (ci := 6) rfl (by decide) (tin 1 175 (by decide +kernel) rfl) , fk_6_6.1, fk_6_6.2⟩
set_option maxRecDepth 100000 in
theorem g_c8_48 : GR RX7 48 6 1 := ⟨get_ok (j := 1) (C := RX7) (T := TX7) (N := 15) (ci := 6) rfl (by decide) (tin 1 170 (by decide +kernel) rfl) , fk_6_1.1, fk_6_1.2⟩
set_option maxRecDepth 100000 in
theorem p_c8_124 {nm : String} : PI RX7 nm 124 6 14 := ⟨put_ok (j := 14) (C := RX7) (T := TX7) (N := 15) (ci := 6) rfl (by decide) rfl (tin 1 183 (by decide +kernel) rfl) , fk_6_14.1, fk_6_14.2⟩
set_option maxRecDepth 100000 in
theorem g_c8_124 : GI RX7 124 6 14 := ⟨get_ok (j := 14) (C := RX7) (T := TX7) (N := 15) (ci := 6) rfl (by decide) (tin 1 183 (by decide +kernel) rfl) , fk_6_14.1, Or.inl fk_6_14.2⟩
set_option maxRecDepth 100000 in
theorem g_c8_36 : GR RX7 36 6 10 := ⟨get_ok (j := 10) (C := RX7) (T := TX7) (N := 15) (ci := 6) rfl (by decide) (tin 1 179 (by decide +kernel) rfl) , fk_6_10.1, fk_6_10.2⟩
set_option maxRecDepth 100000 in
theorem g_c8_39 : GR RX7 39 6 11 := ⟨get_ok (j := 11) (C := RX7) (T := TX7) (N := 15) (ci := 6) rfl (by decide) (tin 1 180 (by decide +kernel) rfl) , fk_6_11.1, fk_6_11.2⟩
set_option maxRecDepth 100000 in
theorem g_c8_42 : GR RX7 42 6 12 := ⟨get_ok (j := 12) (C := RX7) (T := TX7) (N := 15) (ci := 6) rfl (by decide) (tin 1 181 (by decide +kernel) rfl) , fk_6_12.1, fk_6_12.2⟩
set_option maxRecDepth 100000 in
theorem g_c8_26 : GR RX7 26 6 7 := ⟨get_ok (j := 7) (C := RX7) (T := TX7) (N := 15) (ci := 6) rfl (by decide) (tin 1 176 (by decide +kernel) rfl) , fk_6_7.1, fk_6_7.2⟩
set_option maxRecDepth 100000 in
theorem g_c8_176 : GI RX7 176 3 3 := ⟨get_okN (host := "MailArchive") (j := 3) (C := RX4) (T := TX4) (N := 5) (ci := 3) rfl (by decide) (tinN 1 155 (by decide +kernel) rfl) , fk_3_3.1, Or.inl fk_3_3.2⟩
set_option maxRecDepth 100000 in
theorem g_c8_179 : GI RX7 179 3 4 := ⟨get_okN (host := "MailArchive") (j := 4) (C := RX4) (T := TX4) (N := 5) (ci := 3) rfl (by decide) (tinN 1 157 (by decide +kernel) rfl) , fk_3_4.1, Or.inl fk_3_4.2⟩
set_option maxRecDepth 100000 in
theorem p_c9_11 : PR RX8 "<init>" 11 7 7 := ⟨put_okF (j := 7) (C := RX8) (T := TX8) (N := 17) (ci := 7) rfl (by decide) rfl rfl rfl (tin 2 33 (by decide +kernel) rfl), fk_7_7.1, fk_7_7.2⟩
set_option maxRecDepth 100000 in
theorem p_c9_15 : PR RX8 "<init>" 15 7 8 := ⟨put_okF (j := 8) (C := RX8) (T := TX8) (N := 17) (ci := 7) rfl (by decide) rfl rfl rfl (tin 2 34 (by decide +kernel) rfl), fk_7_8.1, fk_7_8.2⟩
set_option maxRecDepth 100000 in
theorem p_c9_18 : PR RX8 "<init>" 18 7 9 := ⟨put_okF (j := 9) (C := RX8) (T := TX8) (N := 17) (ci := 7) rfl (by decide) rfl rfl rfl (tin 2 35 (by decide +kernel) rfl), fk_7_9.1, fk_7_9.2⟩
set_option maxRecDepth 100000 in
theorem p_c9_22 : PR RX8 "<init>" 22 7 10 := ⟨put_okF (j := 10) (C := RX8) (T := TX8) (N := 17) (ci := 7) rfl (by decide) rfl rfl rfl (tin 2 36 (by decide +kernel) rfl), fk_7_10.1, fk_7_10.2⟩
set_option maxRecDepth 100000 in
theorem p_c9_33 : PR RX8 "<init>" 33 7 11 := ⟨put_okF (j := 11) (C := RX8) (T := TX8) (N := 17) (ci := 7) rfl (by decide) rfl rfl rfl (tin 2 37 (by decide +kernel) rfl), fk_7_11.1, fk_7_11.2⟩
set_option maxRecDepth 100000 in
theorem p_c9_37 : PR RX8 "<init>" 37 7 0 := ⟨put_okF (j := 0) (C := RX8) (T := TX8) (N := 17) (ci := 7) rfl (by decide) rfl rfl rfl (tin 2 26 (by decide +kernel) rfl), fk_7_0.1, fk_7_0.2⟩
set_option maxRecDepth 100000 in
theorem p_c9_40 : PR RX8 "<init>" 40 7 1 := ⟨put_okF (j := 1) (C := RX8) (T := TX8) (N := 17) (ci := 7) rfl (by decide) rfl rfl rfl (tin 2 27 (by decide +kernel) rfl), fk_7_1.1, fk_7_1.2⟩
set_option maxRecDepth 100000 in
theorem p_c9_44 : PR RX8 "<init>" 44 7 2 := ⟨put_okF (j := 2) (C := RX8) (T := TX8) (N := 17) (ci := 7) rfl (by decide) rfl rfl rfl (tin 2 28 (by decide +kernel) rfl), fk_7_2.1, fk_7_2.2⟩
set_option maxRecDepth 100000 in
theorem p_c9_48 : PR RX8 "<init>" 48 7 3 := ⟨put_okF (j := 3) (C := RX8) (T := TX8) (N := 17) (ci := 7) rfl (by decide) rfl rfl rfl (tin 2 29 (by decide +kernel) rfl), fk_7_3.1, fk_7_3.2⟩
set_option maxRecDepth 100000 in
theorem p_c9_52 : PR RX8 "<init>" 52 7 4 := ⟨put_okF (j := 4) (C := RX8) (T := TX8) (N := 17) (ci := 7) rfl (by decide) rfl rfl rfl (tin 2 30 (by decide +kernel) rfl), fk_7_4.1, fk_7_4.2⟩
set_option maxRecDepth 100000 in
theorem p_c9_55 : PR RX8 "<init>" 55 7 5 := ⟨put_okF (j := 5) (C := RX8) (T := TX8) (N := 17) (ci := 7) rfl (by decide) rfl rfl rfl (tin 2 31 (by decide +kernel) rfl), fk_7_5.1, fk_7_5.2⟩
set_option maxRecDepth 100000 in
theorem p_c9_63 : PR RX8 "<init>" 63 7 6 := ⟨put_okF (j := 6) (C := RX8) (T := TX8) (N := 17) (ci := 7) rfl (by decide) rfl rfl rfl (tin 2 32 (by decide +kernel) rfl), fk_7_6.1, fk_7_6.2⟩
set_option maxRecDepth 100000 in
theorem g_c9_40 : GR RX8 40 7 1 := ⟨get_ok (j := 1) (C := RX8) (T := TX8) (N := 17) (ci := 7) rfl (by decide) (tin 2 27 (by decide +kernel) rfl) , fk_7_1.1, fk_7_1.2⟩
set_option maxRecDepth 100000 in
theorem p_c9_73 {nm : String} : PL RX8 nm 73 7 15 := ⟨put_ok (j := 15) (C := RX8) (T := TX8) (N := 17) (ci := 7) rfl (by decide) rfl (tin 2 41 (by decide +kernel) rfl) , fk_7_15.1, fk_7_15.2⟩
set_option maxRecDepth 100000 in
theorem p_c9_77 {nm : String} : PI RX8 nm 77 7 16 := ⟨put_ok (j := 16) (C := RX8) (T := TX8) (N := 17) (ci := 7) rfl (by decide) rfl (tin 2 42 (by decide +kernel) rfl) , fk_7_16.1, fk_7_16.2⟩
set_option maxRecDepth 100000 in
theorem g_c9_63 : GR RX8 63 7 6 := ⟨get_ok (j := 6) (C := RX8) (T := TX8) (N := 17) (ci := 7) rfl (by decide) (tin 2 32 (by decide +kernel) rfl) , fk_7_6.1, fk_7_6.2⟩
set_option maxRecDepth 100000 in
theorem g_c9_37 : GR RX8 37 7 0 := ⟨get_ok (j := 0) (C := RX8) (T := TX8) (N := 17) (ci := 7) rfl (by decide) (tin 2 26 (by decide +kernel) rfl) , fk_7_0.1, fk_7_0.2⟩
set_option maxRecDepth 100000 in
theorem g_c9_95 : GI RX8 95 4 1 := ⟨get_okN (host := "MailArchive") (j := 1) (C := RX5) (T := TX5) (N := 9) (ci := 4) rfl (by decide) (tinN 1 230 (by decide +kernel) rfl) , fk_4_1.1, Or.inl fk_4_1.2⟩
set_option maxRecDepth 100000 in
theorem g_c9_11 : GR RX8 11 7 7 := ⟨get_ok (j := 7) (C := RX8) (T := TX8) (N := 17) (ci := 7) rfl (by decide) (tin 2 33 (by decide +kernel) rfl) , fk_7_7.1, fk_7_7.2⟩
set_option maxRecDepth 100000 in
theorem g_c9_15 : GR RX8 15 7 8 := ⟨get_ok (j := 8) (C := RX8) (T := TX8) (N := 17) (ci := 7) rfl (by decide) (tin 2 34 (by decide +kernel) rfl) , fk_7_8.1, fk_7_8.2⟩
set_option maxRecDepth 100000 in
theorem g_c28_48 : GI RJx4a65c 48 0 2 := ⟨get_ok (j := 2) (C := RJx4a65c) (T := TJx4a65c) (N := 3) (ci := 0) rfl (by decide) (tin 1 98 (by decide +kernel) rfl) , fk_0_2.1, Or.inl fk_0_2.2⟩
set_option maxRecDepth 100000 in
theorem p_c9_109 {nm : String} : PI RX8 nm 109 7 14 := ⟨put_ok (j := 14) (C := RX8) (T := TX8) (N := 17) (ci := 7) rfl (by decide) rfl (tin 2 40 (by decide +kernel) rfl) , fk_7_14.1, fk_7_14.2⟩
set_option maxRecDepth 100000 in
theorem g_c9_109 : GI RX8 109 7 14 := ⟨get_ok (j := 14) (C := RX8) (T := TX8) (N := 17) (ci := 7) rfl (by decide) (tin 2 40 (by decide +kernel) rfl) , fk_7_14.1, Or.inl fk_7_14.2⟩
set_option maxRecDepth 100000 in
theorem g_c9_73 : GL RX8 73 7 15 := ⟨get_ok (j := 15) (C := RX8) (T := TX8) (N := 17) (ci := 7) rfl (by decide) (tin 2 41 (by decide +kernel) rfl) , fk_7_15.1, fk_7_15.2⟩
set_option maxRecDepth 100000 in
theorem g_c9_18 : GR RX8 18 7 9 := ⟨get_ok (j := 9) (C := RX8) (T := TX8) (N := 17) (ci := 7) rfl (by decide) (tin 2 35 (by decide +kernel) rfl) , fk_7_9.1, fk_7_9.2⟩
set_option maxRecDepth 100000 in
theorem g_c9_127 : GI RX8 127 4 3 := ⟨get_okN (host := "MailArchive") (j := 3) (C := RX5) (T := TX5) (N := 9) (ci := 4) rfl (by decide) (tinN 1 234 (by decide +kernel) rfl) , fk_4_3.1, Or.inl fk_4_3.2⟩
set_option maxRecDepth 100000 in
theorem g_c9_55 : GR RX8 55 7 5 := ⟨get_ok (j := 5) (C := RX8) (T := TX8) (N := 17) (ci := 7) rfl (by decide) (tin 2 31 (by decide +kernel) rfl) , fk_7_5.1, fk_7_5.2⟩
set_option maxRecDepth 100000 in
theorem g_c9_130 : GI RX8 130 4 4 := ⟨get_okN (host := "MailArchive") (j := 4) (C := RX5) (T := TX5) (N := 9) (ci := 4) rfl (by decide) (tinN 1 236 (by decide +kernel) rfl) , fk_4_4.1, Or.inl fk_4_4.2⟩
set_option maxRecDepth 100000 in
theorem g_c9_133 : GI RX8 133 4 5 := ⟨get_okN (host := "MailArchive") (j := 5) (C := RX5) (T := TX5) (N := 9) (ci := 4) rfl (by decide) (tinN 1 238 (by decide +kernel) rfl) , fk_4_5.1, Or.inl fk_4_5.2⟩
set_option maxRecDepth 100000 in
theorem g_c9_52 : GR RX8 52 7 4 := ⟨get_ok (j := 4) (C := RX8) (T := TX8) (N := 17) (ci := 7) rfl (by decide) (tin 2 30 (by decide +kernel) rfl) , fk_7_4.1, fk_7_4.2⟩
set_option maxRecDepth 100000 in
theorem g_c9_44 : GR RX8 44 7 2 := ⟨get_ok (j := 2) (C := RX8) (T := TX8) (N := 17) (ci := 7) rfl (by decide) (tin 2 28 (by decide +kernel) rfl) , fk_7_2.1, fk_7_2.2⟩
set_option maxRecDepth 100000 in
theorem g_c11_32 : GI RX10 32 8 6 := ⟨get_ok (j := 6) (C := RX10) (T := TX10) (N := 7) (ci := 8) rfl (by decide) (tin 1 121 (by decide +kernel) rfl) , fk_8_6.1, Or.inr fk_8_6.2⟩
set_option maxRecDepth 100000 in
theorem g_c11_28 : GR RX10 28 8 1 := ⟨get_ok (j := 1) (C := RX10) (T := TX10) (N := 7) (ci := 8) rfl (by decide) (tin 1 116 (by decide +kernel) rfl) , fk_8_1.1, fk_8_1.2⟩
set_option maxRecDepth 100000 in
theorem g_c11_11 : GR RX10 11 8 2 := ⟨get_ok (j := 2) (C := RX10) (T := TX10) (N := 7) (ci := 8) rfl (by decide) (tin 1 117 (by decide +kernel) rfl) , fk_8_2.1, fk_8_2.2⟩
set_option maxRecDepth 100000 in
theorem g_c11_15 : GR RX10 15 8 3 := ⟨get_ok (j := 3) (C := RX10) (T := TX10) (N := 7) (ci := 8) rfl (by decide) (tin 1 118 (by decide +kernel) rfl) , fk_8_3.1, fk_8_3.2⟩
set_option maxRecDepth 100000 in
theorem g_c11_18 : GR RX10 18 8 4 := ⟨get_ok (j := 4) (C := RX10) (T := TX10) (N := 7) (ci := 8) rfl (by decide) (tin 1 119 (by decide +kernel) rfl) , fk_8_4.1, fk_8_4.2⟩
set_option maxRecDepth 100000 in
theorem g_c11_24 : GR RX10 24 8 0 := ⟨get_ok (j := 0) (C := RX10) (T := TX10) (N := 7) (ci := 8) rfl (by decide) (tin 1 115 (by decide +kernel) rfl) , fk_8_0.1, fk_8_0.2⟩
set_option maxRecDepth 100000 in
theorem g_c11_21 : GR RX10 21 8 5 := ⟨get_ok (j := 5) (C := RX10) (T := TX10) (N := 7) (ci := 8) rfl (by decide) (tin 1 120 (by decide +kernel) rfl) , fk_8_5.1, fk_8_5.2⟩
set_option maxRecDepth 100000 in
theorem g_c11_69 : GI RX10 69 5 0 := ⟨get_okN (host := "MailArchive") (j := 0) (C := RX6) (T := TX6) (N := 8) (ci := 5) rfl (by decide) (tinN 5 50 (by decide +kernel) rfl) , fk_5_0.1, Or.inl fk_5_0.2⟩
set_option maxRecDepth 100000 in
theorem p_c11_32 {nm : String} : PZ RX10 nm 32 8 6 := ⟨put_ok (j := 6) (C := RX10) (T := TX10) (N := 7) (ci := 8) rfl (by decide) rfl (tin 1 121 (by decide +kernel) rfl) , fk_8_6.1, fk_8_6.2⟩
set_option maxRecDepth 100000 in
theorem g_c28_9 : GR RJx4a65c 9 0 1 := ⟨get_ok (j := 1) (C := RJx4a65c) (T := TJx4a65c) (N := 3) (ci := 0) rfl (by decide) (tin 1 97 (by decide +kernel) rfl) , fk_0_1.1, fk_0_1.2⟩
set_option maxRecDepth 100000 in
theorem g_c11_79 : GI RX10 79 5 4 := ⟨get_okN (host := "MailArchive") (j := 4) (C := RX6) (T := TX6) (N := 8) (ci := 5) rfl (by decide) (tinN 5 59 (by decide +kernel) rfl) , fk_5_4.1, Or.inl fk_5_4.2⟩
set_option maxRecDepth 100000 in
theorem g_c11_82 : GR RX10 82 5 5 := ⟨get_okN (host := "MailArchive") (j := 5) (C := RX6) (T := TX6) (N := 8) (ci := 5) rfl (by decide) (tinN 5 63 (by decide +kernel) rfl) , fk_5_5.1, fk_5_5.2⟩
set_option maxRecDepth 100000 in
theorem g_c9_198 : GI RX8 198 4 6 := ⟨get_okN (host := "MailArchive") (j := 6) (C := RX5) (T := TX5) (N := 9) (ci := 4) rfl (by decide) (tinN 2 0 (by decide +kernel) rfl) , fk_4_6.1, Or.inr fk_4_6.2⟩
set_option maxRecDepth 100000 in
theorem p_c9_205 {nm : String} : PZ RX8 nm 205 7 13 := ⟨put_ok (j := 13) (C := RX8) (T := TX8) (N := 17) (ci := 7) rfl (by decide) rfl (tin 2 39 (by decide +kernel) rfl) , fk_7_13.1, fk_7_13.2⟩
set_option maxRecDepth 100000 in
theorem p_c9_208 {nm : String} : PI RX8 nm 208 7 12 := ⟨put_ok (j := 12) (C := RX8) (T := TX8) (N := 17) (ci := 7) rfl (by decide) rfl (tin 2 38 (by decide +kernel) rfl) , fk_7_12.1, fk_7_12.2⟩
set_option maxRecDepth 100000 in
theorem g_c9_22 : GR RX8 22 7 10 := ⟨get_ok (j := 10) (C := RX8) (T := TX8) (N := 17) (ci := 7) rfl (by decide) (tin 2 36 (by decide +kernel) rfl) , fk_7_10.1, fk_7_10.2⟩
set_option maxRecDepth 100000 in
theorem g_c9_33 : GR RX8 33 7 11 := ⟨get_ok (j := 11) (C := RX8) (T := TX8) (N := 17) (ci := 7) rfl (by decide) (tin 2 37 (by decide +kernel) rfl) , fk_7_11.1, fk_7_11.2⟩
set_option maxRecDepth 100000 in
theorem g_c9_48 : GR RX8 48 7 3 := ⟨get_ok (j := 3) (C := RX8) (T := TX8) (N := 17) (ci := 7) rfl (by decide) (tin 2 29 (by decide +kernel) rfl) , fk_7_3.1, fk_7_3.2⟩
set_option maxRecDepth 100000 in
theorem g_c9_208 : GI RX8 208 7 12 := ⟨get_ok (j := 12) (C := RX8) (T := TX8) (N := 17) (ci := 7) rfl (by decide) (tin 2 38 (by decide +kernel) rfl) , fk_7_12.1, Or.inl fk_7_12.2⟩
set_option maxRecDepth 100000 in
theorem g_c9_168 : GI RX8 168 5 4 := ⟨get_okN (host := "MailArchive") (j := 4) (C := RX6) (T := TX6) (N := 8) (ci := 5) rfl (by decide) (tinN 5 60 (by decide +kernel) rfl) , fk_5_4.1, Or.inl fk_5_4.2⟩
set_option maxRecDepth 100000 in
theorem g_c9_175 : GI RX8 175 5 3 := ⟨get_okN (host := "MailArchive") (j := 3) (C := RX6) (T := TX6) (N := 8) (ci := 5) rfl (by decide) (tinN 5 56 (by decide +kernel) rfl) , fk_5_3.1, Or.inl fk_5_3.2⟩
set_option maxRecDepth 100000 in
theorem g_c9_192 : GI RX8 192 4 7 := ⟨get_okN (host := "MailArchive") (j := 7) (C := RX5) (T := TX5) (N := 9) (ci := 4) rfl (by decide) (tinN 2 2 (by decide +kernel) rfl) , fk_4_7.1, Or.inl fk_4_7.2⟩
set_option maxRecDepth 100000 in
theorem g_c9_195 : GI RX8 195 4 8 := ⟨get_okN (host := "MailArchive") (j := 8) (C := RX5) (T := TX5) (N := 9) (ci := 4) rfl (by decide) (tinN 2 4 (by decide +kernel) rfl) , fk_4_8.1, Or.inl fk_4_8.2⟩
set_option maxRecDepth 100000 in
theorem g_c9_205 : GI RX8 205 7 13 := ⟨get_ok (j := 13) (C := RX8) (T := TX8) (N := 17) (ci := 7) rfl (by decide) (tin 2 39 (by decide +kernel) rfl) , fk_7_13.1, Or.inr fk_7_13.2⟩
set_option maxRecDepth 100000 in
theorem p_c11_11 : PR RX10 "<init>" 11 8 2 := ⟨put_okF (j := 2) (C := RX10) (T := TX10) (N := 7) (ci := 8) rfl (by decide) rfl rfl rfl (tin 1 117 (by decide +kernel) rfl), fk_8_2.1, fk_8_2.2⟩
set_option maxRecDepth 100000 in
theorem p_c11_15 : PR RX10 "<init>" 15 8 3 := ⟨put_okF (j := 3) (C := RX10) (T := TX10) (N := 7) (ci := 8) rfl (by decide) rfl rfl rfl (tin 1 118 (by decide +kernel) rfl), fk_8_3.1, fk_8_3.2⟩
set_option maxRecDepth 100000 in
theorem p_c11_18 : PR RX10 "<init>" 18 8 4 := ⟨put_okF (j := 4) (C := RX10) (T := TX10) (N := 7) (ci := 8) rfl (by decide) rfl rfl rfl (tin 1 119 (by decide +kernel) rfl), fk_8_4.1, fk_8_4.2⟩
set_option maxRecDepth 100000 in
theorem p_c11_21 : PR RX10 "<init>" 21 8 5 := ⟨put_okF (j := 5) (C := RX10) (T := TX10) (N := 7) (ci := 8) rfl (by decide) rfl rfl rfl (tin 1 120 (by decide +kernel) rfl), fk_8_5.1, fk_8_5.2⟩
set_option maxRecDepth 100000 in
theorem p_c11_24 : PR RX10 "<init>" 24 8 0 := ⟨put_okF (j := 0) (C := RX10) (T := TX10) (N := 7) (ci := 8) rfl (by decide) rfl rfl rfl (tin 1 115 (by decide +kernel) rfl), fk_8_0.1, fk_8_0.2⟩
set_option maxRecDepth 100000 in
theorem p_c11_28 : PR RX10 "<init>" 28 8 1 := ⟨put_okF (j := 1) (C := RX10) (T := TX10) (N := 7) (ci := 8) rfl (by decide) rfl rfl rfl (tin 1 116 (by decide +kernel) rfl), fk_8_1.1, fk_8_1.2⟩
set_option maxRecDepth 100000 in
theorem p_c0_14 : PR RX11 "<init>" 14 9 0 := ⟨put_okF (j := 0) (C := RX11) (T := TX11) (N := 17) (ci := 9) rfl (by decide) rfl rfl rfl (tin 2 95 (by decide +kernel) rfl), fk_9_0.1, fk_9_0.2⟩
set_option maxRecDepth 100000 in
theorem p_c0_18 : PR RX11 "<init>" 18 9 1 := ⟨put_okF (j := 1) (C := RX11) (T := TX11) (N := 17) (ci := 9) rfl (by decide) rfl rfl rfl (tin 2 96 (by decide +kernel) rfl), fk_9_1.1, fk_9_1.2⟩
set_option maxRecDepth 100000 in
theorem p_c0_21 : PR RX11 "<init>" 21 9 2 := ⟨put_okF (j := 2) (C := RX11) (T := TX11) (N := 17) (ci := 9) rfl (by decide) rfl rfl rfl (tin 2 97 (by decide +kernel) rfl), fk_9_2.1, fk_9_2.2⟩
set_option maxRecDepth 100000 in
theorem p_c0_27 : PR RX11 "<init>" 27 9 3 := ⟨put_okF (j := 3) (C := RX11) (T := TX11) (N := 17) (ci := 9) rfl (by decide) rfl rfl rfl (tin 2 98 (by decide +kernel) rfl), fk_9_3.1, fk_9_3.2⟩
set_option maxRecDepth 100000 in
theorem p_c0_31 : PR RX11 "<init>" 31 9 4 := ⟨put_okF (j := 4) (C := RX11) (T := TX11) (N := 17) (ci := 9) rfl (by decide) rfl rfl rfl (tin 2 99 (by decide +kernel) rfl), fk_9_4.1, fk_9_4.2⟩
set_option maxRecDepth 100000 in
theorem p_c0_34 : PR RX11 "<init>" 34 9 5 := ⟨put_okF (j := 5) (C := RX11) (T := TX11) (N := 17) (ci := 9) rfl (by decide) rfl rfl rfl (tin 2 100 (by decide +kernel) rfl), fk_9_5.1, fk_9_5.2⟩
set_option maxRecDepth 100000 in
theorem p_c0_40 : PR RX11 "<init>" 40 9 6 := ⟨put_okF (j := 6) (C := RX11) (T := TX11) (N := 17) (ci := 9) rfl (by decide) rfl rfl rfl (tin 2 101 (by decide +kernel) rfl), fk_9_6.1, fk_9_6.2⟩
set_option maxRecDepth 100000 in
theorem g_c0_40 : GR RX11 40 9 6 := ⟨get_ok (j := 6) (C := RX11) (T := TX11) (N := 17) (ci := 9) rfl (by decide) (tin 2 101 (by decide +kernel) rfl) , fk_9_6.1, fk_9_6.2⟩
set_option maxRecDepth 100000 in
theorem g_c0_31 : GR RX11 31 9 4 := ⟨get_ok (j := 4) (C := RX11) (T := TX11) (N := 17) (ci := 9) rfl (by decide) (tin 2 99 (by decide +kernel) rfl) , fk_9_4.1, fk_9_4.2⟩
set_option maxRecDepth 100000 in
theorem p_c0_49 : PR RX11 "<init>" 49 9 7 := ⟨put_okF (j := 7) (C := RX11) (T := TX11) (N := 17) (ci := 9) rfl (by decide) rfl rfl rfl (tin 2 102 (by decide +kernel) rfl), fk_9_7.1, fk_9_7.2⟩
set_option maxRecDepth 100000 in
theorem g_c0_18 : GR RX11 18 9 1 := ⟨get_ok (j := 1) (C := RX11) (T := TX11) (N := 17) (ci := 9) rfl (by decide) (tin 2 96 (by decide +kernel) rfl) , fk_9_1.1, fk_9_1.2⟩
set_option maxRecDepth 100000 in
theorem g_c0_27 : GR RX11 27 9 3 := ⟨get_ok (j := 3) (C := RX11) (T := TX11) (N := 17) (ci := 9) rfl (by decide) (tin 2 98 (by decide +kernel) rfl) , fk_9_3.1, fk_9_3.2⟩
set_option maxRecDepth 100000 in
theorem p_c0_58 : PR RX11 "<init>" 58 9 8 := ⟨put_okF (j := 8) (C := RX11) (T := TX11) (N := 17) (ci := 9) rfl (by decide) rfl rfl rfl (tin 2 103 (by decide +kernel) rfl), fk_9_8.1, fk_9_8.2⟩
set_option maxRecDepth 100000 in
theorem g_c0_21 : GR RX11 21 9 2 := ⟨get_ok (j := 2) (C := RX11) (T := TX11) (N := 17) (ci := 9) rfl (by decide) (tin 2 97 (by decide +kernel) rfl) , fk_9_2.1, fk_9_2.2⟩
set_option maxRecDepth 100000 in
theorem g_c0_49 : GR RX11 49 9 7 := ⟨get_ok (j := 7) (C := RX11) (T := TX11) (N := 17) (ci := 9) rfl (by decide) (tin 2 102 (by decide +kernel) rfl) , fk_9_7.1, fk_9_7.2⟩
set_option maxRecDepth 100000 in
theorem g_c0_34 : GR RX11 34 9 5 := ⟨get_ok (j := 5) (C := RX11) (T := TX11) (N := 17) (ci := 9) rfl (by decide) (tin 2 100 (by decide +kernel) rfl) , fk_9_5.1, fk_9_5.2⟩
set_option maxRecDepth 100000 in
theorem p_c0_67 : PR RX11 "<init>" 67 9 9 := ⟨put_okF (j := 9) (C := RX11) (T := TX11) (N := 17) (ci := 9) rfl (by decide) rfl rfl rfl (tin 2 104 (by decide +kernel) rfl), fk_9_9.1, fk_9_9.2⟩
set_option maxRecDepth 100000 in
theorem p_c0_71 : PR RX11 "<init>" 71 9 10 := ⟨put_okF (j := 10) (C := RX11) (T := TX11) (N := 17) (ci := 9) rfl (by decide) rfl rfl rfl (tin 2 105 (by decide +kernel) rfl), fk_9_10.1, fk_9_10.2⟩
set_option maxRecDepth 100000 in
theorem p_c0_75 : PR RX11 "<init>" 75 9 11 := ⟨put_okF (j := 11) (C := RX11) (T := TX11) (N := 17) (ci := 9) rfl (by decide) rfl rfl rfl (tin 2 106 (by decide +kernel) rfl), fk_9_11.1, fk_9_11.2⟩
set_option maxRecDepth 100000 in
theorem p_c0_78 : PR RX11 "<init>" 78 9 12 := ⟨put_okF (j := 12) (C := RX11) (T := TX11) (N := 17) (ci := 9) rfl (by decide) rfl rfl rfl (tin 2 107 (by decide +kernel) rfl), fk_9_12.1, fk_9_12.2⟩
set_option maxRecDepth 100000 in
theorem p_c28_9 {nm : String} : PR RJx4a65c nm 9 0 1 := ⟨put_ok (j := 1) (C := RJx4a65c) (T := TJx4a65c) (N := 3) (ci := 0) rfl (by decide) rfl (tin 1 97 (by decide +kernel) rfl) , fk_0_1.1, fk_0_1.2⟩
set_option maxRecDepth 100000 in
theorem p_c27_7 {nm : String} : PI RJxc12de nm 7 0 0 := ⟨put_ok (j := 0) (C := RJx4a65c) (T := TJx4a65c) (N := 3) (ci := 0) rfl (by decide) rfl (tin 1 99 (by decide +kernel) rfl) , fk_0_0.1, fk_0_0.2⟩
set_option maxRecDepth 100000 in
theorem g_c0_14 : GR RX11 14 9 0 := ⟨get_ok (j := 0) (C := RX11) (T := TX11) (N := 17) (ci := 9) rfl (by decide) (tin 2 95 (by decide +kernel) rfl) , fk_9_0.1, fk_9_0.2⟩
set_option maxRecDepth 100000 in
theorem g_c0_94 : GI RX11 94 9 15 := ⟨get_ok (j := 15) (C := RX11) (T := TX11) (N := 17) (ci := 9) rfl (by decide) (tin 2 110 (by decide +kernel) rfl) , fk_9_15.1, Or.inl fk_9_15.2⟩
set_option maxRecDepth 100000 in
theorem g_c0_58 : GR RX11 58 9 8 := ⟨get_ok (j := 8) (C := RX11) (T := TX11) (N := 17) (ci := 9) rfl (by decide) (tin 2 103 (by decide +kernel) rfl) , fk_9_8.1, fk_9_8.2⟩
set_option maxRecDepth 100000 in
theorem p_c0_94 {nm : String} : PI RX11 nm 94 9 15 := ⟨put_ok (j := 15) (C := RX11) (T := TX11) (N := 17) (ci := 9) rfl (by decide) rfl (tin 2 110 (by decide +kernel) rfl) , fk_9_15.1, fk_9_15.2⟩
set_option maxRecDepth 100000 in
theorem g_c28_63 : GI RJx4a65c 63 0 0 := ⟨get_okS (ref := "java/util/ArrayList") (j := 0) (C := RJx4a65c) (T := TJx4a65c) (N := 3) (ci := 0) rfl (by decide) (tin 1 100 (by decide +kernel) rfl) (tin 1 101 (by decide +kernel) rfl), fk_0_0.1, Or.inl fk_0_0.2⟩
set_option maxRecDepth 100000 in
theorem p_c28_63 {nm : String} : PI RJx4a65c nm 63 0 0 := ⟨put_okS (ref := "java/util/ArrayList") (j := 0) (C := RJx4a65c) (T := TJx4a65c) (N := 3) (ci := 0) rfl (by decide) rfl (tin 1 100 (by decide +kernel) rfl) (tin 1 101 (by decide +kernel) rfl), fk_0_0.1, fk_0_0.2⟩
set_option maxRecDepth 100000 in
theorem p_c28_48 {nm : String} : PI RJx4a65c nm 48 0 2 := ⟨put_ok (j := 2) (C := RJx4a65c) (T := TJx4a65c) (N := 3) (ci := 0) rfl (by decide) rfl (tin 1 98 (by decide +kernel) rfl) , fk_0_2.1, fk_0_2.2⟩
set_option maxRecDepth 100000 in
theorem g_c0_246 : GI RX11 246 5 0 := ⟨get_okN (host := "MailArchive") (j := 0) (C := RX6) (T := TX6) (N := 8) (ci := 5) rfl (by decide) (tinN 5 51 (by decide +kernel) rfl) , fk_5_0.1, Or.inl fk_5_0.2⟩
set_option maxRecDepth 100000 in
theorem g_c0_160 : GI RX11 160 5 7 := ⟨get_okN (host := "MailArchive") (j := 7) (C := RX6) (T := TX6) (N := 8) (ci := 5) rfl (by decide) (tinN 5 67 (by decide +kernel) rfl) , fk_5_7.1, Or.inl fk_5_7.2⟩
set_option maxRecDepth 100000 in
theorem g_c0_67 : GR RX11 67 9 9 := ⟨get_ok (j := 9) (C := RX11) (T := TX11) (N := 17) (ci := 9) rfl (by decide) (tin 2 104 (by decide +kernel) rfl) , fk_9_9.1, fk_9_9.2⟩
set_option maxRecDepth 100000 in
theorem g_c0_176 : GI RX11 176 7 16 := ⟨get_okN (host := "MailArchive") (j := 16) (C := RX8) (T := TX8) (N := 17) (ci := 7) rfl (by decide) (tinN 2 43 (by decide +kernel) rfl) , fk_7_16.1, Or.inl fk_7_16.2⟩
set_option maxRecDepth 100000 in
theorem p_c0_179 {nm : String} : PI RX11 nm 179 9 16 := ⟨put_ok (j := 16) (C := RX11) (T := TX11) (N := 17) (ci := 9) rfl (by decide) rfl (tin 2 111 (by decide +kernel) rfl) , fk_9_16.1, fk_9_16.2⟩
set_option maxRecDepth 100000 in
theorem g_c0_179 : GI RX11 179 9 16 := ⟨get_ok (j := 16) (C := RX11) (T := TX11) (N := 17) (ci := 9) rfl (by decide) (tin 2 111 (by decide +kernel) rfl) , fk_9_16.1, Or.inl fk_9_16.2⟩
set_option maxRecDepth 100000 in
theorem g_c0_188 : GI RX11 188 9 13 := ⟨get_ok (j := 13) (C := RX11) (T := TX11) (N := 17) (ci := 9) rfl (by decide) (tin 2 108 (by decide +kernel) rfl) , fk_9_13.1, Or.inl fk_9_13.2⟩
set_option maxRecDepth 100000 in
theorem p_c0_188 {nm : String} : PI RX11 nm 188 9 13 := ⟨put_ok (j := 13) (C := RX11) (T := TX11) (N := 17) (ci := 9) rfl (by decide) rfl (tin 2 108 (by decide +kernel) rfl) , fk_9_13.1, fk_9_13.2⟩
set_option maxRecDepth 100000 in
theorem g_c0_71 : GR RX11 71 9 10 := ⟨get_ok (j := 10) (C := RX11) (T := TX11) (N := 17) (ci := 9) rfl (by decide) (tin 2 105 (by decide +kernel) rfl) , fk_9_10.1, fk_9_10.2⟩
set_option maxRecDepth 100000 in
theorem g_c0_75 : GR RX11 75 9 11 := ⟨get_ok (j := 11) (C := RX11) (T := TX11) (N := 17) (ci := 9) rfl (by decide) (tin 2 106 (by decide +kernel) rfl) , fk_9_11.1, fk_9_11.2⟩
set_option maxRecDepth 100000 in
theorem g_c0_209 : GI RX11 209 5 3 := ⟨get_okN (host := "MailArchive") (j := 3) (C := RX6) (T := TX6) (N := 8) (ci := 5) rfl (by decide) (tinN 5 57 (by decide +kernel) rfl) , fk_5_3.1, Or.inl fk_5_3.2⟩
set_option maxRecDepth 100000 in
theorem p_c0_194 {nm : String} : PI RX11 nm 194 9 14 := ⟨put_ok (j := 14) (C := RX11) (T := TX11) (N := 17) (ci := 9) rfl (by decide) rfl (tin 2 109 (by decide +kernel) rfl) , fk_9_14.1, fk_9_14.2⟩
set_option maxRecDepth 100000 in
theorem g_c0_194 : GI RX11 194 9 14 := ⟨get_ok (j := 14) (C := RX11) (T := TX11) (N := 17) (ci := 9) rfl (by decide) (tin 2 109 (by decide +kernel) rfl) , fk_9_14.1, Or.inl fk_9_14.2⟩
set_option maxRecDepth 100000 in
theorem g_c0_78 : GR RX11 78 9 12 := ⟨get_ok (j := 12) (C := RX11) (T := TX11) (N := 17) (ci := 9) rfl (by decide) (tin 2 107 (by decide +kernel) rfl) , fk_9_12.1, fk_9_12.2⟩
set_option maxRecDepth 100000 in
theorem g_c0_215 : GI RX11 215 5 4 := ⟨get_okN (host := "MailArchive") (j := 4) (C := RX6) (T := TX6) (N := 8) (ci := 5) rfl (by decide) (tinN 5 61 (by decide +kernel) rfl) , fk_5_4.1, Or.inl fk_5_4.2⟩
set_option maxRecDepth 100000 in
theorem g_c0_221 : GR RX11 221 5 5 := ⟨get_okN (host := "MailArchive") (j := 5) (C := RX6) (T := TX6) (N := 8) (ci := 5) rfl (by decide) (tinN 5 64 (by decide +kernel) rfl) , fk_5_5.1, fk_5_5.2⟩
set_option maxRecDepth 100000 in
theorem g_c0_264 : GR RX11 264 5 1 := ⟨get_okN (host := "MailArchive") (j := 1) (C := RX6) (T := TX6) (N := 8) (ci := 5) rfl (by decide) (tinN 5 53 (by decide +kernel) rfl) , fk_5_1.1, fk_5_1.2⟩
set_option maxRecDepth 100000 in
theorem p_c13_7 : PR RX12 "<init>" 7 10 1 := ⟨put_okF (j := 1) (C := RX12) (T := TX12) (N := 70) (ci := 10) rfl (by decide) rfl rfl rfl (tin 6 163 (by decide +kernel) rfl), fk_10_1.1, fk_10_1.2⟩
set_option maxRecDepth 100000 in
theorem p_c13_13 : PR RX12 "<init>" 13 10 2 := ⟨put_okF (j := 2) (C := RX12) (T := TX12) (N := 70) (ci := 10) rfl (by decide) rfl rfl rfl (tin 6 164 (by decide +kernel) rfl), fk_10_2.1, fk_10_2.2⟩
set_option maxRecDepth 100000 in
theorem p_c13_17 : PR RX12 "<init>" 17 10 6 := ⟨put_okF (j := 6) (C := RX12) (T := TX12) (N := 70) (ci := 10) rfl (by decide) rfl rfl rfl (tin 6 168 (by decide +kernel) rfl), fk_10_6.1, fk_10_6.2⟩
set_option maxRecDepth 100000 in
theorem p_c13_20 : PR RX12 "<init>" 20 10 7 := ⟨put_okF (j := 7) (C := RX12) (T := TX12) (N := 70) (ci := 10) rfl (by decide) rfl rfl rfl (tin 6 169 (by decide +kernel) rfl), fk_10_7.1, fk_10_7.2⟩
set_option maxRecDepth 100000 in
theorem p_c13_24 : PR RX12 "<init>" 24 10 8 := ⟨put_okF (j := 8) (C := RX12) (T := TX12) (N := 70) (ci := 10) rfl (by decide) rfl rfl rfl (tin 6 170 (by decide +kernel) rfl), fk_10_8.1, fk_10_8.2⟩
set_option maxRecDepth 100000 in
theorem p_c13_28 : PR RX12 "<init>" 28 10 9 := ⟨put_okF (j := 9) (C := RX12) (T := TX12) (N := 70) (ci := 10) rfl (by decide) rfl rfl rfl (tin 6 171 (by decide +kernel) rfl), fk_10_9.1, fk_10_9.2⟩
set_option maxRecDepth 100000 in
theorem p_c13_31 : PR RX12 "<init>" 31 10 10 := ⟨put_okF (j := 10) (C := RX12) (T := TX12) (N := 70) (ci := 10) rfl (by decide) rfl rfl rfl (tin 6 172 (by decide +kernel) rfl), fk_10_10.1, fk_10_10.2⟩
set_option maxRecDepth 100000 in
theorem p_c13_34 : PR RX12 "<init>" 34 10 11 := ⟨put_okF (j := 11) (C := RX12) (T := TX12) (N := 70) (ci := 10) rfl (by decide) rfl rfl rfl (tin 6 173 (by decide +kernel) rfl), fk_10_11.1, fk_10_11.2⟩
set_option maxRecDepth 100000 in
theorem p_c13_37 {nm : String} : PI RX12 nm 37 10 12 := ⟨put_ok (j := 12) (C := RX12) (T := TX12) (N := 70) (ci := 10) rfl (by decide) rfl (tin 6 174 (by decide +kernel) rfl) , fk_10_12.1, fk_10_12.2⟩
set_option maxRecDepth 100000 in
theorem p_c13_41 : PR RX12 "<init>" 41 10 13 := ⟨put_okF (j := 13) (C := RX12) (T := TX12) (N := 70) (ci := 10) rfl (by decide) rfl rfl rfl (tin 6 175 (by decide +kernel) rfl), fk_10_13.1, fk_10_13.2⟩
set_option maxRecDepth 100000 in
theorem p_c13_45 : PR RX12 "<init>" 45 10 14 := ⟨put_okF (j := 14) (C := RX12) (T := TX12) (N := 70) (ci := 10) rfl (by decide) rfl rfl rfl (tin 6 176 (by decide +kernel) rfl), fk_10_14.1, fk_10_14.2⟩
set_option maxRecDepth 100000 in
theorem p_c13_48 : PR RX12 "<init>" 48 10 15 := ⟨put_okF (j := 15) (C := RX12) (T := TX12) (N := 70) (ci := 10) rfl (by decide) rfl rfl rfl (tin 6 177 (by decide +kernel) rfl), fk_10_15.1, fk_10_15.2⟩
set_option maxRecDepth 100000 in
theorem p_c13_51 : PR RX12 "<init>" 51 10 17 := ⟨put_okF (j := 17) (C := RX12) (T := TX12) (N := 70) (ci := 10) rfl (by decide) rfl rfl rfl (tin 6 179 (by decide +kernel) rfl), fk_10_17.1, fk_10_17.2⟩
set_option maxRecDepth 100000 in
theorem p_c13_54 : PR RX12 "<init>" 54 10 20 := ⟨put_okF (j := 20) (C := RX12) (T := TX12) (N := 70) (ci := 10) rfl (by decide) rfl rfl rfl (tin 6 182 (by decide +kernel) rfl), fk_10_20.1, fk_10_20.2⟩
set_option maxRecDepth 100000 in
theorem p_c13_57 : PR RX12 "<init>" 57 10 21 := ⟨put_okF (j := 21) (C := RX12) (T := TX12) (N := 70) (ci := 10) rfl (by decide) rfl rfl rfl (tin 6 183 (by decide +kernel) rfl), fk_10_21.1, fk_10_21.2⟩
set_option maxRecDepth 100000 in
theorem p_c13_60 : PR RX12 "<init>" 60 10 22 := ⟨put_okF (j := 22) (C := RX12) (T := TX12) (N := 70) (ci := 10) rfl (by decide) rfl rfl rfl (tin 6 184 (by decide +kernel) rfl), fk_10_22.1, fk_10_22.2⟩
set_option maxRecDepth 100000 in
theorem p_c13_63 : PR RX12 "<init>" 63 10 24 := ⟨put_okF (j := 24) (C := RX12) (T := TX12) (N := 70) (ci := 10) rfl (by decide) rfl rfl rfl (tin 6 186 (by decide +kernel) rfl), fk_10_24.1, fk_10_24.2⟩
set_option maxRecDepth 100000 in
theorem p_c13_66 : PR RX12 "<init>" 66 10 27 := ⟨put_okF (j := 27) (C := RX12) (T := TX12) (N := 70) (ci := 10) rfl (by decide) rfl rfl rfl (tin 6 189 (by decide +kernel) rfl), fk_10_27.1, fk_10_27.2⟩
set_option maxRecDepth 100000 in
theorem p_c13_69 : PR RX12 "<init>" 69 10 30 := ⟨put_okF (j := 30) (C := RX12) (T := TX12) (N := 70) (ci := 10) rfl (by decide) rfl rfl rfl (tin 6 192 (by decide +kernel) rfl), fk_10_30.1, fk_10_30.2⟩
set_option maxRecDepth 100000 in
theorem p_c13_72 : PR RX12 "<init>" 72 10 31 := ⟨put_okF (j := 31) (C := RX12) (T := TX12) (N := 70) (ci := 10) rfl (by decide) rfl rfl rfl (tin 6 193 (by decide +kernel) rfl), fk_10_31.1, fk_10_31.2⟩
set_option maxRecDepth 100000 in
theorem p_c13_75 : PR RX12 "<init>" 75 10 32 := ⟨put_okF (j := 32) (C := RX12) (T := TX12) (N := 70) (ci := 10) rfl (by decide) rfl rfl rfl (tin 6 194 (by decide +kernel) rfl), fk_10_32.1, fk_10_32.2⟩
set_option maxRecDepth 100000 in
theorem p_c13_78 : PR RX12 "<init>" 78 10 34 := ⟨put_okF (j := 34) (C := RX12) (T := TX12) (N := 70) (ci := 10) rfl (by decide) rfl rfl rfl (tin 6 196 (by decide +kernel) rfl), fk_10_34.1, fk_10_34.2⟩
set_option maxRecDepth 100000 in
theorem p_c13_81 : PR RX12 "<init>" 81 10 35 := ⟨put_okF (j := 35) (C := RX12) (T := TX12) (N := 70) (ci := 10) rfl (by decide) rfl rfl rfl (tin 6 197 (by decide +kernel) rfl), fk_10_35.1, fk_10_35.2⟩
set_option maxRecDepth 100000 in
theorem p_c13_85 : PR RX12 "<init>" 85 10 38 := ⟨put_okF (j := 38) (C := RX12) (T := TX12) (N := 70) (ci := 10) rfl (by decide) rfl rfl rfl (tin 6 200 (by decide +kernel) rfl), fk_10_38.1, fk_10_38.2⟩
set_option maxRecDepth 100000 in
theorem p_c13_88 : PR RX12 "<init>" 88 10 39 := ⟨put_okF (j := 39) (C := RX12) (T := TX12) (N := 70) (ci := 10) rfl (by decide) rfl rfl rfl (tin 6 201 (by decide +kernel) rfl), fk_10_39.1, fk_10_39.2⟩
set_option maxRecDepth 100000 in
theorem p_c13_91 : PR RX12 "<init>" 91 10 40 := ⟨put_okF (j := 40) (C := RX12) (T := TX12) (N := 70) (ci := 10) rfl (by decide) rfl rfl rfl (tin 6 202 (by decide +kernel) rfl), fk_10_40.1, fk_10_40.2⟩
set_option maxRecDepth 100000 in
theorem p_c13_94 : PR RX12 "<init>" 94 10 41 := ⟨put_okF (j := 41) (C := RX12) (T := TX12) (N := 70) (ci := 10) rfl (by decide) rfl rfl rfl (tin 6 203 (by decide +kernel) rfl), fk_10_41.1, fk_10_41.2⟩
set_option maxRecDepth 100000 in
theorem p_c13_97 : PR RX12 "<init>" 97 10 42 := ⟨put_okF (j := 42) (C := RX12) (T := TX12) (N := 70) (ci := 10) rfl (by decide) rfl rfl rfl (tin 6 204 (by decide +kernel) rfl), fk_10_42.1, fk_10_42.2⟩
set_option maxRecDepth 100000 in
theorem p_c13_100 : PR RX12 "<init>" 100 10 43 := ⟨put_okF (j := 43) (C := RX12) (T := TX12) (N := 70) (ci := 10) rfl (by decide) rfl rfl rfl (tin 6 205 (by decide +kernel) rfl), fk_10_43.1, fk_10_43.2⟩
set_option maxRecDepth 100000 in
theorem p_c13_103 : PR RX12 "<init>" 103 10 49 := ⟨put_okF (j := 49) (C := RX12) (T := TX12) (N := 70) (ci := 10) rfl (by decide) rfl rfl rfl (tin 6 211 (by decide +kernel) rfl), fk_10_49.1, fk_10_49.2⟩
set_option maxRecDepth 100000 in
theorem p_c13_106 : PR RX12 "<init>" 106 10 50 := ⟨put_okF (j := 50) (C := RX12) (T := TX12) (N := 70) (ci := 10) rfl (by decide) rfl rfl rfl (tin 6 212 (by decide +kernel) rfl), fk_10_50.1, fk_10_50.2⟩
set_option maxRecDepth 100000 in
theorem p_c13_109 : PR RX12 "<init>" 109 10 51 := ⟨put_okF (j := 51) (C := RX12) (T := TX12) (N := 70) (ci := 10) rfl (by decide) rfl rfl rfl (tin 6 213 (by decide +kernel) rfl), fk_10_51.1, fk_10_51.2⟩
set_option maxRecDepth 100000 in
theorem p_c13_112 : PR RX12 "<init>" 112 10 52 := ⟨put_okF (j := 52) (C := RX12) (T := TX12) (N := 70) (ci := 10) rfl (by decide) rfl rfl rfl (tin 6 214 (by decide +kernel) rfl), fk_10_52.1, fk_10_52.2⟩
set_option maxRecDepth 100000 in
theorem p_c13_115 : PR RX12 "<init>" 115 10 53 := ⟨put_okF (j := 53) (C := RX12) (T := TX12) (N := 70) (ci := 10) rfl (by decide) rfl rfl rfl (tin 6 215 (by decide +kernel) rfl), fk_10_53.1, fk_10_53.2⟩
set_option maxRecDepth 100000 in
theorem p_c13_119 : PR RX12 "<init>" 119 10 54 := ⟨put_okF (j := 54) (C := RX12) (T := TX12) (N := 70) (ci := 10) rfl (by decide) rfl rfl rfl (tin 6 216 (by decide +kernel) rfl), fk_10_54.1, fk_10_54.2⟩
set_option maxRecDepth 100000 in
theorem p_c13_122 : PR RX12 "<init>" 122 10 55 := ⟨put_okF (j := 55) (C := RX12) (T := TX12) (N := 70) (ci := 10) rfl (by decide) rfl rfl rfl (tin 6 217 (by decide +kernel) rfl), fk_10_55.1, fk_10_55.2⟩
set_option maxRecDepth 100000 in
theorem p_c13_125 : PR RX12 "<init>" 125 10 56 := ⟨put_okF (j := 56) (C := RX12) (T := TX12) (N := 70) (ci := 10) rfl (by decide) rfl rfl rfl (tin 6 218 (by decide +kernel) rfl), fk_10_56.1, fk_10_56.2⟩
set_option maxRecDepth 100000 in
theorem p_c13_128 : PR RX12 "<init>" 128 10 57 := ⟨put_okF (j := 57) (C := RX12) (T := TX12) (N := 70) (ci := 10) rfl (by decide) rfl rfl rfl (tin 6 219 (by decide +kernel) rfl), fk_10_57.1, fk_10_57.2⟩
set_option maxRecDepth 100000 in
theorem p_c13_131 : PR RX12 "<init>" 131 10 58 := ⟨put_okF (j := 58) (C := RX12) (T := TX12) (N := 70) (ci := 10) rfl (by decide) rfl rfl rfl (tin 6 220 (by decide +kernel) rfl), fk_10_58.1, fk_10_58.2⟩
set_option maxRecDepth 100000 in
theorem p_c13_134 : PR RX12 "<init>" 134 10 59 := ⟨put_okF (j := 59) (C := RX12) (T := TX12) (N := 70) (ci := 10) rfl (by decide) rfl rfl rfl (tin 6 221 (by decide +kernel) rfl), fk_10_59.1, fk_10_59.2⟩
set_option maxRecDepth 100000 in
theorem p_c13_137 : PR RX12 "<init>" 137 10 64 := ⟨put_okF (j := 64) (C := RX12) (T := TX12) (N := 70) (ci := 10) rfl (by decide) rfl rfl rfl (tin 6 225 (by decide +kernel) rfl), fk_10_64.1, fk_10_64.2⟩
set_option maxRecDepth 100000 in
theorem p_c13_140 : PR RX12 "<init>" 140 10 65 := ⟨put_okF (j := 65) (C := RX12) (T := TX12) (N := 70) (ci := 10) rfl (by decide) rfl rfl rfl (tin 6 226 (by decide +kernel) rfl), fk_10_65.1, fk_10_65.2⟩
set_option maxRecDepth 100000 in
theorem p_c13_143 : PR RX12 "<init>" 143 10 66 := ⟨put_okF (j := 66) (C := RX12) (T := TX12) (N := 70) (ci := 10) rfl (by decide) rfl rfl rfl (tin 6 227 (by decide +kernel) rfl), fk_10_66.1, fk_10_66.2⟩
set_option maxRecDepth 100000 in
theorem p_c13_147 : PR RX12 "<init>" 147 10 68 := ⟨put_okF (j := 68) (C := RX12) (T := TX12) (N := 70) (ci := 10) rfl (by decide) rfl rfl rfl (tin 6 229 (by decide +kernel) rfl), fk_10_68.1, fk_10_68.2⟩
set_option maxRecDepth 100000 in
theorem p_c13_151 : PR RX12 "<init>" 151 10 69 := ⟨put_okF (j := 69) (C := RX12) (T := TX12) (N := 70) (ci := 10) rfl (by decide) rfl rfl rfl (tin 6 230 (by decide +kernel) rfl), fk_10_69.1, fk_10_69.2⟩
set_option maxRecDepth 100000 in
theorem g_c13_154 : GI RX12 154 10 0 := ⟨get_ok (j := 0) (C := RX12) (T := TX12) (N := 70) (ci := 10) rfl (by decide) (tin 6 162 (by decide +kernel) rfl) , fk_10_0.1, Or.inl fk_10_0.2⟩
set_option maxRecDepth 100000 in
theorem g_c13_63 : GR RX12 63 10 24 := ⟨get_ok (j := 24) (C := RX12) (T := TX12) (N := 70) (ci := 10) rfl (by decide) (tin 6 186 (by decide +kernel) rfl) , fk_10_24.1, fk_10_24.2⟩
set_option maxRecDepth 100000 in
theorem g_c13_165 : GI RX12 165 10 25 := ⟨get_ok (j := 25) (C := RX12) (T := TX12) (N := 70) (ci := 10) rfl (by decide) (tin 6 187 (by decide +kernel) rfl) , fk_10_25.1, Or.inl fk_10_25.2⟩
set_option maxRecDepth 100000 in
theorem p_c13_165 {nm : String} : PI RX12 nm 165 10 25 := ⟨put_ok (j := 25) (C := RX12) (T := TX12) (N := 70) (ci := 10) rfl (by decide) rfl (tin 6 187 (by decide +kernel) rfl) , fk_10_25.1, fk_10_25.2⟩
set_option maxRecDepth 100000 in
theorem g_c13_60 : GR RX12 60 10 22 := ⟨get_ok (j := 22) (C := RX12) (T := TX12) (N := 70) (ci := 10) rfl (by decide) (tin 6 184 (by decide +kernel) rfl) , fk_10_22.1, fk_10_22.2⟩
set_option maxRecDepth 100000 in
theorem g_c13_171 : GI RX12 171 10 23 := ⟨get_ok (j := 23) (C := RX12) (T := TX12) (N := 70) (ci := 10) rfl (by decide) (tin 6 185 (by decide +kernel) rfl) , fk_10_23.1, Or.inl fk_10_23.2⟩
set_option maxRecDepth 100000 in
theorem p_c13_171 {nm : String} : PI RX12 nm 171 10 23 := ⟨put_ok (j := 23) (C := RX12) (T := TX12) (N := 70) (ci := 10) rfl (by decide) rfl (tin 6 185 (by decide +kernel) rfl) , fk_10_23.1, fk_10_23.2⟩
set_option maxRecDepth 100000 in
theorem g_c13_17 : GR RX12 17 10 6 := ⟨get_ok (j := 6) (C := RX12) (T := TX12) (N := 70) (ci := 10) rfl (by decide) (tin 6 168 (by decide +kernel) rfl) , fk_10_6.1, fk_10_6.2⟩
set_option maxRecDepth 100000 in
theorem p_c13_202 {nm : String} : PI RX12 nm 202 10 26 := ⟨put_ok (j := 26) (C := RX12) (T := TX12) (N := 70) (ci := 10) rfl (by decide) rfl (tin 6 188 (by decide +kernel) rfl) , fk_10_26.1, fk_10_26.2⟩
set_option maxRecDepth 100000 in
theorem p_c13_234 {nm : String} : PI RX12 nm 234 10 28 := ⟨put_ok (j := 28) (C := RX12) (T := TX12) (N := 70) (ci := 10) rfl (by decide) rfl (tin 6 190 (by decide +kernel) rfl) , fk_10_28.1, fk_10_28.2⟩
set_option maxRecDepth 100000 in
theorem g_c13_66 : GR RX12 66 10 27 := ⟨get_ok (j := 27) (C := RX12) (T := TX12) (N := 70) (ci := 10) rfl (by decide) (tin 6 189 (by decide +kernel) rfl) , fk_10_27.1, fk_10_27.2⟩
set_option maxRecDepth 100000 in
theorem g_c13_234 : GI RX12 234 10 28 := ⟨get_ok (j := 28) (C := RX12) (T := TX12) (N := 70) (ci := 10) rfl (by decide) (tin 6 190 (by decide +kernel) rfl) , fk_10_28.1, Or.inl fk_10_28.2⟩
set_option maxRecDepth 100000 in
theorem p_c13_240 {nm : String} : PI RX12 nm 240 10 33 := ⟨put_ok (j := 33) (C := RX12) (T := TX12) (N := 70) (ci := 10) rfl (by decide) rfl (tin 6 195 (by decide +kernel) rfl) , fk_10_33.1, fk_10_33.2⟩
set_option maxRecDepth 100000 in
theorem g_c13_78 : GR RX12 78 10 34 := ⟨get_ok (j := 34) (C := RX12) (T := TX12) (N := 70) (ci := 10) rfl (by decide) (tin 6 196 (by decide +kernel) rfl) , fk_10_34.1, fk_10_34.2⟩
set_option maxRecDepth 100000 in
theorem g_c13_240 : GI RX12 240 10 33 := ⟨get_ok (j := 33) (C := RX12) (T := TX12) (N := 70) (ci := 10) rfl (by decide) (tin 6 195 (by decide +kernel) rfl) , fk_10_33.1, Or.inl fk_10_33.2⟩
set_option maxRecDepth 100000 in
theorem g_c13_81 : GR RX12 81 10 35 := ⟨get_ok (j := 35) (C := RX12) (T := TX12) (N := 70) (ci := 10) rfl (by decide) (tin 6 197 (by decide +kernel) rfl) , fk_10_35.1, fk_10_35.2⟩
set_option maxRecDepth 100000 in
theorem g_c13_69 : GR RX12 69 10 30 := ⟨get_ok (j := 30) (C := RX12) (T := TX12) (N := 70) (ci := 10) rfl (by decide) (tin 6 192 (by decide +kernel) rfl) , fk_10_30.1, fk_10_30.2⟩
set_option maxRecDepth 100000 in
theorem g_c13_251 : GI RX12 251 10 29 := ⟨get_ok (j := 29) (C := RX12) (T := TX12) (N := 70) (ci := 10) rfl (by decide) (tin 6 191 (by decide +kernel) rfl) , fk_10_29.1, Or.inl fk_10_29.2⟩
set_option maxRecDepth 100000 in
theorem g_c13_72 : GR RX12 72 10 31 := ⟨get_ok (j := 31) (C := RX12) (T := TX12) (N := 70) (ci := 10) rfl (by decide) (tin 6 193 (by decide +kernel) rfl) , fk_10_31.1, fk_10_31.2⟩
set_option maxRecDepth 100000 in
theorem g_c13_75 : GR RX12 75 10 32 := ⟨get_ok (j := 32) (C := RX12) (T := TX12) (N := 70) (ci := 10) rfl (by decide) (tin 6 194 (by decide +kernel) rfl) , fk_10_32.1, fk_10_32.2⟩
set_option maxRecDepth 100000 in
theorem p_c13_251 {nm : String} : PI RX12 nm 251 10 29 := ⟨put_ok (j := 29) (C := RX12) (T := TX12) (N := 70) (ci := 10) rfl (by decide) rfl (tin 6 191 (by decide +kernel) rfl) , fk_10_29.1, fk_10_29.2⟩
set_option maxRecDepth 100000 in
theorem g_c13_202 : GI RX12 202 10 26 := ⟨get_ok (j := 26) (C := RX12) (T := TX12) (N := 70) (ci := 10) rfl (by decide) (tin 6 188 (by decide +kernel) rfl) , fk_10_26.1, Or.inl fk_10_26.2⟩
set_option maxRecDepth 100000 in
theorem g_c13_41 : GR RX12 41 10 13 := ⟨get_ok (j := 13) (C := RX12) (T := TX12) (N := 70) (ci := 10) rfl (by decide) (tin 6 175 (by decide +kernel) rfl) , fk_10_13.1, fk_10_13.2⟩
set_option maxRecDepth 100000 in
theorem g_c13_45 : GR RX12 45 10 14 := ⟨get_ok (j := 14) (C := RX12) (T := TX12) (N := 70) (ci := 10) rfl (by decide) (tin 6 176 (by decide +kernel) rfl) , fk_10_14.1, fk_10_14.2⟩
set_option maxRecDepth 100000 in
theorem g_c13_48 : GR RX12 48 10 15 := ⟨get_ok (j := 15) (C := RX12) (T := TX12) (N := 70) (ci := 10) rfl (by decide) (tin 6 177 (by decide +kernel) rfl) , fk_10_15.1, fk_10_15.2⟩
set_option maxRecDepth 100000 in
theorem g_c13_308 : GI RX12 308 10 36 := ⟨get_ok (j := 36) (C := RX12) (T := TX12) (N := 70) (ci := 10) rfl (by decide) (tin 6 198 (by decide +kernel) rfl) , fk_10_36.1, Or.inl fk_10_36.2⟩
set_option maxRecDepth 100000 in
theorem p_c13_308 {nm : String} : PI RX12 nm 308 10 36 := ⟨put_ok (j := 36) (C := RX12) (T := TX12) (N := 70) (ci := 10) rfl (by decide) rfl (tin 6 198 (by decide +kernel) rfl) , fk_10_36.1, fk_10_36.2⟩
set_option maxRecDepth 100000 in
theorem g_c13_54 : GR RX12 54 10 20 := ⟨get_ok (j := 20) (C := RX12) (T := TX12) (N := 70) (ci := 10) rfl (by decide) (tin 6 182 (by decide +kernel) rfl) , fk_10_20.1, fk_10_20.2⟩
set_option maxRecDepth 100000 in
theorem g_c13_336 : GI RX12 336 10 19 := ⟨get_ok (j := 19) (C := RX12) (T := TX12) (N := 70) (ci := 10) rfl (by decide) (tin 6 181 (by decide +kernel) rfl) , fk_10_19.1, Or.inl fk_10_19.2⟩
set_option maxRecDepth 100000 in
theorem g_c13_57 : GR RX12 57 10 21 := ⟨get_ok (j := 21) (C := RX12) (T := TX12) (N := 70) (ci := 10) rfl (by decide) (tin 6 183 (by decide +kernel) rfl) , fk_10_21.1, fk_10_21.2⟩
set_option maxRecDepth 100000 in
theorem p_c13_336 {nm : String} : PI RX12 nm 336 10 19 := ⟨put_ok (j := 19) (C := RX12) (T := TX12) (N := 70) (ci := 10) rfl (by decide) rfl (tin 6 181 (by decide +kernel) rfl) , fk_10_19.1, fk_10_19.2⟩
set_option maxRecDepth 100000 in
theorem g_c13_37 : GI RX12 37 10 12 := ⟨get_ok (j := 12) (C := RX12) (T := TX12) (N := 70) (ci := 10) rfl (by decide) (tin 6 174 (by decide +kernel) rfl) , fk_10_12.1, Or.inl fk_10_12.2⟩
set_option maxRecDepth 100000 in
theorem g_c13_20 : GR RX12 20 10 7 := ⟨get_ok (j := 7) (C := RX12) (T := TX12) (N := 70) (ci := 10) rfl (by decide) (tin 6 169 (by decide +kernel) rfl) , fk_10_7.1, fk_10_7.2⟩
set_option maxRecDepth 100000 in
theorem p_c13_360 {nm : String} : PL RX12 nm 360 10 16 := ⟨put_ok (j := 16) (C := RX12) (T := TX12) (N := 70) (ci := 10) rfl (by decide) rfl (tin 6 178 (by decide +kernel) rfl) , fk_10_16.1, fk_10_16.2⟩
set_option maxRecDepth 100000 in
theorem p_c13_364 {nm : String} : PI RX12 nm 364 10 18 := ⟨put_ok (j := 18) (C := RX12) (T := TX12) (N := 70) (ci := 10) rfl (by decide) rfl (tin 6 180 (by decide +kernel) rfl) , fk_10_18.1, fk_10_18.2⟩
set_option maxRecDepth 100000 in
theorem g_c13_364 : GI RX12 364 10 18 := ⟨get_ok (j := 18) (C := RX12) (T := TX12) (N := 70) (ci := 10) rfl (by decide) (tin 6 180 (by decide +kernel) rfl) , fk_10_18.1, Or.inl fk_10_18.2⟩
set_option maxRecDepth 100000 in
theorem g_c13_51 : GR RX12 51 10 17 := ⟨get_ok (j := 17) (C := RX12) (T := TX12) (N := 70) (ci := 10) rfl (by decide) (tin 6 179 (by decide +kernel) rfl) , fk_10_17.1, fk_10_17.2⟩
set_option maxRecDepth 100000 in
theorem g_c13_370 : GI RX12 370 10 37 := ⟨get_ok (j := 37) (C := RX12) (T := TX12) (N := 70) (ci := 10) rfl (by decide) (tin 6 199 (by decide +kernel) rfl) , fk_10_37.1, Or.inl fk_10_37.2⟩
set_option maxRecDepth 100000 in
theorem g_c13_88 : GR RX12 88 10 39 := ⟨get_ok (j := 39) (C := RX12) (T := TX12) (N := 70) (ci := 10) rfl (by decide) (tin 6 201 (by decide +kernel) rfl) , fk_10_39.1, fk_10_39.2⟩
set_option maxRecDepth 100000 in
theorem g_c13_85 : GR RX12 85 10 38 := ⟨get_ok (j := 38) (C := RX12) (T := TX12) (N := 70) (ci := 10) rfl (by decide) (tin 6 200 (by decide +kernel) rfl) , fk_10_38.1, fk_10_38.2⟩
set_option maxRecDepth 100000 in
theorem g_c13_91 : GR RX12 91 10 40 := ⟨get_ok (j := 40) (C := RX12) (T := TX12) (N := 70) (ci := 10) rfl (by decide) (tin 6 202 (by decide +kernel) rfl) , fk_10_40.1, fk_10_40.2⟩
set_option maxRecDepth 100000 in
theorem g_c13_94 : GR RX12 94 10 41 := ⟨get_ok (j := 41) (C := RX12) (T := TX12) (N := 70) (ci := 10) rfl (by decide) (tin 6 203 (by decide +kernel) rfl) , fk_10_41.1, fk_10_41.2⟩
set_option maxRecDepth 100000 in
theorem p_c13_370 {nm : String} : PI RX12 nm 370 10 37 := ⟨put_ok (j := 37) (C := RX12) (T := TX12) (N := 70) (ci := 10) rfl (by decide) rfl (tin 6 199 (by decide +kernel) rfl) , fk_10_37.1, fk_10_37.2⟩
set_option maxRecDepth 100000 in
theorem g_c13_97 : GR RX12 97 10 42 := ⟨get_ok (j := 42) (C := RX12) (T := TX12) (N := 70) (ci := 10) rfl (by decide) (tin 6 204 (by decide +kernel) rfl) , fk_10_42.1, fk_10_42.2⟩
set_option maxRecDepth 100000 in
theorem g_c13_382 : GI RX12 382 10 4 := ⟨get_ok (j := 4) (C := RX12) (T := TX12) (N := 70) (ci := 10) rfl (by decide) (tin 6 166 (by decide +kernel) rfl) , fk_10_4.1, Or.inl fk_10_4.2⟩
set_option maxRecDepth 100000 in
theorem g_c13_24 : GR RX12 24 10 8 := ⟨get_ok (j := 8) (C := RX12) (T := TX12) (N := 70) (ci := 10) rfl (by decide) (tin 6 170 (by decide +kernel) rfl) , fk_10_8.1, fk_10_8.2⟩
set_option maxRecDepth 100000 in
theorem p_c13_391 {nm : String} : PI RX12 nm 391 10 48 := ⟨put_ok (j := 48) (C := RX12) (T := TX12) (N := 70) (ci := 10) rfl (by decide) rfl (tin 6 210 (by decide +kernel) rfl) , fk_10_48.1, fk_10_48.2⟩
set_option maxRecDepth 100000 in
theorem g_c13_103 : GR RX12 103 10 49 := ⟨get_ok (j := 49) (C := RX12) (T := TX12) (N := 70) (ci := 10) rfl (by decide) (tin 6 211 (by decide +kernel) rfl) , fk_10_49.1, fk_10_49.2⟩
set_option maxRecDepth 100000 in
theorem g_c13_394 : GI RX12 394 10 45 := ⟨get_ok (j := 45) (C := RX12) (T := TX12) (N := 70) (ci := 10) rfl (by decide) (tin 6 207 (by decide +kernel) rfl) , fk_10_45.1, Or.inl fk_10_45.2⟩
set_option maxRecDepth 100000 in
theorem g_c13_106 : GR RX12 106 10 50 := ⟨get_ok (j := 50) (C := RX12) (T := TX12) (N := 70) (ci := 10) rfl (by decide) (tin 6 212 (by decide +kernel) rfl) , fk_10_50.1, fk_10_50.2⟩
set_option maxRecDepth 100000 in
theorem g_c13_109 : GR RX12 109 10 51 := ⟨get_ok (j := 51) (C := RX12) (T := TX12) (N := 70) (ci := 10) rfl (by decide) (tin 6 213 (by decide +kernel) rfl) , fk_10_51.1, fk_10_51.2⟩
set_option maxRecDepth 100000 in
theorem g_c13_112 : GR RX12 112 10 52 := ⟨get_ok (j := 52) (C := RX12) (T := TX12) (N := 70) (ci := 10) rfl (by decide) (tin 6 214 (by decide +kernel) rfl) , fk_10_52.1, fk_10_52.2⟩
set_option maxRecDepth 100000 in
theorem g_c13_115 : GR RX12 115 10 53 := ⟨get_ok (j := 53) (C := RX12) (T := TX12) (N := 70) (ci := 10) rfl (by decide) (tin 6 215 (by decide +kernel) rfl) , fk_10_53.1, fk_10_53.2⟩
set_option maxRecDepth 100000 in
theorem g_c13_119 : GR RX12 119 10 54 := ⟨get_ok (j := 54) (C := RX12) (T := TX12) (N := 70) (ci := 10) rfl (by decide) (tin 6 216 (by decide +kernel) rfl) , fk_10_54.1, fk_10_54.2⟩
set_option maxRecDepth 100000 in
theorem p_c13_394 {nm : String} : PI RX12 nm 394 10 45 := ⟨put_ok (j := 45) (C := RX12) (T := TX12) (N := 70) (ci := 10) rfl (by decide) rfl (tin 6 207 (by decide +kernel) rfl) , fk_10_45.1, fk_10_45.2⟩
set_option maxRecDepth 100000 in
theorem g_c13_122 : GR RX12 122 10 55 := ⟨get_ok (j := 55) (C := RX12) (T := TX12) (N := 70) (ci := 10) rfl (by decide) (tin 6 217 (by decide +kernel) rfl) , fk_10_55.1, fk_10_55.2⟩
set_option maxRecDepth 100000 in
theorem g_c13_403 : GI RX12 403 10 46 := ⟨get_ok (j := 46) (C := RX12) (T := TX12) (N := 70) (ci := 10) rfl (by decide) (tin 6 208 (by decide +kernel) rfl) , fk_10_46.1, Or.inl fk_10_46.2⟩
set_option maxRecDepth 100000 in
theorem p_c13_403 {nm : String} : PI RX12 nm 403 10 46 := ⟨put_ok (j := 46) (C := RX12) (T := TX12) (N := 70) (ci := 10) rfl (by decide) rfl (tin 6 208 (by decide +kernel) rfl) , fk_10_46.1, fk_10_46.2⟩
set_option maxRecDepth 100000 in
theorem g_c13_406 : GI RX12 406 10 47 := ⟨get_ok (j := 47) (C := RX12) (T := TX12) (N := 70) (ci := 10) rfl (by decide) (tin 6 209 (by decide +kernel) rfl) , fk_10_47.1, Or.inl fk_10_47.2⟩
set_option maxRecDepth 100000 in
theorem g_c13_125 : GR RX12 125 10 56 := ⟨get_ok (j := 56) (C := RX12) (T := TX12) (N := 70) (ci := 10) rfl (by decide) (tin 6 218 (by decide +kernel) rfl) , fk_10_56.1, fk_10_56.2⟩
set_option maxRecDepth 100000 in
theorem p_c13_406 {nm : String} : PI RX12 nm 406 10 47 := ⟨put_ok (j := 47) (C := RX12) (T := TX12) (N := 70) (ci := 10) rfl (by decide) rfl (tin 6 209 (by decide +kernel) rfl) , fk_10_47.1, fk_10_47.2⟩
set_option maxRecDepth 100000 in
theorem g_c13_412 : GI RX12 412 10 44 := ⟨get_ok (j := 44) (C := RX12) (T := TX12) (N := 70) (ci := 10) rfl (by decide) (tin 6 206 (by decide +kernel) rfl) , fk_10_44.1, Or.inl fk_10_44.2⟩
set_option maxRecDepth 100000 in
theorem g_c13_100 : GR RX12 100 10 43 := ⟨get_ok (j := 43) (C := RX12) (T := TX12) (N := 70) (ci := 10) rfl (by decide) (tin 6 205 (by decide +kernel) rfl) , fk_10_43.1, fk_10_43.2⟩
set_option maxRecDepth 100000 in
theorem g_c13_134 : GR RX12 134 10 59 := ⟨get_ok (j := 59) (C := RX12) (T := TX12) (N := 70) (ci := 10) rfl (by decide) (tin 6 221 (by decide +kernel) rfl) , fk_10_59.1, fk_10_59.2⟩
set_option maxRecDepth 100000 in
theorem g_c13_131 : GR RX12 131 10 58 := ⟨get_ok (j := 58) (C := RX12) (T := TX12) (N := 70) (ci := 10) rfl (by decide) (tin 6 220 (by decide +kernel) rfl) , fk_10_58.1, fk_10_58.2⟩
set_option maxRecDepth 100000 in
theorem g_c13_471 : GI RX12 471 10 60 := ⟨get_ok (j := 60) (C := RX12) (T := TX12) (N := 70) (ci := 10) rfl (by decide) (tin 6 222 (by decide +kernel) rfl) , fk_10_60.1, Or.inl fk_10_60.2⟩
set_option maxRecDepth 100000 in
theorem g_c13_34 : GR RX12 34 10 11 := ⟨get_ok (j := 11) (C := RX12) (T := TX12) (N := 70) (ci := 10) rfl (by decide) (tin 6 173 (by decide +kernel) rfl) , fk_10_11.1, fk_10_11.2⟩
set_option maxRecDepth 100000 in
theorem g_c13_31 : GR RX12 31 10 10 := ⟨get_ok (j := 10) (C := RX12) (T := TX12) (N := 70) (ci := 10) rfl (by decide) (tin 6 172 (by decide +kernel) rfl) , fk_10_10.1, fk_10_10.2⟩
set_option maxRecDepth 100000 in
theorem g_c13_28 : GR RX12 28 10 9 := ⟨get_ok (j := 9) (C := RX12) (T := TX12) (N := 70) (ci := 10) rfl (by decide) (tin 6 171 (by decide +kernel) rfl) , fk_10_9.1, fk_10_9.2⟩
set_option maxRecDepth 100000 in
theorem g_c13_360 : GL RX12 360 10 16 := ⟨get_ok (j := 16) (C := RX12) (T := TX12) (N := 70) (ci := 10) rfl (by decide) (tin 6 178 (by decide +kernel) rfl) , fk_10_16.1, fk_10_16.2⟩
set_option maxRecDepth 100000 in
theorem p_c13_471 {nm : String} : PI RX12 nm 471 10 60 := ⟨put_ok (j := 60) (C := RX12) (T := TX12) (N := 70) (ci := 10) rfl (by decide) rfl (tin 6 222 (by decide +kernel) rfl) , fk_10_60.1, fk_10_60.2⟩
set_option maxRecDepth 100000 in
theorem g_c13_128 : GR RX12 128 10 57 := ⟨get_ok (j := 57) (C := RX12) (T := TX12) (N := 70) (ci := 10) rfl (by decide) (tin 6 219 (by decide +kernel) rfl) , fk_10_57.1, fk_10_57.2⟩
set_option maxRecDepth 100000 in
theorem p_c13_154 {nm : String} : PI RX12 nm 154 10 0 := ⟨put_ok (j := 0) (C := RX12) (T := TX12) (N := 70) (ci := 10) rfl (by decide) rfl (tin 6 162 (by decide +kernel) rfl) , fk_10_0.1, fk_10_0.2⟩
set_option maxRecDepth 100000 in
theorem g_c13_7 : GR RX12 7 10 1 := ⟨get_ok (j := 1) (C := RX12) (T := TX12) (N := 70) (ci := 10) rfl (by decide) (tin 6 163 (by decide +kernel) rfl) , fk_10_1.1, fk_10_1.2⟩
set_option maxRecDepth 100000 in
theorem g_c13_496 : GI RX12 496 10 3 := ⟨get_ok (j := 3) (C := RX12) (T := TX12) (N := 70) (ci := 10) rfl (by decide) (tin 6 165 (by decide +kernel) rfl) , fk_10_3.1, Or.inl fk_10_3.2⟩
set_option maxRecDepth 100000 in
theorem g_c13_13 : GR RX12 13 10 2 := ⟨get_ok (j := 2) (C := RX12) (T := TX12) (N := 70) (ci := 10) rfl (by decide) (tin 6 164 (by decide +kernel) rfl) , fk_10_2.1, fk_10_2.2⟩
set_option maxRecDepth 100000 in
theorem p_c13_496 {nm : String} : PI RX12 nm 496 10 3 := ⟨put_ok (j := 3) (C := RX12) (T := TX12) (N := 70) (ci := 10) rfl (by decide) rfl (tin 6 165 (by decide +kernel) rfl) , fk_10_3.1, fk_10_3.2⟩
set_option maxRecDepth 100000 in
theorem g_c13_499 : GI RX12 499 10 5 := ⟨get_ok (j := 5) (C := RX12) (T := TX12) (N := 70) (ci := 10) rfl (by decide) (tin 6 167 (by decide +kernel) rfl) , fk_10_5.1, Or.inl fk_10_5.2⟩
set_option maxRecDepth 100000 in
theorem p_c13_382 {nm : String} : PI RX12 nm 382 10 4 := ⟨put_ok (j := 4) (C := RX12) (T := TX12) (N := 70) (ci := 10) rfl (by decide) rfl (tin 6 166 (by decide +kernel) rfl) , fk_10_4.1, fk_10_4.2⟩
set_option maxRecDepth 100000 in
theorem p_c13_499 {nm : String} : PI RX12 nm 499 10 5 := ⟨put_ok (j := 5) (C := RX12) (T := TX12) (N := 70) (ci := 10) rfl (by decide) rfl (tin 6 167 (by decide +kernel) rfl) , fk_10_5.1, fk_10_5.2⟩
set_option maxRecDepth 100000 in
theorem p_c13_412 {nm : String} : PI RX12 nm 412 10 44 := ⟨put_ok (j := 44) (C := RX12) (T := TX12) (N := 70) (ci := 10) rfl (by decide) rfl (tin 6 206 (by decide +kernel) rfl) , fk_10_44.1, fk_10_44.2⟩
set_option maxRecDepth 100000 in
theorem p_c13_521 {nm : String} : PI RX12 nm 521 10 62 := ⟨put_ok (j := 62) (C := RX12) (T := TX12) (N := 70) (ci := 10) rfl (by decide) rfl (tin 6 223 (by decide +kernel) rfl) , fk_10_62.1, fk_10_62.2⟩
set_option maxRecDepth 100000 in
theorem g_c13_143 : GR RX12 143 10 66 := ⟨get_ok (j := 66) (C := RX12) (T := TX12) (N := 70) (ci := 10) rfl (by decide) (tin 6 227 (by decide +kernel) rfl) , fk_10_66.1, fk_10_66.2⟩
set_option maxRecDepth 100000 in
theorem g_c13_521 : GI RX12 521 10 62 := ⟨get_ok (j := 62) (C := RX12) (T := TX12) (N := 70) (ci := 10) rfl (by decide) (tin 6 223 (by decide +kernel) rfl) , fk_10_62.1, Or.inl fk_10_62.2⟩
set_option maxRecDepth 100000 in
theorem g_c13_137 : GR RX12 137 10 64 := ⟨get_ok (j := 64) (C := RX12) (T := TX12) (N := 70) (ci := 10) rfl (by decide) (tin 6 225 (by decide +kernel) rfl) , fk_10_64.1, fk_10_64.2⟩
set_option maxRecDepth 100000 in
theorem g_c13_391 : GI RX12 391 10 48 := ⟨get_ok (j := 48) (C := RX12) (T := TX12) (N := 70) (ci := 10) rfl (by decide) (tin 6 210 (by decide +kernel) rfl) , fk_10_48.1, Or.inl fk_10_48.2⟩
set_option maxRecDepth 100000 in
theorem p_c13_527 {nm : String} : PI RX12 nm 527 10 63 := ⟨put_ok (j := 63) (C := RX12) (T := TX12) (N := 70) (ci := 10) rfl (by decide) rfl (tin 6 224 (by decide +kernel) rfl) , fk_10_63.1, fk_10_63.2⟩
set_option maxRecDepth 100000 in
theorem g_c13_527 : GI RX12 527 10 63 := ⟨get_ok (j := 63) (C := RX12) (T := TX12) (N := 70) (ci := 10) rfl (by decide) (tin 6 224 (by decide +kernel) rfl) , fk_10_63.1, Or.inl fk_10_63.2⟩
set_option maxRecDepth 100000 in
theorem g_c13_140 : GR RX12 140 10 65 := ⟨get_ok (j := 65) (C := RX12) (T := TX12) (N := 70) (ci := 10) rfl (by decide) (tin 6 226 (by decide +kernel) rfl) , fk_10_65.1, fk_10_65.2⟩
set_option maxRecDepth 100000 in
theorem g_c13_536 : GI RX12 536 10 67 := ⟨get_ok (j := 67) (C := RX12) (T := TX12) (N := 70) (ci := 10) rfl (by decide) (tin 6 228 (by decide +kernel) rfl) , fk_10_67.1, Or.inl fk_10_67.2⟩
set_option maxRecDepth 100000 in
theorem g_c13_151 : GR RX12 151 10 69 := ⟨get_ok (j := 69) (C := RX12) (T := TX12) (N := 70) (ci := 10) rfl (by decide) (tin 6 230 (by decide +kernel) rfl) , fk_10_69.1, fk_10_69.2⟩
set_option maxRecDepth 100000 in
theorem g_c13_147 : GR RX12 147 10 68 := ⟨get_ok (j := 68) (C := RX12) (T := TX12) (N := 70) (ci := 10) rfl (by decide) (tin 6 229 (by decide +kernel) rfl) , fk_10_68.1, fk_10_68.2⟩
set_option maxRecDepth 100000 in
theorem p_c13_536 {nm : String} : PI RX12 nm 536 10 67 := ⟨put_ok (j := 67) (C := RX12) (T := TX12) (N := 70) (ci := 10) rfl (by decide) rfl (tin 6 228 (by decide +kernel) rfl) , fk_10_67.1, fk_10_67.2⟩
set_option maxRecDepth 100000 in
theorem mok_X0_init : MOK D_X0_init 0 := ⟨tin 1 58 (by decide +kernel) rfl, by decide +kernel, by decide +kernel, by decide +kernel⟩
theorem pn_X0_init : plainName yX0_init.cls = true := by decide +kernel
set_option maxRecDepth 100000 in
theorem mok_X0_entryCount : MOK D_X0_entryCount 0 := ⟨tin 2 186 (by decide +kernel) rfl, by decide +kernel, by decide +kernel, by decide +kernel⟩
theorem pn_X0_entryCount : plainName yX0_entryCount.cls = true := by decide +kernel
set_option maxRecDepth 100000 in
theorem mok_X0_sizeOf : MOK D_X0_sizeOf 1 := ⟨tin 3 31 (by decide +kernel) rfl, by decide +kernel, by decide +kernel, by decide +kernel⟩
theorem pn_X0_sizeOf : plainName yX0_sizeOf.cls = true := by decide +kernel
set_option maxRecDepth 100000 in
theorem mok_X0_byteOf : MOK D_X0_byteOf 2 := ⟨tin 3 44 (by decide +kernel) rfl, by decide +kernel, by decide +kernel, by decide +kernel⟩
theorem pn_X0_byteOf : plainName yX0_byteOf.cls = true := by decide +kernel
set_option maxRecDepth 100000 in
theorem mok_X0_find : MOK D_X0_find 3 := ⟨tin 4 123 (by decide +kernel) rfl, by decide +kernel, by decide +kernel, by decide +kernel⟩
theorem pn_X0_find : plainName yX0_find.cls = true := by decide +kernel
set_option maxRecDepth 100000 in
theorem mok_X0_slotOf : MOK D_X0_slotOf 3 := ⟨tin 4 126 (by decide +kernel) rfl, by decide +kernel, by decide +kernel, by decide +kernel⟩
theorem pn_X0_slotOf : plainName yX0_slotOf.cls = true := by decide +kernel
set_option maxRecDepth 100000 in
theorem mok_X1_byteAt : MOK D_X1_byteAt 1 := ⟨tin 2 166 (by decide +kernel) rfl, by decide +kernel, by decide +kernel, by decide +kernel⟩
theorem pn_X1_byteAt : plainName yX1_byteAt.cls = true := by decide +kernel
set_option maxRecDepth 100000 in
theorem mok_X0_begins : MOK D_X0_begins 4 := ⟨tin 4 131 (by decide +kernel) rfl, by decide +kernel, by decide +kernel, by decide +kernel⟩
theorem pn_X0_begins : plainName yX0_begins.cls = true := by decide +kernel
set_option maxRecDepth 100000 in
theorem mok_X0_enter : MOK D_X0_enter 3 := ⟨tin 4 119 (by decide +kernel) rfl, by decide +kernel, by decide +kernel, by decide +kernel⟩
theorem pn_X0_enter : plainName yX0_enter.cls = true := by decide +kernel
set_option maxRecDepth 100000 in
theorem mok_X0_makeRoom : MOK D_X0_makeRoom 2 := ⟨tin 4 135 (by decide +kernel) rfl, by decide +kernel, by decide +kernel, by decide +kernel⟩
theorem pn_X0_makeRoom : plainName yX0_makeRoom.cls = true := by decide +kernel
set_option maxRecDepth 100000 in
theorem mok_J7_copyOf_9075b : MOK D_J7_copyOf_9075b 2 := ⟨tin 4 138 (by decide +kernel) rfl, by decide +kernel, by decide +kernel, by decide +kernel⟩
theorem pn_J7_copyOf_9075b : plainName yJ7_copyOf_9075b.cls = true := by decide +kernel
set_option maxRecDepth 100000 in
theorem mok_J9_min_7cf53 : MOK D_J9_min_7cf53 2 := ⟨tin 3 171 (by decide +kernel) rfl, by decide +kernel, by decide +kernel, by decide +kernel⟩
set_option maxRecDepth 100000 in
theorem mok_J7_copyOf_59c91 : MOK D_J7_copyOf_59c91 2 := ⟨tin 4 152 (by decide +kernel) rfl, by decide +kernel, by decide +kernel, by decide +kernel⟩
theorem pn_J7_copyOf_59c91 : plainName yJ7_copyOf_59c91.cls = true := by decide +kernel
set_option maxRecDepth 100000 in
theorem mok_X0_isAhead : MOK D_X0_isAhead 2 := ⟨tin 5 232 (by decide +kernel) rfl, by decide +kernel, by decide +kernel, by decide +kernel⟩
theorem pn_X0_isAhead : plainName yX0_isAhead.cls = true := by decide +kernel
set_option maxRecDepth 100000 in
theorem mok_X0_startRound : MOK D_X0_startRound 0 := ⟨tin 3 65 (by decide +kernel) rfl, by decide +kernel, by decide +kernel, by decide +kernel⟩
theorem pn_X0_startRound : plainName yX0_startRound.cls = true := by decide +kernel
set_option maxRecDepth 100000 in
theorem mok_X0_isNewInRound : MOK D_X0_isNewInRound 1 := ⟨tin 3 69 (by decide +kernel) rfl, by decide +kernel, by decide +kernel, by decide +kernel⟩
theorem pn_X0_isNewInRound : plainName yX0_isNewInRound.cls = true := by decide +kernel
set_option maxRecDepth 100000 in
theorem mok_X1_init : MOK D_X1_init 1 := ⟨tin 1 44 (by decide +kernel) rfl, by decide +kernel, by decide +kernel, by decide +kernel⟩
theorem pn_X1_init : plainName yX1_init.cls = true := by decide +kernel
set_option maxRecDepth 100000 in
theorem mok_X1_size : MOK D_X1_size 0 := ⟨tin 2 158 (by decide +kernel) rfl, by decide +kernel, by decide +kernel, by decide +kernel⟩
theorem pn_X1_size : plainName yX1_size.cls = true := by decide +kernel
set_option maxRecDepth 100000 in
theorem mok_X1_clear : MOK D_X1_clear 0 := ⟨tin 2 86 (by decide +kernel) rfl, by decide +kernel, by decide +kernel, by decide +kernel⟩
theorem pn_X1_clear : plainName yX1_clear.cls = true := by decide +kernel
set_option maxRecDepth 100000 in
theorem mok_X1_put : MOK D_X1_put 1 := ⟨tin 2 94 (by decide +kernel) rfl, by decide +kernel, by decide +kernel, by decide +kernel⟩
theorem pn_X1_put : plainName yX1_put.cls = true := by decide +kernel
set_option maxRecDepth 100000 in
theorem mok_X1_putNumber : MOK D_X1_putNumber 1 := ⟨tin 2 90 (by decide +kernel) rfl, by decide +kernel, by decide +kernel, by decide +kernel⟩
theorem pn_X1_putNumber : plainName yX1_putNumber.cls = true := by decide +kernel
set_option maxRecDepth 100000 in
theorem mok_X1_putAll : MOK D_X1_putAll 3 := ⟨tin 2 162 (by decide +kernel) rfl, by decide +kernel, by decide +kernel, by decide +kernel⟩
theorem pn_X1_putAll : plainName yX1_putAll.cls = true := by decide +kernel
set_option maxRecDepth 100000 in
theorem mok_X1_cutBlanksAtEnd : MOK D_X1_cutBlanksAtEnd 0 := ⟨tin 4 41 (by decide +kernel) rfl, by decide +kernel, by decide +kernel, by decide +kernel⟩
theorem pn_X1_cutBlanksAtEnd : plainName yX1_cutBlanksAtEnd.cls = true := by decide +kernel
set_option maxRecDepth 100000 in
theorem mok_X9_isBlank : MOK D_X9_isBlank 1 := ⟨tin 4 22 (by decide +kernel) rfl, by decide +kernel, by decide +kernel, by decide +kernel⟩
theorem pn_X9_isBlank : plainName yX9_isBlank.cls = true := by decide +kernel
set_option maxRecDepth 100000 in
theorem mok_X1_blanksBack : MOK D_X1_blanksBack 2 := ⟨tin 4 234 (by decide +kernel) rfl, by decide +kernel, by decide +kernel, by decide +kernel⟩
theorem pn_X1_blanksBack : plainName yX1_blanksBack.cls = true := by decide +kernel
set_option maxRecDepth 100000 in
theorem mok_X1_blanksOn : MOK D_X1_blanksOn 2 := ⟨tin 4 205 (by decide +kernel) rfl, by decide +kernel, by decide +kernel, by decide +kernel⟩
theorem pn_X1_blanksOn : plainName yX1_blanksOn.cls = true := by decide +kernel
set_option maxRecDepth 100000 in
theorem mok_X1_seek : MOK D_X1_seek 3 := ⟨tin 4 109 (by decide +kernel) rfl, by decide +kernel, by decide +kernel, by decide +kernel⟩
theorem pn_X1_seek : plainName yX1_seek.cls = true := by decide +kernel
set_option maxRecDepth 100000 in
theorem mok_X1_lineStop : MOK D_X1_lineStop 2 := ⟨tin 3 164 (by decide +kernel) rfl, by decide +kernel, by decide +kernel, by decide +kernel⟩
theorem pn_X1_lineStop : plainName yX1_lineStop.cls = true := by decide +kernel
set_option maxRecDepth 100000 in
theorem mok_X1_lineEnd : MOK D_X1_lineEnd 3 := ⟨tin 3 168 (by decide +kernel) rfl, by decide +kernel, by decide +kernel, by decide +kernel⟩
theorem pn_X1_lineEnd : plainName yX1_lineEnd.cls = true := by decide +kernel
set_option maxRecDepth 100000 in
theorem mok_X1_hasAt : MOK D_X1_hasAt 3 := ⟨tin 3 215 (by decide +kernel) rfl, by decide +kernel, by decide +kernel, by decide +kernel⟩
theorem pn_X1_hasAt : plainName yX1_hasAt.cls = true := by decide +kernel
set_option maxRecDepth 100000 in
theorem mok_J0_length_8abf5 : MOK D_J0_length_8abf5 0 := ⟨tin 3 205 (by decide +kernel) rfl, by decide +kernel, by decide +kernel, by decide +kernel⟩
theorem pn_J0_length_8abf5 : plainName yJ0_length_8abf5.cls = true := by decide +kernel
set_option maxRecDepth 100000 in
theorem mok_J0_coder_7d493 : MOK D_J0_coder_7d493 0 := ⟨tin 3 209 (by decide +kernel) rfl, by decide +kernel, by decide +kernel, by decide +kernel⟩
theorem pn_J0_coder_7d493 : plainName yJ0_coder_7d493.cls = true := by decide +kernel
set_option maxRecDepth 100000 in
theorem mok_X9_small : MOK D_X9_small 1 := ⟨tin 3 219 (by decide +kernel) rfl, by decide +kernel, by decide +kernel, by decide +kernel⟩
theorem pn_X9_small : plainName yX9_small.cls = true := by decide +kernel
set_option maxRecDepth 100000 in
theorem mok_J0_charAt_5068e : MOK D_J0_charAt_5068e 1 := ⟨tin 3 223 (by decide +kernel) rfl, by decide +kernel, by decide +kernel, by decide +kernel⟩
theorem pn_J0_charAt_5068e : plainName yJ0_charAt_5068e.cls = true := by decide +kernel
set_option maxRecDepth 100000 in
theorem mok_J0_isLatin1_aae02 : MOK D_J0_isLatin1_aae02 0 := ⟨tin 3 227 (by decide +kernel) rfl, by decide +kernel, by decide +kernel, by decide +kernel⟩
theorem pn_J0_isLatin1_aae02 : plainName yJ0_isLatin1_aae02.cls = true := by decide +kernel
set_option maxRecDepth 100000 in
theorem mok_J1_charAt_3b067 : MOK D_J1_charAt_3b067 2 := ⟨tin 3 230 (by decide +kernel) rfl, by decide +kernel, by decide +kernel, by decide +kernel⟩
theorem pn_J1_charAt_3b067 : plainName yJ1_charAt_3b067.cls = true := by decide +kernel
set_option maxRecDepth 100000 in
theorem mok_J0_checkIndex_df160 : MOK D_J0_checkIndex_df160 2 := ⟨tin 3 233 (by decide +kernel) rfl, by decide +kernel, by decide +kernel, by decide +kernel⟩
theorem pn_J0_checkIndex_df160 : plainName yJ0_checkIndex_df160.cls = true := by decide +kernel
set_option maxRecDepth 100000 in
theorem mok_J3_checkIndex_8e157 : MOK D_J3_checkIndex_8e157 3 := ⟨tin 2 200 (by decide +kernel) rfl, by decide +kernel, by decide +kernel, by decide +kernel⟩
theorem pn_J3_checkIndex_8e157 : plainName yJ3_checkIndex_8e157.cls = true := by decide +kernel
set_option maxRecDepth 100000 in
theorem mok_J2_charAt_3b067 : MOK D_J2_charAt_3b067 2 := ⟨tin 3 239 (by decide +kernel) rfl, by decide +kernel, by decide +kernel, by decide +kernel⟩
theorem pn_J2_charAt_3b067 : plainName yJ2_charAt_3b067.cls = true := by decide +kernel
set_option maxRecDepth 100000 in
theorem mok_J2_checkIndex_2214a : MOK D_J2_checkIndex_2214a 2 := ⟨tin 4 2 (by decide +kernel) rfl, by decide +kernel, by decide +kernel, by decide +kernel⟩
theorem pn_J2_checkIndex_2214a : plainName yJ2_checkIndex_2214a.cls = true := by decide +kernel
set_option maxRecDepth 100000 in
theorem mok_J2_length_9d52b : MOK D_J2_length_9d52b 1 := ⟨tin 4 5 (by decide +kernel) rfl, by decide +kernel, by decide +kernel, by decide +kernel⟩
theorem pn_J2_length_9d52b : plainName yJ2_length_9d52b.cls = true := by decide +kernel
set_option maxRecDepth 100000 in
theorem mok_X1_is : MOK D_X1_is 4 := ⟨tin 4 239 (by decide +kernel) rfl, by decide +kernel, by decide +kernel, by decide +kernel⟩
theorem pn_X1_is : plainName yX1_is.cls = true := by decide +kernel
set_option maxRecDepth 100000 in
theorem mok_X1_numberIn : MOK D_X1_numberIn 2 := ⟨tin 4 65 (by decide +kernel) rfl, by decide +kernel, by decide +kernel, by decide +kernel⟩
theorem pn_X1_numberIn : plainName yX1_numberIn.cls = true := by decide +kernel
set_option maxRecDepth 100000 in
theorem mok_X9_isDigit : MOK D_X9_isDigit 1 := ⟨tin 3 185 (by decide +kernel) rfl, by decide +kernel, by decide +kernel, by decide +kernel⟩
theorem pn_X9_isDigit : plainName yX9_isDigit.cls = true := by decide +kernel
set_option maxRecDepth 100000 in
theorem mok_X1_nextWord : MOK D_X1_nextWord 3 := ⟨tin 4 213 (by decide +kernel) rfl, by decide +kernel, by decide +kernel, by decide +kernel⟩
theorem pn_X1_nextWord : plainName yX1_nextWord.cls = true := by decide +kernel
set_option maxRecDepth 100000 in
theorem mok_X9_isOfWord : MOK D_X9_isOfWord 1 := ⟨tin 4 217 (by decide +kernel) rfl, by decide +kernel, by decide +kernel, by decide +kernel⟩
theorem pn_X9_isOfWord : plainName yX9_isOfWord.cls = true := by decide +kernel
set_option maxRecDepth 100000 in
theorem mok_X9_isLetter : MOK D_X9_isLetter 1 := ⟨tin 3 182 (by decide +kernel) rfl, by decide +kernel, by decide +kernel, by decide +kernel⟩
theorem pn_X9_isLetter : plainName yX9_isLetter.cls = true := by decide +kernel
set_option maxRecDepth 100000 in
theorem mok_X2_base64 : MOK D_X2_base64 4 := ⟨tin 4 192 (by decide +kernel) rfl, by decide +kernel, by decide +kernel, by decide +kernel⟩
theorem pn_X2_base64 : plainName yX2_base64.cls = true := by decide +kernel
set_option maxRecDepth 100000 in
theorem mok_X9_base64Digit : MOK D_X9_base64Digit 1 := ⟨tin 4 195 (by decide +kernel) rfl, by decide +kernel, by decide +kernel, by decide +kernel⟩
theorem pn_X9_base64Digit : plainName yX9_base64Digit.cls = true := by decide +kernel
set_option maxRecDepth 100000 in
theorem mok_X2_quoted : MOK D_X2_quoted 4 := ⟨tin 5 8 (by decide +kernel) rfl, by decide +kernel, by decide +kernel, by decide +kernel⟩
theorem pn_X2_quoted : plainName yX2_quoted.cls = true := by decide +kernel
set_option maxRecDepth 100000 in
theorem mok_X2_escaped : MOK D_X2_escaped 5 := ⟨tin 4 198 (by decide +kernel) rfl, by decide +kernel, by decide +kernel, by decide +kernel⟩
theorem pn_X2_escaped : plainName yX2_escaped.cls = true := by decide +kernel
set_option maxRecDepth 100000 in
theorem mok_X9_hexDigit : MOK D_X9_hexDigit 1 := ⟨tin 4 201 (by decide +kernel) rfl, by decide +kernel, by decide +kernel, by decide +kernel⟩
theorem pn_X9_hexDigit : plainName yX9_hexDigit.cls = true := by decide +kernel
set_option maxRecDepth 100000 in
theorem mok_X2_encodedWords : MOK D_X2_encodedWords 2 := ⟨tin 4 173 (by decide +kernel) rfl, by decide +kernel, by decide +kernel, by decide +kernel⟩
theorem pn_X2_encodedWords : plainName yX2_encodedWords.cls = true := by decide +kernel
set_option maxRecDepth 100000 in
theorem mok_X2_encodedStop : MOK D_X2_encodedStop 2 := ⟨tin 4 177 (by decide +kernel) rfl, by decide +kernel, by decide +kernel, by decide +kernel⟩
theorem pn_X2_encodedStop : plainName yX2_encodedStop.cls = true := by decide +kernel
set_option maxRecDepth 100000 in
theorem mok_X2_encoded : MOK D_X2_encoded 4 := ⟨tin 4 188 (by decide +kernel) rfl, by decide +kernel, by decide +kernel, by decide +kernel⟩
theorem pn_X2_encoded : plainName yX2_encoded.cls = true := by decide +kernel
set_option maxRecDepth 100000 in
theorem mok_X3_dayNumber : MOK D_X3_dayNumber 3 := ⟨tin 4 91 (by decide +kernel) rfl, by decide +kernel, by decide +kernel, by decide +kernel⟩
theorem pn_X3_dayNumber : plainName yX3_dayNumber.cls = true := by decide +kernel
set_option maxRecDepth 100000 in
theorem mok_X3_daysIn : MOK D_X3_daysIn 2 := ⟨tin 4 94 (by decide +kernel) rfl, by decide +kernel, by decide +kernel, by decide +kernel⟩
theorem pn_X3_daysIn : plainName yX3_daysIn.cls = true := by decide +kernel
set_option maxRecDepth 100000 in
theorem mok_X3_dayAt : MOK D_X3_dayAt 2 := ⟨tin 6 74 (by decide +kernel) rfl, by decide +kernel, by decide +kernel, by decide +kernel⟩
theorem pn_X3_dayAt : plainName yX3_dayAt.cls = true := by decide +kernel
set_option maxRecDepth 100000 in
theorem mok_X3_minutes : MOK D_X3_minutes 1 := ⟨tin 4 45 (by decide +kernel) rfl, by decide +kernel, by decide +kernel, by decide +kernel⟩
theorem pn_X3_minutes : plainName yX3_minutes.cls = true := by decide +kernel
set_option maxRecDepth 100000 in
theorem mok_X3_wordStart : MOK D_X3_wordStart 2 := ⟨tin 4 48 (by decide +kernel) rfl, by decide +kernel, by decide +kernel, by decide +kernel⟩
theorem pn_X3_wordStart : plainName yX3_wordStart.cls = true := by decide +kernel
set_option maxRecDepth 100000 in
theorem mok_X3_isBetween : MOK D_X3_isBetween 1 := ⟨tin 4 53 (by decide +kernel) rfl, by decide +kernel, by decide +kernel, by decide +kernel⟩
theorem pn_X3_isBetween : plainName yX3_isBetween.cls = true := by decide +kernel
set_option maxRecDepth 100000 in
theorem mok_X3_wordStop : MOK D_X3_wordStop 2 := ⟨tin 4 57 (by decide +kernel) rfl, by decide +kernel, by decide +kernel, by decide +kernel⟩
theorem pn_X3_wordStop : plainName yX3_wordStop.cls = true := by decide +kernel
set_option maxRecDepth 100000 in
theorem mok_X3_isOfLetters : MOK D_X3_isOfLetters 3 := ⟨tin 4 60 (by decide +kernel) rfl, by decide +kernel, by decide +kernel, by decide +kernel⟩
theorem pn_X3_isOfLetters : plainName yX3_isOfLetters.cls = true := by decide +kernel
set_option maxRecDepth 100000 in
theorem mok_X3_monthAt : MOK D_X3_monthAt 2 := ⟨tin 4 69 (by decide +kernel) rfl, by decide +kernel, by decide +kernel, by decide +kernel⟩
theorem pn_X3_monthAt : plainName yX3_monthAt.cls = true := by decide +kernel
set_option maxRecDepth 100000 in
theorem mok_X3_isMonthAt : MOK D_X3_isMonthAt 3 := ⟨tin 4 72 (by decide +kernel) rfl, by decide +kernel, by decide +kernel, by decide +kernel⟩
theorem pn_X3_isMonthAt : plainName yX3_isMonthAt.cls = true := by decide +kernel
set_option maxRecDepth 100000 in
theorem mok_X3_yearIn : MOK D_X3_yearIn 3 := ⟨tin 4 79 (by decide +kernel) rfl, by decide +kernel, by decide +kernel, by decide +kernel⟩
theorem pn_X3_yearIn : plainName yX3_yearIn.cls = true := by decide +kernel
set_option maxRecDepth 100000 in
theorem mok_X3_timeIn : MOK D_X3_timeIn 3 := ⟨tin 4 82 (by decide +kernel) rfl, by decide +kernel, by decide +kernel, by decide +kernel⟩
theorem pn_X3_timeIn : plainName yX3_timeIn.cls = true := by decide +kernel
set_option maxRecDepth 100000 in
theorem mok_X3_isBelow : MOK D_X3_isBelow 2 := ⟨tin 4 85 (by decide +kernel) rfl, by decide +kernel, by decide +kernel, by decide +kernel⟩
theorem pn_X3_isBelow : plainName yX3_isBelow.cls = true := by decide +kernel
set_option maxRecDepth 100000 in
theorem mok_X3_hoursAndMinutes : MOK D_X3_hoursAndMinutes 3 := ⟨tin 4 88 (by decide +kernel) rfl, by decide +kernel, by decide +kernel, by decide +kernel⟩
theorem pn_X3_hoursAndMinutes : plainName yX3_hoursAndMinutes.cls = true := by decide +kernel
set_option maxRecDepth 100000 in
theorem mok_X3_zoneIn : MOK D_X3_zoneIn 3 := ⟨tin 4 101 (by decide +kernel) rfl, by decide +kernel, by decide +kernel, by decide +kernel⟩
theorem pn_X3_zoneIn : plainName yX3_zoneIn.cls = true := by decide +kernel
set_option maxRecDepth 100000 in
theorem mok_X4_init : MOK D_X4_init 1 := ⟨tin 1 149 (by decide +kernel) rfl, by decide +kernel, by decide +kernel, by decide +kernel⟩
theorem pn_X4_init : plainName yX4_init.cls = true := by decide +kernel
set_option maxRecDepth 100000 in
theorem mok_X4_readLines : MOK D_X4_readLines 2 := ⟨tin 3 157 (by decide +kernel) rfl, by decide +kernel, by decide +kernel, by decide +kernel⟩
theorem pn_X4_readLines : plainName yX4_readLines.cls = true := by decide +kernel
set_option maxRecDepth 100000 in
theorem mok_J7_fill_53178 : MOK D_J7_fill_53178 2 := ⟨tin 3 160 (by decide +kernel) rfl, by decide +kernel, by decide +kernel, by decide +kernel⟩
theorem pn_J7_fill_53178 : plainName yJ7_fill_53178.cls = true := by decide +kernel
set_option maxRecDepth 100000 in
theorem mok_X4_colonOf : MOK D_X4_colonOf 2 := ⟨tin 3 175 (by decide +kernel) rfl, by decide +kernel, by decide +kernel, by decide +kernel⟩
theorem pn_X4_colonOf : plainName yX4_colonOf.cls = true := by decide +kernel
set_option maxRecDepth 100000 in
theorem mok_X9_isOfName : MOK D_X9_isOfName 1 := ⟨tin 3 179 (by decide +kernel) rfl, by decide +kernel, by decide +kernel, by decide +kernel⟩
theorem pn_X9_isOfName : plainName yX9_isOfName.cls = true := by decide +kernel
set_option maxRecDepth 100000 in
theorem mok_X4_nameOf : MOK D_X4_nameOf 2 := ⟨tin 3 189 (by decide +kernel) rfl, by decide +kernel, by decide +kernel, by decide +kernel⟩
theorem pn_X4_nameOf : plainName yX4_nameOf.cls = true := by decide +kernel
set_option maxRecDepth 100000 in
theorem mok_X4_nameText : MOK D_X4_nameText 1 := ⟨tin 3 192 (by decide +kernel) rfl, by decide +kernel, by decide +kernel, by decide +kernel⟩
theorem pn_X4_nameText : plainName yX4_nameText.cls = true := by decide +kernel
set_option maxRecDepth 100000 in
theorem mok_X4_startValue : MOK D_X4_startValue 2 := ⟨tin 4 19 (by decide +kernel) rfl, by decide +kernel, by decide +kernel, by decide +kernel⟩
theorem pn_X4_startValue : plainName yX4_startValue.cls = true := by decide +kernel
set_option maxRecDepth 100000 in
theorem mok_X4_stopValue : MOK D_X4_stopValue 2 := ⟨tin 4 26 (by decide +kernel) rfl, by decide +kernel, by decide +kernel, by decide +kernel⟩
theorem pn_X4_stopValue : plainName yX4_stopValue.cls = true := by decide +kernel
set_option maxRecDepth 100000 in
theorem mok_X4_writeValue : MOK D_X4_writeValue 2 := ⟨tin 4 34 (by decide +kernel) rfl, by decide +kernel, by decide +kernel, by decide +kernel⟩
theorem pn_X4_writeValue : plainName yX4_writeValue.cls = true := by decide +kernel
set_option maxRecDepth 100000 in
theorem mok_X5_init : MOK D_X5_init 1 := ⟨tin 1 227 (by decide +kernel) rfl, by decide +kernel, by decide +kernel, by decide +kernel⟩
theorem pn_X5_init : plainName yX5_init.cls = true := by decide +kernel
set_option maxRecDepth 100000 in
theorem mok_X5_restart : MOK D_X5_restart 0 := ⟨tin 6 10 (by decide +kernel) rfl, by decide +kernel, by decide +kernel, by decide +kernel⟩
theorem pn_X5_restart : plainName yX5_restart.cls = true := by decide +kernel
set_option maxRecDepth 100000 in
theorem mok_X5_next : MOK D_X5_next 0 := ⟨tin 6 23 (by decide +kernel) rfl, by decide +kernel, by decide +kernel, by decide +kernel⟩
theorem pn_X5_next : plainName yX5_next.cls = true := by decide +kernel
set_option maxRecDepth 100000 in
theorem mok_X5_readPhrase : MOK D_X5_readPhrase 1 := ⟨tin 6 30 (by decide +kernel) rfl, by decide +kernel, by decide +kernel, by decide +kernel⟩
theorem pn_X5_readPhrase : plainName yX5_readPhrase.cls = true := by decide +kernel
set_option maxRecDepth 100000 in
theorem mok_X5_readWord : MOK D_X5_readWord 0 := ⟨tin 6 35 (by decide +kernel) rfl, by decide +kernel, by decide +kernel, by decide +kernel⟩
theorem pn_X5_readWord : plainName yX5_readWord.cls = true := by decide +kernel
set_option maxRecDepth 100000 in
theorem mok_X5_wordStop : MOK D_X5_wordStop 0 := ⟨tin 6 39 (by decide +kernel) rfl, by decide +kernel, by decide +kernel, by decide +kernel⟩
theorem pn_X5_wordStop : plainName yX5_wordStop.cls = true := by decide +kernel
set_option maxRecDepth 100000 in
theorem mok_X5_isSign : MOK D_X5_isSign 1 := ⟨tin 6 42 (by decide +kernel) rfl, by decide +kernel, by decide +kernel, by decide +kernel⟩
theorem pn_X5_isSign : plainName yX5_isSign.cls = true := by decide +kernel
set_option maxRecDepth 100000 in
theorem mok_X5_readField : MOK D_X5_readField 0 := ⟨tin 6 51 (by decide +kernel) rfl, by decide +kernel, by decide +kernel, by decide +kernel⟩
theorem pn_X5_readField : plainName yX5_readField.cls = true := by decide +kernel
set_option maxRecDepth 100000 in
theorem mok_X5_fieldText : MOK D_X5_fieldText 1 := ⟨tin 6 54 (by decide +kernel) rfl, by decide +kernel, by decide +kernel, by decide +kernel⟩
theorem pn_X5_fieldText : plainName yX5_fieldText.cls = true := by decide +kernel
set_option maxRecDepth 100000 in
theorem mok_X5_readDays : MOK D_X5_readDays 0 := ⟨tin 6 69 (by decide +kernel) rfl, by decide +kernel, by decide +kernel, by decide +kernel⟩
theorem pn_X5_readDays : plainName yX5_readDays.cls = true := by decide +kernel
set_option maxRecDepth 100000 in
theorem mok_X6_init : MOK D_X6_init 6 := ⟨tin 5 47 (by decide +kernel) rfl, by decide +kernel, by decide +kernel, by decide +kernel⟩
theorem pn_X6_init : plainName yX6_init.cls = true := by decide +kernel
set_option maxRecDepth 100000 in
theorem mok_X6_wordsIn : MOK D_X6_wordsIn 1 := ⟨tin 3 27 (by decide +kernel) rfl, by decide +kernel, by decide +kernel, by decide +kernel⟩
theorem pn_X6_wordsIn : plainName yX6_wordsIn.cls = true := by decide +kernel
set_option maxRecDepth 100000 in
theorem mok_X6_wordAt : MOK D_X6_wordAt 2 := ⟨tin 3 39 (by decide +kernel) rfl, by decide +kernel, by decide +kernel, by decide +kernel⟩
theorem pn_X6_wordAt : plainName yX6_wordAt.cls = true := by decide +kernel
set_option maxRecDepth 100000 in
theorem mok_X6_referenceAt : MOK D_X6_referenceAt 1 := ⟨tin 3 53 (by decide +kernel) rfl, by decide +kernel, by decide +kernel, by decide +kernel⟩
theorem pn_X6_referenceAt : plainName yX6_referenceAt.cls = true := by decide +kernel
set_option maxRecDepth 100000 in
theorem mok_X6_tagAt : MOK D_X6_tagAt 1 := ⟨tin 3 49 (by decide +kernel) rfl, by decide +kernel, by decide +kernel, by decide +kernel⟩
theorem pn_X6_tagAt : plainName yX6_tagAt.cls = true := by decide +kernel
set_option maxRecDepth 100000 in
theorem mok_X6_hasTag : MOK D_X6_hasTag 1 := ⟨tin 5 214 (by decide +kernel) rfl, by decide +kernel, by decide +kernel, by decide +kernel⟩
theorem pn_X6_hasTag : plainName yX6_hasTag.cls = true := by decide +kernel
set_option maxRecDepth 100000 in
theorem mok_X6_tagPlace : MOK D_X6_tagPlace 1 := ⟨tin 5 218 (by decide +kernel) rfl, by decide +kernel, by decide +kernel, by decide +kernel⟩
theorem pn_X6_tagPlace : plainName yX6_tagPlace.cls = true := by decide +kernel
set_option maxRecDepth 100000 in
theorem mok_X6_putTag : MOK D_X6_putTag 2 := ⟨tin 5 228 (by decide +kernel) rfl, by decide +kernel, by decide +kernel, by decide +kernel⟩
theorem pn_X6_putTag : plainName yX6_putTag.cls = true := by decide +kernel
set_option maxRecDepth 100000 in
theorem mok_X6_dropTag : MOK D_X6_dropTag 1 := ⟨tin 5 222 (by decide +kernel) rfl, by decide +kernel, by decide +kernel, by decide +kernel⟩
theorem pn_X6_dropTag : plainName yX6_dropTag.cls = true := by decide +kernel
set_option maxRecDepth 100000 in
theorem mok_X7_init : MOK D_X7_init 3 := ⟨tin 1 141 (by decide +kernel) rfl, by decide +kernel, by decide +kernel, by decide +kernel⟩
theorem pn_X7_init : plainName yX7_init.cls = true := by decide +kernel
set_option maxRecDepth 100000 in
theorem mok_X7_read : MOK D_X7_read 1 := ⟨tin 3 152 (by decide +kernel) rfl, by decide +kernel, by decide +kernel, by decide +kernel⟩
theorem pn_X7_read : plainName yX7_read.cls = true := by decide +kernel
set_option maxRecDepth 100000 in
theorem mok_X7_readDate : MOK D_X7_readDate 0 := ⟨tin 4 30 (by decide +kernel) rfl, by decide +kernel, by decide +kernel, by decide +kernel⟩
theorem pn_X7_readDate : plainName yX7_readDate.cls = true := by decide +kernel
set_option maxRecDepth 100000 in
theorem mok_X7_readId : MOK D_X7_readId 0 := ⟨tin 4 105 (by decide +kernel) rfl, by decide +kernel, by decide +kernel, by decide +kernel⟩
theorem pn_X7_readId : plainName yX7_readId.cls = true := by decide +kernel
set_option maxRecDepth 100000 in
theorem mok_X7_isId : MOK D_X7_isId 2 := ⟨tin 4 113 (by decide +kernel) rfl, by decide +kernel, by decide +kernel, by decide +kernel⟩
theorem pn_X7_isId : plainName yX7_isId.cls = true := by decide +kernel
set_option maxRecDepth 100000 in
theorem mok_X7_readReferences : MOK D_X7_readReferences 0 := ⟨tin 4 161 (by decide +kernel) rfl, by decide +kernel, by decide +kernel, by decide +kernel⟩
theorem pn_X7_readReferences : plainName yX7_readReferences.cls = true := by decide +kernel
set_option maxRecDepth 100000 in
theorem mok_X7_takeReferences : MOK D_X7_takeReferences 1 := ⟨tin 4 165 (by decide +kernel) rfl, by decide +kernel, by decide +kernel, by decide +kernel⟩
theorem pn_X7_takeReferences : plainName yX7_takeReferences.cls = true := by decide +kernel
set_option maxRecDepth 100000 in
theorem mok_X7_firstOf : MOK D_X7_firstOf 2 := ⟨tin 4 168 (by decide +kernel) rfl, by decide +kernel, by decide +kernel, by decide +kernel⟩
theorem pn_X7_firstOf : plainName yX7_firstOf.cls = true := by decide +kernel
set_option maxRecDepth 100000 in
theorem mok_X7_takeWords : MOK D_X7_takeWords 1 := ⟨tin 4 209 (by decide +kernel) rfl, by decide +kernel, by decide +kernel, by decide +kernel⟩
theorem pn_X7_takeWords : plainName yX7_takeWords.cls = true := by decide +kernel
set_option maxRecDepth 100000 in
theorem mok_X7_writeText : MOK D_X7_writeText 0 := ⟨tin 4 221 (by decide +kernel) rfl, by decide +kernel, by decide +kernel, by decide +kernel⟩
theorem pn_X7_writeText : plainName yX7_writeText.cls = true := by decide +kernel
set_option maxRecDepth 100000 in
theorem mok_X7_putPart : MOK D_X7_putPart 3 := ⟨tin 4 225 (by decide +kernel) rfl, by decide +kernel, by decide +kernel, by decide +kernel⟩
theorem pn_X7_putPart : plainName yX7_putPart.cls = true := by decide +kernel
set_option maxRecDepth 100000 in
theorem mok_X7_writePart : MOK D_X7_writePart 1 := ⟨tin 4 230 (by decide +kernel) rfl, by decide +kernel, by decide +kernel, by decide +kernel⟩
theorem pn_X7_writePart : plainName yX7_writePart.cls = true := by decide +kernel
set_option maxRecDepth 100000 in
theorem mok_X7_writePlain : MOK D_X7_writePlain 0 := ⟨tin 5 4 (by decide +kernel) rfl, by decide +kernel, by decide +kernel, by decide +kernel⟩
theorem pn_X7_writePlain : plainName yX7_writePlain.cls = true := by decide +kernel
set_option maxRecDepth 100000 in
theorem mok_X7_readBoundary : MOK D_X7_readBoundary 1 := ⟨tin 5 20 (by decide +kernel) rfl, by decide +kernel, by decide +kernel, by decide +kernel⟩
theorem pn_X7_readBoundary : plainName yX7_readBoundary.cls = true := by decide +kernel
set_option maxRecDepth 100000 in
theorem mok_X7_takeBoundary : MOK D_X7_takeBoundary 2 := ⟨tin 5 26 (by decide +kernel) rfl, by decide +kernel, by decide +kernel, by decide +kernel⟩
theorem pn_X7_takeBoundary : plainName yX7_takeBoundary.cls = true := by decide +kernel
set_option maxRecDepth 100000 in
theorem mok_X7_putParts : MOK D_X7_putParts 1 := ⟨tin 5 30 (by decide +kernel) rfl, by decide +kernel, by decide +kernel, by decide +kernel⟩
theorem pn_X7_putParts : plainName yX7_putParts.cls = true := by decide +kernel
set_option maxRecDepth 100000 in
theorem mok_X7_behindBoundary : MOK D_X7_behindBoundary 1 := ⟨tin 5 35 (by decide +kernel) rfl, by decide +kernel, by decide +kernel, by decide +kernel⟩
theorem pn_X7_behindBoundary : plainName yX7_behindBoundary.cls = true := by decide +kernel
set_option maxRecDepth 100000 in
theorem mok_X7_turnParts : MOK D_X7_turnParts 1 := ⟨tin 5 41 (by decide +kernel) rfl, by decide +kernel, by decide +kernel, by decide +kernel⟩
theorem pn_X7_turnParts : plainName yX7_turnParts.cls = true := by decide +kernel
set_option maxRecDepth 100000 in
theorem mok_X8_init : MOK D_X8_init 6 := ⟨tin 1 219 (by decide +kernel) rfl, by decide +kernel, by decide +kernel, by decide +kernel⟩
theorem pn_X8_init : plainName yX8_init.cls = true := by decide +kernel
set_option maxRecDepth 100000 in
theorem mok_X8_matches : MOK D_X8_matches 0 := ⟨tin 6 5 (by decide +kernel) rfl, by decide +kernel, by decide +kernel, by decide +kernel⟩
theorem pn_X8_matches : plainName yX8_matches.cls = true := by decide +kernel
set_option maxRecDepth 100000 in
theorem mok_Jx4a65c_size_8abf5 : MOK D_Jx4a65c_size_8abf5 0 := ⟨tin 2 190 (by decide +kernel) rfl, by decide +kernel, by decide +kernel, by decide +kernel⟩
theorem pn_Jx4a65c_size_8abf5 : plainName yJx4a65c_size_8abf5.cls = true := by decide +kernel
set_option maxRecDepth 100000 in
theorem mok_X8_startLevel : MOK D_X8_startLevel 1 := ⟨tin 6 14 (by decide +kernel) rfl, by decide +kernel, by decide +kernel, by decide +kernel⟩
theorem pn_X8_startLevel : plainName yX8_startLevel.cls = true := by decide +kernel
set_option maxRecDepth 100000 in
theorem mok_X8_isLevel : MOK D_X8_isLevel 0 := ⟨tin 6 18 (by decide +kernel) rfl, by decide +kernel, by decide +kernel, by decide +kernel⟩
theorem pn_X8_isLevel : plainName yX8_isLevel.cls = true := by decide +kernel
set_option maxRecDepth 100000 in
theorem mok_X8_canStand : MOK D_X8_canStand 3 := ⟨tin 6 80 (by decide +kernel) rfl, by decide +kernel, by decide +kernel, by decide +kernel⟩
theorem pn_X8_canStand : plainName yX8_canStand.cls = true := by decide +kernel
set_option maxRecDepth 100000 in
theorem mok_X8_termSet : MOK D_X8_termSet 0 := ⟨tin 6 84 (by decide +kernel) rfl, by decide +kernel, by decide +kernel, by decide +kernel⟩
theorem pn_X8_termSet : plainName yX8_termSet.cls = true := by decide +kernel
set_option maxRecDepth 100000 in
theorem mok_X10_freshen : MOK D_X10_freshen 0 := ⟨tin 2 182 (by decide +kernel) rfl, by decide +kernel, by decide +kernel, by decide +kernel⟩
theorem pn_X10_freshen : plainName yX10_freshen.cls = true := by decide +kernel
set_option maxRecDepth 100000 in
theorem mok_Jx4a65c_get_915e3 : MOK D_Jx4a65c_get_915e3 1 := ⟨tin 2 194 (by decide +kernel) rfl, by decide +kernel, by decide +kernel, by decide +kernel⟩
theorem pn_Jx4a65c_get_915e3 : plainName yJx4a65c_get_915e3.cls = true := by decide +kernel
set_option maxRecDepth 100000 in
theorem mok_J15_checkIndex_7cf53 : MOK D_J15_checkIndex_7cf53 2 := ⟨tin 2 197 (by decide +kernel) rfl, by decide +kernel, by decide +kernel, by decide +kernel⟩
theorem pn_J15_checkIndex_7cf53 : plainName yJ15_checkIndex_7cf53.cls = true := by decide +kernel
set_option maxRecDepth 100000 in
theorem mok_Jx4a65c_elementData_915e3 : MOK D_Jx4a65c_elementData_915e3 1 := ⟨tin 2 204 (by decide +kernel) rfl, by decide +kernel, by decide +kernel, by decide +kernel⟩
theorem pn_Jx4a65c_elementData_915e3 : plainName yJx4a65c_elementData_915e3.cls = true := by decide +kernel
set_option maxRecDepth 100000 in
theorem mok_X10_nodeOf : MOK D_X10_nodeOf 2 := ⟨tin 2 209 (by decide +kernel) rfl, by decide +kernel, by decide +kernel, by decide +kernel⟩
theorem pn_X10_nodeOf : plainName yX10_nodeOf.cls = true := by decide +kernel
set_option maxRecDepth 100000 in
theorem mok_X10_isNode : MOK D_X10_isNode 1 := ⟨tin 2 212 (by decide +kernel) rfl, by decide +kernel, by decide +kernel, by decide +kernel⟩
theorem pn_X10_isNode : plainName yX10_isNode.cls = true := by decide +kernel
set_option maxRecDepth 100000 in
theorem mok_X10_hangMessage : MOK D_X10_hangMessage 2 := ⟨tin 2 216 (by decide +kernel) rfl, by decide +kernel, by decide +kernel, by decide +kernel⟩
theorem pn_X10_hangMessage : plainName yX10_hangMessage.cls = true := by decide +kernel
set_option maxRecDepth 100000 in
theorem mok_X10_aboveOf : MOK D_X10_aboveOf 1 := ⟨tin 2 220 (by decide +kernel) rfl, by decide +kernel, by decide +kernel, by decide +kernel⟩
theorem pn_X10_aboveOf : plainName yX10_aboveOf.cls = true := by decide +kernel
set_option maxRecDepth 100000 in
theorem mok_X10_hang : MOK D_X10_hang 2 := ⟨tin 2 224 (by decide +kernel) rfl, by decide +kernel, by decide +kernel, by decide +kernel⟩
theorem pn_X10_hang : plainName yX10_hang.cls = true := by decide +kernel
set_option maxRecDepth 100000 in
theorem mok_X10_rootOf : MOK D_X10_rootOf 1 := ⟨tin 2 228 (by decide +kernel) rfl, by decide +kernel, by decide +kernel, by decide +kernel⟩
theorem pn_X10_rootOf : plainName yX10_rootOf.cls = true := by decide +kernel
set_option maxRecDepth 100000 in
theorem mok_X8_readPhrase : MOK D_X8_readPhrase 0 := ⟨tin 6 91 (by decide +kernel) rfl, by decide +kernel, by decide +kernel, by decide +kernel⟩
theorem pn_X8_readPhrase : plainName yX8_readPhrase.cls = true := by decide +kernel
set_option maxRecDepth 100000 in
theorem mok_X8_isMatch : MOK D_X8_isMatch 3 := ⟨tin 6 100 (by decide +kernel) rfl, by decide +kernel, by decide +kernel, by decide +kernel⟩
theorem pn_X8_isMatch : plainName yX8_isMatch.cls = true := by decide +kernel
set_option maxRecDepth 100000 in
theorem mok_X10_threadOf : MOK D_X10_threadOf 1 := ⟨tin 2 239 (by decide +kernel) rfl, by decide +kernel, by decide +kernel, by decide +kernel⟩
theorem pn_X10_threadOf : plainName yX10_threadOf.cls = true := by decide +kernel
set_option maxRecDepth 100000 in
theorem mok_X10_nodeAt : MOK D_X10_nodeAt 1 := ⟨tin 3 3 (by decide +kernel) rfl, by decide +kernel, by decide +kernel, by decide +kernel⟩
theorem pn_X10_nodeAt : plainName yX10_nodeAt.cls = true := by decide +kernel
set_option maxRecDepth 100000 in
theorem mok_X8_isInDays : MOK D_X8_isInDays 1 := ⟨tin 6 106 (by decide +kernel) rfl, by decide +kernel, by decide +kernel, by decide +kernel⟩
theorem pn_X8_isInDays : plainName yX8_isInDays.cls = true := by decide +kernel
set_option maxRecDepth 100000 in
theorem mok_J9_floorDiv_7cf53 : MOK D_J9_floorDiv_7cf53 2 := ⟨tin 6 109 (by decide +kernel) rfl, by decide +kernel, by decide +kernel, by decide +kernel⟩
set_option maxRecDepth 100000 in
theorem mok_X8_hasPhrase : MOK D_X8_hasPhrase 2 := ⟨tin 6 113 (by decide +kernel) rfl, by decide +kernel, by decide +kernel, by decide +kernel⟩
theorem pn_X8_hasPhrase : plainName yX8_hasPhrase.cls = true := by decide +kernel
set_option maxRecDepth 100000 in
theorem mok_X8_standsAt : MOK D_X8_standsAt 3 := ⟨tin 6 118 (by decide +kernel) rfl, by decide +kernel, by decide +kernel, by decide +kernel⟩
theorem pn_X8_standsAt : plainName yX8_standsAt.cls = true := by decide +kernel
set_option maxRecDepth 100000 in
theorem mok_X8_join : MOK D_X8_join 1 := ⟨tin 6 124 (by decide +kernel) rfl, by decide +kernel, by decide +kernel, by decide +kernel⟩
theorem pn_X8_join : plainName yX8_join.cls = true := by decide +kernel
set_option maxRecDepth 100000 in
theorem mok_X8_take : MOK D_X8_take 1 := ⟨tin 6 129 (by decide +kernel) rfl, by decide +kernel, by decide +kernel, by decide +kernel⟩
theorem pn_X8_take : plainName yX8_take.cls = true := by decide +kernel
set_option maxRecDepth 100000 in
theorem mok_X8_levelSet : MOK D_X8_levelSet 0 := ⟨tin 6 133 (by decide +kernel) rfl, by decide +kernel, by decide +kernel, by decide +kernel⟩
theorem pn_X8_levelSet : plainName yX8_levelSet.cls = true := by decide +kernel
set_option maxRecDepth 100000 in
theorem mok_X8_startNextAll : MOK D_X8_startNextAll 0 := ⟨tin 6 137 (by decide +kernel) rfl, by decide +kernel, by decide +kernel, by decide +kernel⟩
theorem pn_X8_startNextAll : plainName yX8_startNextAll.cls = true := by decide +kernel
set_option maxRecDepth 100000 in
theorem mok_X8_turn : MOK D_X8_turn 0 := ⟨tin 6 141 (by decide +kernel) rfl, by decide +kernel, by decide +kernel, by decide +kernel⟩
theorem pn_X8_turn : plainName yX8_turn.cls = true := by decide +kernel
set_option maxRecDepth 100000 in
theorem mok_X10_init : MOK D_X10_init 2 := ⟨tin 1 113 (by decide +kernel) rfl, by decide +kernel, by decide +kernel, by decide +kernel⟩
theorem pn_X10_init : plainName yX10_init.cls = true := by decide +kernel
set_option maxRecDepth 100000 in
theorem mok_X10_spoil : MOK D_X10_spoil 0 := ⟨tin 5 143 (by decide +kernel) rfl, by decide +kernel, by decide +kernel, by decide +kernel⟩
theorem pn_X10_spoil : plainName yX10_spoil.cls = true := by decide +kernel
set_option maxRecDepth 100000 in
theorem mok_X10_parentOf : MOK D_X10_parentOf 1 := ⟨tin 3 19 (by decide +kernel) rfl, by decide +kernel, by decide +kernel, by decide +kernel⟩
theorem pn_X10_parentOf : plainName yX10_parentOf.cls = true := by decide +kernel
set_option maxRecDepth 100000 in
theorem mok_X10_depthOf : MOK D_X10_depthOf 1 := ⟨tin 3 23 (by decide +kernel) rfl, by decide +kernel, by decide +kernel, by decide +kernel⟩
theorem pn_X10_depthOf : plainName yX10_depthOf.cls = true := by decide +kernel
set_option maxRecDepth 100000 in
theorem mok_X11_init : MOK D_X11_init 0 := ⟨tin 1 36 (by decide +kernel) rfl, by decide +kernel, by decide +kernel, by decide +kernel⟩
theorem pn_X11_init : plainName yX11_init.cls = true := by decide +kernel
set_option maxRecDepth 100000 in
theorem mok_Jx4a65c_init_da8c8 : MOK D_Jx4a65c_init_da8c8 0 := ⟨tin 1 87 (by decide +kernel) rfl, by decide +kernel, by decide +kernel, by decide +kernel⟩
theorem pn_Jx4a65c_init_da8c8 : plainName yJx4a65c_init_da8c8.cls = true := by decide +kernel
set_option maxRecDepth 100000 in
theorem mok_Jxc12de_init_da8c8 : MOK D_Jxc12de_init_da8c8 0 := ⟨tin 1 90 (by decide +kernel) rfl, by decide +kernel, by decide +kernel, by decide +kernel⟩
theorem pn_Jxc12de_init_da8c8 : plainName yJxc12de_init_da8c8.cls = true := by decide +kernel
set_option maxRecDepth 100000 in
theorem mok_Jxa1e45_init_da8c8 : MOK D_Jxa1e45_init_da8c8 0 := ⟨tin 1 93 (by decide +kernel) rfl, by decide +kernel, by decide +kernel, by decide +kernel⟩
theorem pn_Jxa1e45_init_da8c8 : plainName yJxa1e45_init_da8c8.cls = true := by decide +kernel
set_option maxRecDepth 100000 in
theorem mok_X11_makeReady : MOK D_X11_makeReady 5 := ⟨tin 2 82 (by decide +kernel) rfl, by decide +kernel, by decide +kernel, by decide +kernel⟩
theorem pn_X11_makeReady : plainName yX11_makeReady.cls = true := by decide +kernel
set_option maxRecDepth 100000 in
theorem mok_X11_feed : MOK D_X11_feed 5 := ⟨tin 2 150 (by decide +kernel) rfl, by decide +kernel, by decide +kernel, by decide +kernel⟩
theorem pn_X11_feed : plainName yX11_feed.cls = true := by decide +kernel
set_option maxRecDepth 100000 in
theorem mok_X11_end : MOK D_X11_end 1 := ⟨tin 2 154 (by decide +kernel) rfl, by decide +kernel, by decide +kernel, by decide +kernel⟩
theorem pn_X11_end : plainName yX11_end.cls = true := by decide +kernel
set_option maxRecDepth 100000 in
theorem mok_X11_add : MOK D_X11_add 0 := ⟨tin 3 81 (by decide +kernel) rfl, by decide +kernel, by decide +kernel, by decide +kernel⟩
theorem pn_X11_add : plainName yX11_add.cls = true := by decide +kernel
set_option maxRecDepth 100000 in
theorem mok_Jx4a65c_add_9ea2d : MOK D_Jx4a65c_add_9ea2d 1 := ⟨tin 5 88 (by decide +kernel) rfl, by decide +kernel, by decide +kernel, by decide +kernel⟩
theorem pn_Jx4a65c_add_9ea2d : plainName yJx4a65c_add_9ea2d.cls = true := by decide +kernel
set_option maxRecDepth 100000 in
theorem mok_Jx4a65c_add_72be8 : MOK D_Jx4a65c_add_72be8 3 := ⟨tin 5 92 (by decide +kernel) rfl, by decide +kernel, by decide +kernel, by decide +kernel⟩
theorem pn_Jx4a65c_add_72be8 : plainName yJx4a65c_add_72be8.cls = true := by decide +kernel
set_option maxRecDepth 100000 in
theorem mok_Jx4a65c_grow_d5877 : MOK D_Jx4a65c_grow_d5877 0 := ⟨tin 5 96 (by decide +kernel) rfl, by decide +kernel, by decide +kernel, by decide +kernel⟩
theorem pn_Jx4a65c_grow_d5877 : plainName yJx4a65c_grow_d5877.cls = true := by decide +kernel
set_option maxRecDepth 100000 in
theorem mok_Jx4a65c_grow_92f84 : MOK D_Jx4a65c_grow_92f84 1 := ⟨tin 5 100 (by decide +kernel) rfl, by decide +kernel, by decide +kernel, by decide +kernel⟩
theorem pn_Jx4a65c_grow_92f84 : plainName yJx4a65c_grow_92f84.cls = true := by decide +kernel
set_option maxRecDepth 100000 in
theorem mok_J8_newLength_cabcc : MOK D_J8_newLength_cabcc 3 := ⟨tin 5 103 (by decide +kernel) rfl, by decide +kernel, by decide +kernel, by decide +kernel⟩
theorem pn_J8_newLength_cabcc : plainName yJ8_newLength_cabcc.cls = true := by decide +kernel
set_option maxRecDepth 100000 in
theorem mok_J9_max_7cf53 : MOK D_J9_max_7cf53 2 := ⟨tin 5 106 (by decide +kernel) rfl, by decide +kernel, by decide +kernel, by decide +kernel⟩
set_option maxRecDepth 100000 in
theorem mok_J7_copyOf_1904c : MOK D_J7_copyOf_1904c 2 := ⟨tin 5 113 (by decide +kernel) rfl, by decide +kernel, by decide +kernel, by decide +kernel⟩
theorem pn_J7_copyOf_1904c : plainName yJ7_copyOf_1904c.cls = true := by decide +kernel
set_option maxRecDepth 100000 in
theorem mok_J7_copyOf_6403c : MOK D_J7_copyOf_6403c 3 := ⟨tin 5 134 (by decide +kernel) rfl, by decide +kernel, by decide +kernel, by decide +kernel⟩
theorem pn_J7_copyOf_6403c : plainName yJ7_copyOf_6403c.cls = true := by decide +kernel
set_option maxRecDepth 100000 in
theorem mok_X11_remove : MOK D_X11_remove 1 := ⟨tin 5 151 (by decide +kernel) rfl, by decide +kernel, by decide +kernel, by decide +kernel⟩
theorem pn_X11_remove : plainName yX11_remove.cls = true := by decide +kernel
set_option maxRecDepth 100000 in
theorem mok_X11_placeOf : MOK D_X11_placeOf 1 := ⟨tin 2 232 (by decide +kernel) rfl, by decide +kernel, by decide +kernel, by decide +kernel⟩
theorem pn_X11_placeOf : plainName yX11_placeOf.cls = true := by decide +kernel
set_option maxRecDepth 100000 in
theorem mok_Jx4a65c_remove_915e3 : MOK D_Jx4a65c_remove_915e3 1 := ⟨tin 5 171 (by decide +kernel) rfl, by decide +kernel, by decide +kernel, by decide +kernel⟩
theorem pn_Jx4a65c_remove_915e3 : plainName yJx4a65c_remove_915e3.cls = true := by decide +kernel
set_option maxRecDepth 100000 in
theorem mok_Jx4a65c_fastRemove_b59b0 : MOK D_Jx4a65c_fastRemove_b59b0 2 := ⟨tin 5 175 (by decide +kernel) rfl, by decide +kernel, by decide +kernel, by decide +kernel⟩
theorem pn_Jx4a65c_fastRemove_b59b0 : plainName yJx4a65c_fastRemove_b59b0.cls = true := by decide +kernel
set_option maxRecDepth 100000 in
theorem mok_X11_tag : MOK D_X11_tag 2 := ⟨tin 5 184 (by decide +kernel) rfl, by decide +kernel, by decide +kernel, by decide +kernel⟩
theorem pn_X11_tag : plainName yX11_tag.cls = true := by decide +kernel
set_option maxRecDepth 100000 in
theorem mok_X11_takeTape : MOK D_X11_takeTape 0 := ⟨tin 5 188 (by decide +kernel) rfl, by decide +kernel, by decide +kernel, by decide +kernel⟩
theorem pn_X11_takeTape : plainName yX11_takeTape.cls = true := by decide +kernel
set_option maxRecDepth 100000 in
theorem mok_X11_isTag : MOK D_X11_isTag 1 := ⟨tin 5 191 (by decide +kernel) rfl, by decide +kernel, by decide +kernel, by decide +kernel⟩
theorem pn_X11_isTag : plainName yX11_isTag.cls = true := by decide +kernel
set_option maxRecDepth 100000 in
theorem mok_X11_search : MOK D_X11_search 0 := ⟨tin 6 1 (by decide +kernel) rfl, by decide +kernel, by decide +kernel, by decide +kernel⟩
theorem pn_X11_search : plainName yX11_search.cls = true := by decide +kernel
set_option maxRecDepth 100000 in
theorem mok_X11_keepFound : MOK D_X11_keepFound 1 := ⟨tin 6 146 (by decide +kernel) rfl, by decide +kernel, by decide +kernel, by decide +kernel⟩
theorem pn_X11_keepFound : plainName yX11_keepFound.cls = true := by decide +kernel
set_option maxRecDepth 100000 in
theorem mok_X11_insertFound : MOK D_X11_insertFound 1 := ⟨tin 6 150 (by decide +kernel) rfl, by decide +kernel, by decide +kernel, by decide +kernel⟩
theorem pn_X11_insertFound : plainName yX11_insertFound.cls = true := by decide +kernel
set_option maxRecDepth 100000 in
theorem mok_X11_fault : MOK D_X11_fault 0 := ⟨tin 2 170 (by decide +kernel) rfl, by decide +kernel, by decide +kernel, by decide +kernel⟩
theorem pn_X11_fault : plainName yX11_fault.cls = true := by decide +kernel
set_option maxRecDepth 100000 in
theorem mok_X11_found : MOK D_X11_found 1 := ⟨tin 2 174 (by decide +kernel) rfl, by decide +kernel, by decide +kernel, by decide +kernel⟩
theorem pn_X11_found : plainName yX11_found.cls = true := by decide +kernel
set_option maxRecDepth 100000 in
theorem mok_X11_conversations : MOK D_X11_conversations 0 := ⟨tin 2 178 (by decide +kernel) rfl, by decide +kernel, by decide +kernel, by decide +kernel⟩
theorem pn_X11_conversations : plainName yX11_conversations.cls = true := by decide +kernel
set_option maxRecDepth 100000 in
theorem mok_X11_tellThread : MOK D_X11_tellThread 1 := ⟨tin 3 7 (by decide +kernel) rfl, by decide +kernel, by decide +kernel, by decide +kernel⟩
theorem pn_X11_tellThread : plainName yX11_tellThread.cls = true := by decide +kernel
set_option maxRecDepth 100000 in
theorem mok_X11_thread : MOK D_X11_thread 1 := ⟨tin 3 11 (by decide +kernel) rfl, by decide +kernel, by decide +kernel, by decide +kernel⟩
theorem pn_X11_thread : plainName yX11_thread.cls = true := by decide +kernel
set_option maxRecDepth 100000 in
theorem mok_X11_about : MOK D_X11_about 2 := ⟨tin 3 15 (by decide +kernel) rfl, by decide +kernel, by decide +kernel, by decide +kernel⟩
theorem pn_X11_about : plainName yX11_about.cls = true := by decide +kernel
set_option maxRecDepth 100000 in
theorem mok_X11_at : MOK D_X11_at 4 := ⟨tin 3 35 (by decide +kernel) rfl, by decide +kernel, by decide +kernel, by decide +kernel⟩
theorem pn_X11_at : plainName yX11_at.cls = true := by decide +kernel
set_option maxRecDepth 100000 in
theorem mok_X11_count : MOK D_X11_count 1 := ⟨tin 3 57 (by decide +kernel) rfl, by decide +kernel, by decide +kernel, by decide +kernel⟩
theorem pn_X11_count : plainName yX11_count.cls = true := by decide +kernel
set_option maxRecDepth 100000 in
theorem mok_X11_differentWords : MOK D_X11_differentWords 0 := ⟨tin 3 61 (by decide +kernel) rfl, by decide +kernel, by decide +kernel, by decide +kernel⟩
theorem pn_X11_differentWords : plainName yX11_differentWords.cls = true := by decide +kernel
set_option maxRecDepth 100000 in
theorem mok_X11_differentTags : MOK D_X11_differentTags 0 := ⟨tin 3 73 (by decide +kernel) rfl, by decide +kernel, by decide +kernel, by decide +kernel⟩
theorem pn_X11_differentTags : plainName yX11_differentTags.cls = true := by decide +kernel
set_option maxRecDepth 100000 in
theorem mok_X12_init : MOK D_X12_init 0 := ⟨tin 6 155 (by decide +kernel) rfl, by decide +kernel, by decide +kernel, by decide +kernel⟩
theorem pn_X12_init : plainName yX12_init.cls = true := by decide +kernel
set_option maxRecDepth 100000 in
theorem mok_X12_thrown : MOK D_X12_thrown 0 := ⟨tin 7 135 (by decide +kernel) rfl, by decide +kernel, by decide +kernel, by decide +kernel⟩
theorem pn_X12_thrown : plainName yX12_thrown.cls = true := by decide +kernel
set_option maxRecDepth 100000 in
theorem mok_X12_isBlank : MOK D_X12_isBlank 1 := ⟨tin 7 189 (by decide +kernel) rfl, by decide +kernel, by decide +kernel, by decide +kernel⟩
theorem pn_X12_isBlank : plainName yX12_isBlank.cls = true := by decide +kernel
set_option maxRecDepth 100000 in
theorem mok_X12_isDigit : MOK D_X12_isDigit 1 := ⟨tin 7 170 (by decide +kernel) rfl, by decide +kernel, by decide +kernel, by decide +kernel⟩
theorem pn_X12_isDigit : plainName yX12_isDigit.cls = true := by decide +kernel
set_option maxRecDepth 100000 in
theorem mok_X12_small : MOK D_X12_small 1 := ⟨tin 8 63 (by decide +kernel) rfl, by decide +kernel, by decide +kernel, by decide +kernel⟩
theorem pn_X12_small : plainName yX12_small.cls = true := by decide +kernel
set_option maxRecDepth 100000 in
theorem mok_X12_isLetter : MOK D_X12_isLetter 1 := ⟨tin 8 60 (by decide +kernel) rfl, by decide +kernel, by decide +kernel, by decide +kernel⟩
theorem pn_X12_isLetter : plainName yX12_isLetter.cls = true := by decide +kernel
set_option maxRecDepth 100000 in
theorem mok_X12_hexadecimal : MOK D_X12_hexadecimal 1 := ⟨tin 8 104 (by decide +kernel) rfl, by decide +kernel, by decide +kernel, by decide +kernel⟩
theorem pn_X12_hexadecimal : plainName yX12_hexadecimal.cls = true := by decide +kernel
set_option maxRecDepth 100000 in
theorem mok_X12_sixtyFour : MOK D_X12_sixtyFour 1 := ⟨tin 8 97 (by decide +kernel) rfl, by decide +kernel, by decide +kernel, by decide +kernel⟩
theorem pn_X12_sixtyFour : plainName yX12_sixtyFour.cls = true := by decide +kernel
set_option maxRecDepth 100000 in
theorem mok_X12_put : MOK D_X12_put 1 := ⟨tin 8 90 (by decide +kernel) rfl, by decide +kernel, by decide +kernel, by decide +kernel⟩
theorem pn_X12_put : plainName yX12_put.cls = true := by decide +kernel
set_option maxRecDepth 100000 in
theorem mok_X12_same : MOK D_X12_same 6 := ⟨tin 8 70 (by decide +kernel) rfl, by decide +kernel, by decide +kernel, by decide +kernel⟩
theorem pn_X12_same : plainName yX12_same.cls = true := by decide +kernel
set_option maxRecDepth 100000 in
theorem mok_X12_lineEnd : MOK D_X12_lineEnd 3 := ⟨tin 8 47 (by decide +kernel) rfl, by decide +kernel, by decide +kernel, by decide +kernel⟩
theorem pn_X12_lineEnd : plainName yX12_lineEnd.cls = true := by decide +kernel
set_option maxRecDepth 100000 in
theorem mok_X12_textEnd : MOK D_X12_textEnd 4 := ⟨tin 8 50 (by decide +kernel) rfl, by decide +kernel, by decide +kernel, by decide +kernel⟩
theorem pn_X12_textEnd : plainName yX12_textEnd.cls = true := by decide +kernel
set_option maxRecDepth 100000 in
theorem mok_X12_nameEnd : MOK D_X12_nameEnd 3 := ⟨tin 8 57 (by decide +kernel) rfl, by decide +kernel, by decide +kernel, by decide +kernel⟩
theorem pn_X12_nameEnd : plainName yX12_nameEnd.cls = true := by decide +kernel
set_option maxRecDepth 100000 in
theorem mok_X12_addValue : MOK D_X12_addValue 3 := ⟨tin 8 54 (by decide +kernel) rfl, by decide +kernel, by decide +kernel, by decide +kernel⟩
theorem pn_X12_addValue : plainName yX12_addValue.cls = true := by decide +kernel
set_option maxRecDepth 100000 in
theorem mok_X12_field : MOK D_X12_field 3 := ⟨tin 8 44 (by decide +kernel) rfl, by decide +kernel, by decide +kernel, by decide +kernel⟩
theorem pn_X12_field : plainName yX12_field.cls = true := by decide +kernel
set_option maxRecDepth 100000 in
theorem mok_X12_trim : MOK D_X12_trim 0 := ⟨tin 8 74 (by decide +kernel) rfl, by decide +kernel, by decide +kernel, by decide +kernel⟩
theorem pn_X12_trim : plainName yX12_trim.cls = true := by decide +kernel
set_option maxRecDepth 100000 in
theorem mok_X12_base : MOK D_X12_base 3 := ⟨tin 8 94 (by decide +kernel) rfl, by decide +kernel, by decide +kernel, by decide +kernel⟩
theorem pn_X12_base : plainName yX12_base.cls = true := by decide +kernel
set_option maxRecDepth 100000 in
theorem mok_X12_digits : MOK D_X12_digits 4 := ⟨tin 8 101 (by decide +kernel) rfl, by decide +kernel, by decide +kernel, by decide +kernel⟩
theorem pn_X12_digits : plainName yX12_digits.cls = true := by decide +kernel
set_option maxRecDepth 100000 in
theorem mok_X12_quoted : MOK D_X12_quoted 2 := ⟨tin 8 154 (by decide +kernel) rfl, by decide +kernel, by decide +kernel, by decide +kernel⟩
theorem pn_X12_quoted : plainName yX12_quoted.cls = true := by decide +kernel
set_option maxRecDepth 100000 in
theorem mok_X12_encodedEnd : MOK D_X12_encodedEnd 1 := ⟨tin 8 82 (by decide +kernel) rfl, by decide +kernel, by decide +kernel, by decide +kernel⟩
theorem pn_X12_encodedEnd : plainName yX12_encodedEnd.cls = true := by decide +kernel
set_option maxRecDepth 100000 in
theorem mok_X12_readEncoded : MOK D_X12_readEncoded 0 := ⟨tin 8 78 (by decide +kernel) rfl, by decide +kernel, by decide +kernel, by decide +kernel⟩
theorem pn_X12_readEncoded : plainName yX12_readEncoded.cls = true := by decide +kernel
set_option maxRecDepth 100000 in
theorem mok_X12_isContent : MOK D_X12_isContent 3 := ⟨tin 8 128 (by decide +kernel) rfl, by decide +kernel, by decide +kernel, by decide +kernel⟩
theorem pn_X12_isContent : plainName yX12_isContent.cls = true := by decide +kernel
set_option maxRecDepth 100000 in
theorem mok_X12_findBoundary : MOK D_X12_findBoundary 1 := ⟨tin 8 132 (by decide +kernel) rfl, by decide +kernel, by decide +kernel, by decide +kernel⟩
theorem pn_X12_findBoundary : plainName yX12_findBoundary.cls = true := by decide +kernel
set_option maxRecDepth 100000 in
theorem mok_X12_mark : MOK D_X12_mark 2 := ⟨tin 8 142 (by decide +kernel) rfl, by decide +kernel, by decide +kernel, by decide +kernel⟩
theorem pn_X12_mark : plainName yX12_mark.cls = true := by decide +kernel
set_option maxRecDepth 100000 in
theorem mok_X12_findParts : MOK D_X12_findParts 2 := ⟨tin 8 138 (by decide +kernel) rfl, by decide +kernel, by decide +kernel, by decide +kernel⟩
theorem pn_X12_findParts : plainName yX12_findParts.cls = true := by decide +kernel
set_option maxRecDepth 100000 in
theorem mok_X12_addPart : MOK D_X12_addPart 2 := ⟨tin 8 146 (by decide +kernel) rfl, by decide +kernel, by decide +kernel, by decide +kernel⟩
theorem pn_X12_addPart : plainName yX12_addPart.cls = true := by decide +kernel
set_option maxRecDepth 100000 in
theorem mok_X12_push : MOK D_X12_push 3 := ⟨tin 8 118 (by decide +kernel) rfl, by decide +kernel, by decide +kernel, by decide +kernel⟩
theorem pn_X12_push : plainName yX12_push.cls = true := by decide +kernel
set_option maxRecDepth 100000 in
theorem mok_X12_readBody : MOK D_X12_readBody 3 := ⟨tin 8 122 (by decide +kernel) rfl, by decide +kernel, by decide +kernel, by decide +kernel⟩
theorem pn_X12_readBody : plainName yX12_readBody.cls = true := by decide +kernel
set_option maxRecDepth 100000 in
theorem mok_X12_readText : MOK D_X12_readText 2 := ⟨tin 8 114 (by decide +kernel) rfl, by decide +kernel, by decide +kernel, by decide +kernel⟩
theorem pn_X12_readText : plainName yX12_readText.cls = true := by decide +kernel
set_option maxRecDepth 100000 in
theorem mok_X12_isWord : MOK D_X12_isWord 1 := ⟨tin 8 110 (by decide +kernel) rfl, by decide +kernel, by decide +kernel, by decide +kernel⟩
theorem pn_X12_isWord : plainName yX12_isWord.cls = true := by decide +kernel
set_option maxRecDepth 100000 in
theorem mok_X12_split : MOK D_X12_split 7 := ⟨tin 8 107 (by decide +kernel) rfl, by decide +kernel, by decide +kernel, by decide +kernel⟩
theorem pn_X12_split : plainName yX12_split.cls = true := by decide +kernel
set_option maxRecDepth 100000 in
theorem mok_X12_readField : MOK D_X12_readField 4 := ⟨tin 8 40 (by decide +kernel) rfl, by decide +kernel, by decide +kernel, by decide +kernel⟩
theorem pn_X12_readField : plainName yX12_readField.cls = true := by decide +kernel
set_option maxRecDepth 100000 in
theorem mok_X12_isLeap : MOK D_X12_isLeap 1 := ⟨tin 8 19 (by decide +kernel) rfl, by decide +kernel, by decide +kernel, by decide +kernel⟩
theorem pn_X12_isLeap : plainName yX12_isLeap.cls = true := by decide +kernel
set_option maxRecDepth 100000 in
theorem mok_X12_monthDays : MOK D_X12_monthDays 2 := ⟨tin 8 16 (by decide +kernel) rfl, by decide +kernel, by decide +kernel, by decide +kernel⟩
theorem pn_X12_monthDays : plainName yX12_monthDays.cls = true := by decide +kernel
set_option maxRecDepth 100000 in
theorem mok_X12_days : MOK D_X12_days 3 := ⟨tin 8 22 (by decide +kernel) rfl, by decide +kernel, by decide +kernel, by decide +kernel⟩
theorem pn_X12_days : plainName yX12_days.cls = true := by decide +kernel
set_option maxRecDepth 100000 in
theorem mok_X12_dateWord : MOK D_X12_dateWord 0 := ⟨tin 8 164 (by decide +kernel) rfl, by decide +kernel, by decide +kernel, by decide +kernel⟩
theorem pn_X12_dateWord : plainName yX12_dateWord.cls = true := by decide +kernel
set_option maxRecDepth 100000 in
theorem mok_X12_number : MOK D_X12_number 2 := ⟨tin 8 168 (by decide +kernel) rfl, by decide +kernel, by decide +kernel, by decide +kernel⟩
theorem pn_X12_number : plainName yX12_number.cls = true := by decide +kernel
set_option maxRecDepth 100000 in
theorem mok_X12_month : MOK D_X12_month 2 := ⟨tin 8 172 (by decide +kernel) rfl, by decide +kernel, by decide +kernel, by decide +kernel⟩
theorem pn_X12_month : plainName yX12_month.cls = true := by decide +kernel
set_option maxRecDepth 100000 in
theorem mok_X12_clock : MOK D_X12_clock 2 := ⟨tin 8 178 (by decide +kernel) rfl, by decide +kernel, by decide +kernel, by decide +kernel⟩
theorem pn_X12_clock : plainName yX12_clock.cls = true := by decide +kernel
set_option maxRecDepth 100000 in
theorem mok_X12_zone : MOK D_X12_zone 2 := ⟨tin 8 182 (by decide +kernel) rfl, by decide +kernel, by decide +kernel, by decide +kernel⟩
theorem pn_X12_zone : plainName yX12_zone.cls = true := by decide +kernel
set_option maxRecDepth 100000 in
theorem mok_X12_dateOf : MOK D_X12_dateOf 0 := ⟨tin 8 160 (by decide +kernel) rfl, by decide +kernel, by decide +kernel, by decide +kernel⟩
theorem pn_X12_dateOf : plainName yX12_dateOf.cls = true := by decide +kernel
set_option maxRecDepth 100000 in
theorem mok_X12_angle : MOK D_X12_angle 1 := ⟨tin 8 186 (by decide +kernel) rfl, by decide +kernel, by decide +kernel, by decide +kernel⟩
theorem pn_X12_angle : plainName yX12_angle.cls = true := by decide +kernel
set_option maxRecDepth 100000 in
theorem mok_X12_isId : MOK D_X12_isId 2 := ⟨tin 8 190 (by decide +kernel) rfl, by decide +kernel, by decide +kernel, by decide +kernel⟩
theorem pn_X12_isId : plainName yX12_isId.cls = true := by decide +kernel
set_option maxRecDepth 100000 in
theorem mok_X12_refer : MOK D_X12_refer 2 := ⟨tin 8 198 (by decide +kernel) rfl, by decide +kernel, by decide +kernel, by decide +kernel⟩
theorem pn_X12_refer : plainName yX12_refer.cls = true := by decide +kernel
set_option maxRecDepth 100000 in
theorem mok_X12_readReferences : MOK D_X12_readReferences 1 := ⟨tin 8 194 (by decide +kernel) rfl, by decide +kernel, by decide +kernel, by decide +kernel⟩
theorem pn_X12_readReferences : plainName yX12_readReferences.cls = true := by decide +kernel
set_option maxRecDepth 100000 in
theorem mok_X12_read : MOK D_X12_read 1 := ⟨tin 8 36 (by decide +kernel) rfl, by decide +kernel, by decide +kernel, by decide +kernel⟩
theorem pn_X12_read : plainName yX12_read.cls = true := by decide +kernel
set_option maxRecDepth 100000 in
theorem mok_X12_node : MOK D_X12_node 3 := ⟨tin 8 202 (by decide +kernel) rfl, by decide +kernel, by decide +kernel, by decide +kernel⟩
theorem pn_X12_node : plainName yX12_node.cls = true := by decide +kernel
set_option maxRecDepth 100000 in
theorem mok_X12_isUnder : MOK D_X12_isUnder 2 := ⟨tin 8 206 (by decide +kernel) rfl, by decide +kernel, by decide +kernel, by decide +kernel⟩
theorem pn_X12_isUnder : plainName yX12_isUnder.cls = true := by decide +kernel
set_option maxRecDepth 100000 in
theorem mok_X12_hang : MOK D_X12_hang 1 := ⟨tin 8 32 (by decide +kernel) rfl, by decide +kernel, by decide +kernel, by decide +kernel⟩
theorem pn_X12_hang : plainName yX12_hang.cls = true := by decide +kernel
set_option maxRecDepth 100000 in
theorem mok_X12_link : MOK D_X12_link 0 := ⟨tin 8 28 (by decide +kernel) rfl, by decide +kernel, by decide +kernel, by decide +kernel⟩
theorem pn_X12_link : plainName yX12_link.cls = true := by decide +kernel
set_option maxRecDepth 100000 in
theorem mok_X12_root : MOK D_X12_root 1 := ⟨tin 8 226 (by decide +kernel) rfl, by decide +kernel, by decide +kernel, by decide +kernel⟩
theorem pn_X12_root : plainName yX12_root.cls = true := by decide +kernel
set_option maxRecDepth 100000 in
theorem mok_X12_threadOf : MOK D_X12_threadOf 1 := ⟨tin 8 222 (by decide +kernel) rfl, by decide +kernel, by decide +kernel, by decide +kernel⟩
theorem pn_X12_threadOf : plainName yX12_threadOf.cls = true := by decide +kernel
set_option maxRecDepth 100000 in
theorem mok_X12_parentOf : MOK D_X12_parentOf 1 := ⟨tin 9 18 (by decide +kernel) rfl, by decide +kernel, by decide +kernel, by decide +kernel⟩
theorem pn_X12_parentOf : plainName yX12_parentOf.cls = true := by decide +kernel
set_option maxRecDepth 100000 in
theorem mok_X12_refuse : MOK D_X12_refuse 1 := ⟨tin 7 204 (by decide +kernel) rfl, by decide +kernel, by decide +kernel, by decide +kernel⟩
theorem pn_X12_refuse : plainName yX12_refuse.cls = true := by decide +kernel
set_option maxRecDepth 100000 in
theorem mok_X12_leaf : MOK D_X12_leaf 4 := ⟨tin 7 230 (by decide +kernel) rfl, by decide +kernel, by decide +kernel, by decide +kernel⟩
theorem pn_X12_leaf : plainName yX12_leaf.cls = true := by decide +kernel
set_option maxRecDepth 100000 in
theorem mok_X12_done : MOK D_X12_done 1 := ⟨tin 7 212 (by decide +kernel) rfl, by decide +kernel, by decide +kernel, by decide +kernel⟩
theorem pn_X12_done : plainName yX12_done.cls = true := by decide +kernel
set_option maxRecDepth 100000 in
theorem mok_X12_unwind : MOK D_X12_unwind 1 := ⟨tin 7 208 (by decide +kernel) rfl, by decide +kernel, by decide +kernel, by decide +kernel⟩
theorem pn_X12_unwind : plainName yX12_unwind.cls = true := by decide +kernel
set_option maxRecDepth 100000 in
theorem mok_X12_later : MOK D_X12_later 1 := ⟨tin 7 216 (by decide +kernel) rfl, by decide +kernel, by decide +kernel, by decide +kernel⟩
theorem pn_X12_later : plainName yX12_later.cls = true := by decide +kernel
set_option maxRecDepth 100000 in
theorem mok_X12_phraseEnd : MOK D_X12_phraseEnd 1 := ⟨tin 7 226 (by decide +kernel) rfl, by decide +kernel, by decide +kernel, by decide +kernel⟩
theorem pn_X12_phraseEnd : plainName yX12_phraseEnd.cls = true := by decide +kernel
set_option maxRecDepth 100000 in
theorem mok_X12_fieldOf : MOK D_X12_fieldOf 2 := ⟨tin 7 236 (by decide +kernel) rfl, by decide +kernel, by decide +kernel, by decide +kernel⟩
theorem pn_X12_fieldOf : plainName yX12_fieldOf.cls = true := by decide +kernel
set_option maxRecDepth 100000 in
theorem mok_X12_day : MOK D_X12_day 1 := ⟨tin 8 12 (by decide +kernel) rfl, by decide +kernel, by decide +kernel, by decide +kernel⟩
theorem pn_X12_day : plainName yX12_day.cls = true := by decide +kernel
set_option maxRecDepth 100000 in
theorem mok_X12_isDate : MOK D_X12_isDate 3 := ⟨tin 8 8 (by decide +kernel) rfl, by decide +kernel, by decide +kernel, by decide +kernel⟩
theorem pn_X12_isDate : plainName yX12_isDate.cls = true := by decide +kernel
set_option maxRecDepth 100000 in
theorem mok_X12_isNumber : MOK D_X12_isNumber 2 := ⟨tin 8 4 (by decide +kernel) rfl, by decide +kernel, by decide +kernel, by decide +kernel⟩
theorem pn_X12_isNumber : plainName yX12_isNumber.cls = true := by decide +kernel
set_option maxRecDepth 100000 in
theorem mok_X12_one : MOK D_X12_one 2 := ⟨tin 7 222 (by decide +kernel) rfl, by decide +kernel, by decide +kernel, by decide +kernel⟩
theorem pn_X12_one : plainName yX12_one.cls = true := by decide +kernel
set_option maxRecDepth 100000 in
theorem mok_X12_wordEnd : MOK D_X12_wordEnd 1 := ⟨tin 7 193 (by decide +kernel) rfl, by decide +kernel, by decide +kernel, by decide +kernel⟩
theorem pn_X12_wordEnd : plainName yX12_wordEnd.cls = true := by decide +kernel
set_option maxRecDepth 100000 in
theorem mok_X12_just : MOK D_X12_just 4 := ⟨tin 7 198 (by decide +kernel) rfl, by decide +kernel, by decide +kernel, by decide +kernel⟩
theorem pn_X12_just : plainName yX12_just.cls = true := by decide +kernel
set_option maxRecDepth 100000 in
theorem mok_X12_readQuery : MOK D_X12_readQuery 0 := ⟨tin 7 186 (by decide +kernel) rfl, by decide +kernel, by decide +kernel, by decide +kernel⟩
theorem pn_X12_readQuery : plainName yX12_readQuery.cls = true := by decide +kernel
set_option maxRecDepth 100000 in
theorem mok_X12_isSameWord : MOK D_X12_isSameWord 3 := ⟨tin 8 234 (by decide +kernel) rfl, by decide +kernel, by decide +kernel, by decide +kernel⟩
theorem pn_X12_isSameWord : plainName yX12_isSameWord.cls = true := by decide +kernel
set_option maxRecDepth 100000 in
theorem mok_X12_stands : MOK D_X12_stands 2 := ⟨tin 8 230 (by decide +kernel) rfl, by decide +kernel, by decide +kernel, by decide +kernel⟩
theorem pn_X12_stands : plainName yX12_stands.cls = true := by decide +kernel
set_option maxRecDepth 100000 in
theorem mok_X12_hasTag : MOK D_X12_hasTag 4 := ⟨tin 8 218 (by decide +kernel) rfl, by decide +kernel, by decide +kernel, by decide +kernel⟩
theorem pn_X12_hasTag : plainName yX12_hasTag.cls = true := by decide +kernel
set_option maxRecDepth 100000 in
theorem mok_X12_tagAt : MOK D_X12_tagAt 4 := ⟨tin 7 174 (by decide +kernel) rfl, by decide +kernel, by decide +kernel, by decide +kernel⟩
theorem pn_X12_tagAt : plainName yX12_tagAt.cls = true := by decide +kernel
set_option maxRecDepth 100000 in
theorem mok_X12_isLeaf : MOK D_X12_isLeaf 2 := ⟨tin 8 214 (by decide +kernel) rfl, by decide +kernel, by decide +kernel, by decide +kernel⟩
theorem pn_X12_isLeaf : plainName yX12_isLeaf.cls = true := by decide +kernel
set_option maxRecDepth 100000 in
theorem mok_X12_matches : MOK D_X12_matches 1 := ⟨tin 8 210 (by decide +kernel) rfl, by decide +kernel, by decide +kernel, by decide +kernel⟩
theorem pn_X12_matches : plainName yX12_matches.cls = true := by decide +kernel
set_option maxRecDepth 100000 in
theorem mok_X12_feed : MOK D_X12_feed 5 := ⟨tin 7 139 (by decide +kernel) rfl, by decide +kernel, by decide +kernel, by decide +kernel⟩
theorem pn_X12_feed : plainName yX12_feed.cls = true := by decide +kernel
set_option maxRecDepth 100000 in
theorem mok_X12_end : MOK D_X12_end 1 := ⟨tin 7 143 (by decide +kernel) rfl, by decide +kernel, by decide +kernel, by decide +kernel⟩
theorem pn_X12_end : plainName yX12_end.cls = true := by decide +kernel
set_option maxRecDepth 100000 in
theorem mok_X12_take : MOK D_X12_take 0 := ⟨tin 7 151 (by decide +kernel) rfl, by decide +kernel, by decide +kernel, by decide +kernel⟩
theorem pn_X12_take : plainName yX12_take.cls = true := by decide +kernel
set_option maxRecDepth 100000 in
theorem mok_X12_isThere : MOK D_X12_isThere 1 := ⟨tin 7 159 (by decide +kernel) rfl, by decide +kernel, by decide +kernel, by decide +kernel⟩
theorem pn_X12_isThere : plainName yX12_isThere.cls = true := by decide +kernel
set_option maxRecDepth 100000 in
theorem mok_X12_add : MOK D_X12_add 0 := ⟨tin 7 147 (by decide +kernel) rfl, by decide +kernel, by decide +kernel, by decide +kernel⟩
theorem pn_X12_add : plainName yX12_add.cls = true := by decide +kernel
set_option maxRecDepth 100000 in
theorem mok_X12_remove : MOK D_X12_remove 1 := ⟨tin 7 155 (by decide +kernel) rfl, by decide +kernel, by decide +kernel, by decide +kernel⟩
theorem pn_X12_remove : plainName yX12_remove.cls = true := by decide +kernel
set_option maxRecDepth 100000 in
theorem mok_X12_isTag : MOK D_X12_isTag 1 := ⟨tin 7 167 (by decide +kernel) rfl, by decide +kernel, by decide +kernel, by decide +kernel⟩
theorem pn_X12_isTag : plainName yX12_isTag.cls = true := by decide +kernel
set_option maxRecDepth 100000 in
theorem mok_X12_moveTag : MOK D_X12_moveTag 3 := ⟨tin 7 178 (by decide +kernel) rfl, by decide +kernel, by decide +kernel, by decide +kernel⟩
theorem pn_X12_moveTag : plainName yX12_moveTag.cls = true := by decide +kernel
set_option maxRecDepth 100000 in
theorem mok_X12_tag : MOK D_X12_tag 2 := ⟨tin 7 163 (by decide +kernel) rfl, by decide +kernel, by decide +kernel, by decide +kernel⟩
theorem pn_X12_tag : plainName yX12_tag.cls = true := by decide +kernel
set_option maxRecDepth 100000 in
theorem mok_X12_search : MOK D_X12_search 0 := ⟨tin 7 182 (by decide +kernel) rfl, by decide +kernel, by decide +kernel, by decide +kernel⟩
theorem pn_X12_search : plainName yX12_search.cls = true := by decide +kernel
set_option maxRecDepth 100000 in
theorem mok_X12_fault : MOK D_X12_fault 0 := ⟨tin 8 238 (by decide +kernel) rfl, by decide +kernel, by decide +kernel, by decide +kernel⟩
theorem pn_X12_fault : plainName yX12_fault.cls = true := by decide +kernel
set_option maxRecDepth 100000 in
theorem mok_X12_found : MOK D_X12_found 1 := ⟨tin 9 2 (by decide +kernel) rfl, by decide +kernel, by decide +kernel, by decide +kernel⟩
theorem pn_X12_found : plainName yX12_found.cls = true := by decide +kernel
set_option maxRecDepth 100000 in
theorem mok_X12_conversations : MOK D_X12_conversations 0 := ⟨tin 9 6 (by decide +kernel) rfl, by decide +kernel, by decide +kernel, by decide +kernel⟩
theorem pn_X12_conversations : plainName yX12_conversations.cls = true := by decide +kernel
set_option maxRecDepth 100000 in
theorem mok_X12_thread : MOK D_X12_thread 1 := ⟨tin 9 10 (by decide +kernel) rfl, by decide +kernel, by decide +kernel, by decide +kernel⟩
theorem pn_X12_thread : plainName yX12_thread.cls = true := by decide +kernel
set_option maxRecDepth 100000 in
theorem mok_X12_depth : MOK D_X12_depth 1 := ⟨tin 9 22 (by decide +kernel) rfl, by decide +kernel, by decide +kernel, by decide +kernel⟩
theorem pn_X12_depth : plainName yX12_depth.cls = true := by decide +kernel
set_option maxRecDepth 100000 in
theorem mok_X12_about : MOK D_X12_about 2 := ⟨tin 9 14 (by decide +kernel) rfl, by decide +kernel, by decide +kernel, by decide +kernel⟩
theorem pn_X12_about : plainName yX12_about.cls = true := by decide +kernel
set_option maxRecDepth 100000 in
theorem mok_X12_at : MOK D_X12_at 4 := ⟨tin 9 26 (by decide +kernel) rfl, by decide +kernel, by decide +kernel, by decide +kernel⟩
theorem pn_X12_at : plainName yX12_at.cls = true := by decide +kernel
set_option maxRecDepth 100000 in
theorem mok_X12_addDifferent : MOK D_X12_addDifferent 3 := ⟨tin 9 34 (by decide +kernel) rfl, by decide +kernel, by decide +kernel, by decide +kernel⟩
theorem pn_X12_addDifferent : plainName yX12_addDifferent.cls = true := by decide +kernel
set_option maxRecDepth 100000 in
theorem mok_X12_count : MOK D_X12_count 1 := ⟨tin 9 30 (by decide +kernel) rfl, by decide +kernel, by decide +kernel, by decide +kernel⟩
theorem pn_X12_count : plainName yX12_count.cls = true := by decide +kernel
set_option maxRecDepth 100000 in
theorem ca_c1_32 : CallOK RX0 (.invokevirtual 32) 4 D_X0_sizeOf 2 := co_V (C := RX0) (T := TX0) (N := 7) (ci := 1) rfl mok_X0_sizeOf rfl (tin 3 45 (by decide +kernel) rfl) (tin 3 29 (by decide +kernel) rfl) (tin 3 30 (by decide +kernel) rfl) (tin 1 3 (by decide +kernel) rfl)
set_option maxRecDepth 100000 in
theorem ca_c1_36 : CallOK RX0 (.invokestatic 36) 0 D_X0_slotOf 3 := co_S mok_X0_slotOf (tin 4 124 (by decide +kernel) rfl) (tin 4 125 (by decide +kernel) rfl) (tin 1 3 (by decide +kernel) rfl)
set_option maxRecDepth 100000 in
theorem ca_c1_40 : CallOK RX0 (.invokevirtual 40) 4 D_X0_begins 5 := co_V (C := RX0) (T := TX0) (N := 7) (ci := 1) rfl mok_X0_begins rfl (tin 4 128 (by decide +kernel) rfl) (tin 4 129 (by decide +kernel) rfl) (tin 4 130 (by decide +kernel) rfl) (tin 1 3 (by decide +kernel) rfl)
set_option maxRecDepth 100000 in
theorem ca_c1_51 : CallOK RX0 (.invokevirtual 51) 5 D_X1_byteAt 2 := co_V (C := RX1) (T := TX1) (N := 2) (ci := 2) rfl mok_X1_byteAt rfl (tin 4 127 (by decide +kernel) rfl) (tin 2 164 (by decide +kernel) rfl) (tin 2 165 (by decide +kernel) rfl) (tin 1 2 (by decide +kernel) rfl)
set_option maxRecDepth 100000 in
theorem ca_c1_44 : CallOK RX0 (.invokevirtual 44) 4 D_X0_find 4 := co_V (C := RX0) (T := TX0) (N := 7) (ci := 1) rfl mok_X0_find rfl (tin 4 120 (by decide +kernel) rfl) (tin 4 121 (by decide +kernel) rfl) (tin 4 122 (by decide +kernel) rfl) (tin 1 3 (by decide +kernel) rfl)
set_option maxRecDepth 100000 in
theorem ca_c1_47 : CallOK RX0 (.invokevirtual 47) 4 D_X0_makeRoom 3 := co_V (C := RX0) (T := TX0) (N := 7) (ci := 1) rfl mok_X0_makeRoom rfl (tin 4 132 (by decide +kernel) rfl) (tin 4 134 (by decide +kernel) rfl) (tinP (y := yX0_makeRoom) (n := 7) 19 (by decide +kernel)) (tin 1 3 (by decide +kernel) rfl)
set_option maxRecDepth 100000 in
theorem ca_c1_68 : CallOK RX0 (.invokestatic 68) 0 D_J7_copyOf_9075b 2 := co_S mok_J7_copyOf_9075b (tin 4 136 (by decide +kernel) rfl) (tin 4 137 (by decide +kernel) rfl) (tin 1 17 (by decide +kernel) rfl)
set_option maxRecDepth 100000 in
theorem ca_c1_74 : CallOK RX0 (.invokestatic 74) 0 D_J7_copyOf_59c91 2 := co_S mok_J7_copyOf_59c91 (tin 4 150 (by decide +kernel) rfl) (tin 4 151 (by decide +kernel) rfl) (tin 1 17 (by decide +kernel) rfl)
set_option maxRecDepth 100000 in
theorem ca_c1_62 : CallOK RX0 (.invokevirtual 62) 4 D_X0_byteOf 3 := co_V (C := RX0) (T := TX0) (N := 7) (ci := 1) rfl mok_X0_byteOf rfl (tin 5 234 (by decide +kernel) rfl) (tin 3 42 (by decide +kernel) rfl) (tin 3 43 (by decide +kernel) rfl) (tin 1 3 (by decide +kernel) rfl)
set_option maxRecDepth 100000 in
theorem ca_c2_19 : CallOK RX1 (.invokevirtual 19) 5 D_X1_put 2 := co_V (C := RX1) (T := TX1) (N := 2) (ci := 2) rfl mok_X1_put rfl (tin 2 91 (by decide +kernel) rfl) (tin 2 92 (by decide +kernel) rfl) (tin 2 93 (by decide +kernel) rfl) (tin 1 2 (by decide +kernel) rfl)
set_option maxRecDepth 100000 in
theorem ca_c2_23 : CallOK RX1 (.invokevirtual 23) 5 D_X1_byteAt 2 := co_V (C := RX1) (T := TX1) (N := 2) (ci := 2) rfl mok_X1_byteAt rfl (tin 2 163 (by decide +kernel) rfl) (tin 2 164 (by decide +kernel) rfl) (tin 2 165 (by decide +kernel) rfl) (tin 1 2 (by decide +kernel) rfl)
set_option maxRecDepth 100000 in
theorem ca_c2_27 : CallOK RX1 (.invokestatic 27) 0 D_X9_isBlank 1 := co_S mok_X9_isBlank (tin 4 42 (by decide +kernel) rfl) (tin 4 21 (by decide +kernel) rfl) (tin 1 19 (by decide +kernel) rfl)
set_option maxRecDepth 100000 in
theorem ca_c2_33 : CallOK RX1 (.invokevirtual 33) 2 D_J0_length_8abf5 1 := co_X mok_J0_length_8abf5 rfl (tin 3 216 (by decide +kernel) rfl) (tin 3 203 (by decide +kernel) rfl) (tin 3 204 (by decide +kernel) rfl) (tin 1 20 (by decide +kernel) rfl)
set_option maxRecDepth 100000 in
theorem ca_c2_38 : CallOK RX1 (.invokestatic 38) 0 D_X9_small 1 := co_S mok_X9_small (tin 3 217 (by decide +kernel) rfl) (tin 3 218 (by decide +kernel) rfl) (tin 1 19 (by decide +kernel) rfl)
set_option maxRecDepth 100000 in
theorem ca_c2_41 : CallOK RX1 (.invokevirtual 41) 2 D_J0_charAt_5068e 2 := co_X mok_J0_charAt_5068e rfl (tin 3 220 (by decide +kernel) rfl) (tin 3 221 (by decide +kernel) rfl) (tin 3 222 (by decide +kernel) rfl) (tin 1 20 (by decide +kernel) rfl)
set_option maxRecDepth 100000 in
theorem ca_c20_335 : CallOK RJ0 (.invokevirtual 335) 2 D_J0_coder_7d493 1 := co_X mok_J0_coder_7d493 rfl (tin 3 206 (by decide +kernel) rfl) (tin 3 207 (by decide +kernel) rfl) (tin 3 208 (by decide +kernel) rfl) (tin 1 20 (by decide +kernel) rfl)
set_option maxRecDepth 100000 in
theorem ca_c20_492 : CallOK RJ0 (.invokevirtual 492) 2 D_J0_isLatin1_aae02 1 := co_X mok_J0_isLatin1_aae02 rfl (tin 3 224 (by decide +kernel) rfl) (tin 3 225 (by decide +kernel) rfl) (tin 3 226 (by decide +kernel) rfl) (tin 1 20 (by decide +kernel) rfl)
set_option maxRecDepth 100000 in
theorem ca_c20_495 : CallOK RJ0 (.invokestatic 495) 0 D_J1_charAt_3b067 2 := co_S mok_J1_charAt_3b067 (tin 3 228 (by decide +kernel) rfl) (tin 3 229 (by decide +kernel) rfl) (tin 1 21 (by decide +kernel) rfl)
set_option maxRecDepth 100000 in
theorem ca_c20_498 : CallOK RJ0 (.invokestatic 498) 0 D_J2_charAt_3b067 2 := co_S mok_J2_charAt_3b067 (tin 3 237 (by decide +kernel) rfl) (tin 3 238 (by decide +kernel) rfl) (tin 1 23 (by decide +kernel) rfl)
set_option maxRecDepth 100000 in
theorem ca_c21_9 : CallOK RJ1 (.invokestatic 9) 0 D_J0_checkIndex_df160 2 := co_S mok_J0_checkIndex_df160 (tin 3 231 (by decide +kernel) rfl) (tin 3 232 (by decide +kernel) rfl) (tin 1 20 (by decide +kernel) rfl)
set_option maxRecDepth 100000 in
theorem ca_c20_1059 : CallOK RJ0 (.invokestatic 1059) 0 D_J3_checkIndex_8e157 3 := co_S mok_J3_checkIndex_8e157 (tin 3 236 (by decide +kernel) rfl) (tin 2 199 (by decide +kernel) rfl) (tin 1 22 (by decide +kernel) rfl)
set_option maxRecDepth 100000 in
theorem ca_c22_67 : CallOK RJ2 (.invokestatic 67) 0 D_J2_checkIndex_2214a 2 := co_S mok_J2_checkIndex_2214a (tin 4 0 (by decide +kernel) rfl) (tin 4 1 (by decide +kernel) rfl) (tin 1 23 (by decide +kernel) rfl)
set_option maxRecDepth 100000 in
theorem ca_c22_48 : CallOK RJ2 (.invokestatic 48) 0 D_J2_length_9d52b 1 := co_S mok_J2_length_9d52b (tin 4 3 (by decide +kernel) rfl) (tin 4 4 (by decide +kernel) rfl) (tin 1 23 (by decide +kernel) rfl)
set_option maxRecDepth 100000 in
theorem ca_c22_414 : CallOK RJ2 (.invokestatic 414) 0 D_J0_checkIndex_df160 2 := co_S mok_J0_checkIndex_df160 (tin 4 6 (by decide +kernel) rfl) (tin 3 232 (by decide +kernel) rfl) (tin 1 20 (by decide +kernel) rfl)
set_option maxRecDepth 100000 in
theorem ca_c2_45 : CallOK RX1 (.invokevirtual 45) 5 D_X1_hasAt 4 := co_V (C := RX1) (T := TX1) (N := 2) (ci := 2) rfl mok_X1_hasAt rfl (tin 5 0 (by decide +kernel) rfl) (tin 3 213 (by decide +kernel) rfl) (tin 3 214 (by decide +kernel) rfl) (tin 1 2 (by decide +kernel) rfl)
set_option maxRecDepth 100000 in
theorem ca_c2_49 : CallOK RX1 (.invokestatic 49) 0 D_X9_isDigit 1 := co_S mok_X9_isDigit (tin 4 66 (by decide +kernel) rfl) (tin 3 184 (by decide +kernel) rfl) (tin 1 19 (by decide +kernel) rfl)
set_option maxRecDepth 100000 in
theorem ca_c2_52 : CallOK RX1 (.invokevirtual 52) 5 D_X1_clear 1 := co_V (C := RX1) (T := TX1) (N := 2) (ci := 2) rfl mok_X1_clear rfl (tin 4 214 (by decide +kernel) rfl) (tin 2 84 (by decide +kernel) rfl) (tin 2 85 (by decide +kernel) rfl) (tin 1 2 (by decide +kernel) rfl)
set_option maxRecDepth 100000 in
theorem ca_c2_55 : CallOK RX1 (.invokestatic 55) 0 D_X9_isOfWord 1 := co_S mok_X9_isOfWord (tin 4 215 (by decide +kernel) rfl) (tin 4 216 (by decide +kernel) rfl) (tin 1 19 (by decide +kernel) rfl)
set_option maxRecDepth 100000 in
theorem ca_c10_9 : CallOK RX9 (.invokestatic 9) 0 D_X9_isLetter 1 := co_S mok_X9_isLetter (tin 3 180 (by decide +kernel) rfl) (tin 3 181 (by decide +kernel) rfl) (tin 1 19 (by decide +kernel) rfl)
set_option maxRecDepth 100000 in
theorem ca_c10_15 : CallOK RX9 (.invokestatic 15) 0 D_X9_isDigit 1 := co_S mok_X9_isDigit (tin 3 183 (by decide +kernel) rfl) (tin 3 184 (by decide +kernel) rfl) (tin 1 19 (by decide +kernel) rfl)
set_option maxRecDepth 100000 in
theorem ca_c3_9 : CallOK RX2 (.invokevirtual 9) 5 D_X1_byteAt 2 := co_V (C := RX1) (T := TX1) (N := 2) (ci := 2) rfl mok_X1_byteAt rfl (tin 4 181 (by decide +kernel) rfl) (tin 2 164 (by decide +kernel) rfl) (tin 2 165 (by decide +kernel) rfl) (tin 1 2 (by decide +kernel) rfl)
set_option maxRecDepth 100000 in
theorem ca_c3_15 : CallOK RX2 (.invokestatic 15) 0 D_X9_base64Digit 1 := co_S mok_X9_base64Digit (tin 4 193 (by decide +kernel) rfl) (tin 4 194 (by decide +kernel) rfl) (tin 1 19 (by decide +kernel) rfl)
set_option maxRecDepth 100000 in
theorem ca_c3_20 : CallOK RX2 (.invokevirtual 20) 5 D_X1_put 2 := co_V (C := RX1) (T := TX1) (N := 2) (ci := 2) rfl mok_X1_put rfl (tin 4 185 (by decide +kernel) rfl) (tin 2 92 (by decide +kernel) rfl) (tin 2 93 (by decide +kernel) rfl) (tin 1 2 (by decide +kernel) rfl)
set_option maxRecDepth 100000 in
theorem ca_c3_24 : CallOK RX2 (.invokevirtual 24) 5 D_X1_lineStop 3 := co_V (C := RX1) (T := TX1) (N := 2) (ci := 2) rfl mok_X1_lineStop rfl (tin 5 9 (by decide +kernel) rfl) (tin 3 162 (by decide +kernel) rfl) (tin 3 163 (by decide +kernel) rfl) (tin 1 2 (by decide +kernel) rfl)
set_option maxRecDepth 100000 in
theorem ca_c3_28 : CallOK RX2 (.invokevirtual 28) 5 D_X1_lineEnd 4 := co_V (C := RX1) (T := TX1) (N := 2) (ci := 2) rfl mok_X1_lineEnd rfl (tin 5 10 (by decide +kernel) rfl) (tin 3 166 (by decide +kernel) rfl) (tin 3 167 (by decide +kernel) rfl) (tin 1 2 (by decide +kernel) rfl)
set_option maxRecDepth 100000 in
theorem ca_c3_32 : CallOK RX2 (.invokevirtual 32) 5 D_X1_blanksBack 3 := co_V (C := RX1) (T := TX1) (N := 2) (ci := 2) rfl mok_X1_blanksBack rfl (tin 5 11 (by decide +kernel) rfl) (tin 4 232 (by decide +kernel) rfl) (tin 4 233 (by decide +kernel) rfl) (tin 1 2 (by decide +kernel) rfl)
set_option maxRecDepth 100000 in
theorem ca_c3_35 : CallOK RX2 (.invokestatic 35) 0 D_X2_escaped 5 := co_S mok_X2_escaped (tin 4 196 (by decide +kernel) rfl) (tin 4 197 (by decide +kernel) rfl) (tin 1 26 (by decide +kernel) rfl)
set_option maxRecDepth 100000 in
theorem ca_c3_79 : CallOK RX2 (.invokestatic 79) 0 D_X9_hexDigit 1 := co_S mok_X9_hexDigit (tin 4 199 (by decide +kernel) rfl) (tin 4 200 (by decide +kernel) rfl) (tin 1 19 (by decide +kernel) rfl)
set_option maxRecDepth 100000 in
theorem ca_c3_41 : CallOK RX2 (.invokevirtual 41) 5 D_X1_size 1 := co_V (C := RX1) (T := TX1) (N := 2) (ci := 2) rfl mok_X1_size rfl (tin 4 174 (by decide +kernel) rfl) (tin 2 156 (by decide +kernel) rfl) (tin 2 157 (by decide +kernel) rfl) (tin 1 2 (by decide +kernel) rfl)
set_option maxRecDepth 100000 in
theorem ca_c3_45 : CallOK RX2 (.invokestatic 45) 0 D_X2_encodedStop 2 := co_S mok_X2_encodedStop (tin 4 175 (by decide +kernel) rfl) (tin 4 176 (by decide +kernel) rfl) (tin 1 26 (by decide +kernel) rfl)
set_option maxRecDepth 100000 in
theorem ca_c3_49 : CallOK RX2 (.invokestatic 49) 0 D_X2_encoded 4 := co_S mok_X2_encoded (tin 4 186 (by decide +kernel) rfl) (tin 4 187 (by decide +kernel) rfl) (tin 1 26 (by decide +kernel) rfl)
set_option maxRecDepth 100000 in
theorem ca_c3_53 : CallOK RX2 (.invokevirtual 53) 5 D_X1_blanksOn 3 := co_V (C := RX1) (T := TX1) (N := 2) (ci := 2) rfl mok_X1_blanksOn rfl (tin 4 202 (by decide +kernel) rfl) (tin 4 203 (by decide +kernel) rfl) (tin 4 204 (by decide +kernel) rfl) (tin 1 2 (by decide +kernel) rfl)
set_option maxRecDepth 100000 in
theorem ca_c3_58 : CallOK RX2 (.invokevirtual 58) 5 D_X1_hasAt 4 := co_V (C := RX1) (T := TX1) (N := 2) (ci := 2) rfl mok_X1_hasAt rfl (tin 4 179 (by decide +kernel) rfl) (tin 3 213 (by decide +kernel) rfl) (tin 3 214 (by decide +kernel) rfl) (tin 1 2 (by decide +kernel) rfl)
set_option maxRecDepth 100000 in
theorem ca_c3_64 : CallOK RX2 (.invokestatic 64) 0 D_X9_small 1 := co_S mok_X9_small (tin 4 182 (by decide +kernel) rfl) (tin 3 218 (by decide +kernel) rfl) (tin 1 19 (by decide +kernel) rfl)
set_option maxRecDepth 100000 in
theorem ca_c3_67 : CallOK RX2 (.invokestatic 67) 0 D_X9_isBlank 1 := co_S mok_X9_isBlank (tin 4 183 (by decide +kernel) rfl) (tin 4 21 (by decide +kernel) rfl) (tin 1 19 (by decide +kernel) rfl)
set_option maxRecDepth 100000 in
theorem ca_c3_73 : CallOK RX2 (.invokevirtual 73) 5 D_X1_seek 4 := co_V (C := RX1) (T := TX1) (N := 2) (ci := 2) rfl mok_X1_seek rfl (tin 4 189 (by decide +kernel) rfl) (tin 4 107 (by decide +kernel) rfl) (tin 4 108 (by decide +kernel) rfl) (tin 1 2 (by decide +kernel) rfl)
set_option maxRecDepth 100000 in
theorem ca_c3_76 : CallOK RX2 (.invokestatic 76) 0 D_X2_base64 4 := co_S mok_X2_base64 (tin 4 190 (by decide +kernel) rfl) (tin 4 191 (by decide +kernel) rfl) (tin 1 26 (by decide +kernel) rfl)
set_option maxRecDepth 100000 in
theorem ca_c4_9 : CallOK RX3 (.invokestatic 9) 0 D_X3_daysIn 2 := co_S mok_X3_daysIn (tin 4 92 (by decide +kernel) rfl) (tin 4 93 (by decide +kernel) rfl) (tin 1 24 (by decide +kernel) rfl)
set_option maxRecDepth 100000 in
theorem ca_c4_17 : CallOK RX3 (.invokevirtual 17) 5 D_X1_numberIn 3 := co_V (C := RX1) (T := TX1) (N := 2) (ci := 2) rfl mok_X1_numberIn rfl (tin 4 62 (by decide +kernel) rfl) (tin 4 63 (by decide +kernel) rfl) (tin 4 64 (by decide +kernel) rfl) (tin 1 2 (by decide +kernel) rfl)
set_option maxRecDepth 100000 in
theorem ca_c4_22 : CallOK RX3 (.invokestatic 22) 0 D_X3_dayNumber 3 := co_S mok_X3_dayNumber (tin 4 89 (by decide +kernel) rfl) (tin 4 90 (by decide +kernel) rfl) (tin 1 24 (by decide +kernel) rfl)
set_option maxRecDepth 100000 in
theorem ca_c4_26 : CallOK RX3 (.invokestatic 26) 0 D_X3_wordStart 2 := co_S mok_X3_wordStart (tin 4 46 (by decide +kernel) rfl) (tin 4 47 (by decide +kernel) rfl) (tin 1 24 (by decide +kernel) rfl)
set_option maxRecDepth 100000 in
theorem ca_c4_30 : CallOK RX3 (.invokestatic 30) 0 D_X3_wordStop 2 := co_S mok_X3_wordStop (tin 4 55 (by decide +kernel) rfl) (tin 4 56 (by decide +kernel) rfl) (tin 1 24 (by decide +kernel) rfl)
set_option maxRecDepth 100000 in
theorem ca_c4_33 : CallOK RX3 (.invokestatic 33) 0 D_X3_isOfLetters 3 := co_S mok_X3_isOfLetters (tin 4 58 (by decide +kernel) rfl) (tin 4 59 (by decide +kernel) rfl) (tin 1 24 (by decide +kernel) rfl)
set_option maxRecDepth 100000 in
theorem ca_c4_37 : CallOK RX3 (.invokestatic 37) 0 D_X3_monthAt 2 := co_S mok_X3_monthAt (tin 4 67 (by decide +kernel) rfl) (tin 4 68 (by decide +kernel) rfl) (tin 1 24 (by decide +kernel) rfl)
set_option maxRecDepth 100000 in
theorem ca_c4_40 : CallOK RX3 (.invokestatic 40) 0 D_X3_yearIn 3 := co_S mok_X3_yearIn (tin 4 77 (by decide +kernel) rfl) (tin 4 78 (by decide +kernel) rfl) (tin 1 24 (by decide +kernel) rfl)
set_option maxRecDepth 100000 in
theorem ca_c4_44 : CallOK RX3 (.invokestatic 44) 0 D_X3_timeIn 3 := co_S mok_X3_timeIn (tin 4 80 (by decide +kernel) rfl) (tin 4 81 (by decide +kernel) rfl) (tin 1 24 (by decide +kernel) rfl)
set_option maxRecDepth 100000 in
theorem ca_c4_47 : CallOK RX3 (.invokestatic 47) 0 D_X3_zoneIn 3 := co_S mok_X3_zoneIn (tin 4 99 (by decide +kernel) rfl) (tin 4 100 (by decide +kernel) rfl) (tin 1 24 (by decide +kernel) rfl)
set_option maxRecDepth 100000 in
theorem ca_c4_60 : CallOK RX3 (.invokevirtual 60) 5 D_X1_size 1 := co_V (C := RX1) (T := TX1) (N := 2) (ci := 2) rfl mok_X1_size rfl (tin 4 49 (by decide +kernel) rfl) (tin 2 156 (by decide +kernel) rfl) (tin 2 157 (by decide +kernel) rfl) (tin 1 2 (by decide +kernel) rfl)
set_option maxRecDepth 100000 in
theorem ca_c4_64 : CallOK RX3 (.invokevirtual 64) 5 D_X1_byteAt 2 := co_V (C := RX1) (T := TX1) (N := 2) (ci := 2) rfl mok_X1_byteAt rfl (tin 4 50 (by decide +kernel) rfl) (tin 2 164 (by decide +kernel) rfl) (tin 2 165 (by decide +kernel) rfl) (tin 1 2 (by decide +kernel) rfl)
set_option maxRecDepth 100000 in
theorem ca_c4_68 : CallOK RX3 (.invokestatic 68) 0 D_X3_isBetween 1 := co_S mok_X3_isBetween (tin 4 51 (by decide +kernel) rfl) (tin 4 52 (by decide +kernel) rfl) (tin 1 24 (by decide +kernel) rfl)
set_option maxRecDepth 100000 in
theorem ca_c4_54 : CallOK RX3 (.invokestatic 54) 0 D_X9_isBlank 1 := co_S mok_X9_isBlank (tin 4 54 (by decide +kernel) rfl) (tin 4 21 (by decide +kernel) rfl) (tin 1 19 (by decide +kernel) rfl)
set_option maxRecDepth 100000 in
theorem ca_c4_71 : CallOK RX3 (.invokestatic 71) 0 D_X9_isLetter 1 := co_S mok_X9_isLetter (tin 4 61 (by decide +kernel) rfl) (tin 3 181 (by decide +kernel) rfl) (tin 1 19 (by decide +kernel) rfl)
set_option maxRecDepth 100000 in
theorem ca_c4_74 : CallOK RX3 (.invokestatic 74) 0 D_X3_isMonthAt 3 := co_S mok_X3_isMonthAt (tin 4 70 (by decide +kernel) rfl) (tin 4 71 (by decide +kernel) rfl) (tin 1 24 (by decide +kernel) rfl)
set_option maxRecDepth 100000 in
theorem ca_c4_79 : CallOK RX3 (.invokevirtual 79) 2 D_J0_length_8abf5 1 := co_X mok_J0_length_8abf5 rfl (tin 4 74 (by decide +kernel) rfl) (tin 3 203 (by decide +kernel) rfl) (tin 3 204 (by decide +kernel) rfl) (tin 1 20 (by decide +kernel) rfl)
set_option maxRecDepth 100000 in
theorem ca_c4_84 : CallOK RX3 (.invokestatic 84) 0 D_X9_small 1 := co_S mok_X9_small (tin 4 75 (by decide +kernel) rfl) (tin 3 218 (by decide +kernel) rfl) (tin 1 19 (by decide +kernel) rfl)
set_option maxRecDepth 100000 in
theorem ca_c4_87 : CallOK RX3 (.invokevirtual 87) 2 D_J0_charAt_5068e 2 := co_X mok_J0_charAt_5068e rfl (tin 4 76 (by decide +kernel) rfl) (tin 3 221 (by decide +kernel) rfl) (tin 3 222 (by decide +kernel) rfl) (tin 1 20 (by decide +kernel) rfl)
set_option maxRecDepth 100000 in
theorem ca_c4_91 : CallOK RX3 (.invokestatic 91) 0 D_X3_isBelow 2 := co_S mok_X3_isBelow (tin 4 83 (by decide +kernel) rfl) (tin 4 84 (by decide +kernel) rfl) (tin 1 24 (by decide +kernel) rfl)
set_option maxRecDepth 100000 in
theorem ca_c4_95 : CallOK RX3 (.invokestatic 95) 0 D_X3_hoursAndMinutes 3 := co_S mok_X3_hoursAndMinutes (tin 4 86 (by decide +kernel) rfl) (tin 4 87 (by decide +kernel) rfl) (tin 1 24 (by decide +kernel) rfl)
set_option maxRecDepth 100000 in
theorem ca_c5_26 : CallOK RX4 (.invokestatic 26) 0 D_J7_fill_53178 2 := co_S mok_J7_fill_53178 (tin 3 158 (by decide +kernel) rfl) (tin 3 159 (by decide +kernel) rfl) (tin 1 17 (by decide +kernel) rfl)
set_option maxRecDepth 100000 in
theorem ca_c5_35 : CallOK RX4 (.invokevirtual 35) 5 D_X1_lineStop 3 := co_V (C := RX1) (T := TX1) (N := 2) (ci := 2) rfl mok_X1_lineStop rfl (tin 3 161 (by decide +kernel) rfl) (tin 3 162 (by decide +kernel) rfl) (tin 3 163 (by decide +kernel) rfl) (tin 1 2 (by decide +kernel) rfl)
set_option maxRecDepth 100000 in
theorem ca_c5_41 : CallOK RX4 (.invokevirtual 41) 5 D_X1_lineEnd 4 := co_V (C := RX1) (T := TX1) (N := 2) (ci := 2) rfl mok_X1_lineEnd rfl (tin 3 165 (by decide +kernel) rfl) (tin 3 166 (by decide +kernel) rfl) (tin 3 167 (by decide +kernel) rfl) (tin 1 2 (by decide +kernel) rfl)
set_option maxRecDepth 100000 in
theorem ca_c5_50 : CallOK RX4 (.invokevirtual 50) 6 D_X4_colonOf 3 := co_V (C := RX4) (T := TX4) (N := 5) (ci := 3) rfl mok_X4_colonOf rfl (tin 3 172 (by decide +kernel) rfl) (tin 3 174 (by decide +kernel) rfl) (tinP (y := yX4_colonOf) (n := 5) 12 (by decide +kernel)) (tin 1 9 (by decide +kernel) rfl)
set_option maxRecDepth 100000 in
theorem ca_c5_53 : CallOK RX4 (.invokevirtual 53) 6 D_X4_nameOf 3 := co_V (C := RX4) (T := TX4) (N := 5) (ci := 3) rfl mok_X4_nameOf rfl (tin 3 186 (by decide +kernel) rfl) (tin 3 188 (by decide +kernel) rfl) (tinP (y := yX4_nameOf) (n := 5) 13 (by decide +kernel)) (tin 1 9 (by decide +kernel) rfl)
set_option maxRecDepth 100000 in
theorem ca_c5_56 : CallOK RX4 (.invokevirtual 56) 6 D_X4_startValue 3 := co_V (C := RX4) (T := TX4) (N := 5) (ci := 3) rfl mok_X4_startValue rfl (tin 4 16 (by decide +kernel) rfl) (tin 4 18 (by decide +kernel) rfl) (tinP (y := yX4_startValue) (n := 5) 14 (by decide +kernel)) (tin 1 9 (by decide +kernel) rfl)
set_option maxRecDepth 100000 in
theorem ca_c5_60 : CallOK RX4 (.invokevirtual 60) 5 D_X1_byteAt 2 := co_V (C := RX1) (T := TX1) (N := 2) (ci := 2) rfl mok_X1_byteAt rfl (tin 3 176 (by decide +kernel) rfl) (tin 2 164 (by decide +kernel) rfl) (tin 2 165 (by decide +kernel) rfl) (tin 1 2 (by decide +kernel) rfl)
set_option maxRecDepth 100000 in
theorem ca_c5_64 : CallOK RX4 (.invokestatic 64) 0 D_X9_isBlank 1 := co_S mok_X9_isBlank (tin 4 20 (by decide +kernel) rfl) (tin 4 21 (by decide +kernel) rfl) (tin 1 19 (by decide +kernel) rfl)
set_option maxRecDepth 100000 in
theorem ca_c5_70 : CallOK RX4 (.invokevirtual 70) 6 D_X4_stopValue 3 := co_V (C := RX4) (T := TX4) (N := 5) (ci := 3) rfl mok_X4_stopValue rfl (tin 4 23 (by decide +kernel) rfl) (tin 4 25 (by decide +kernel) rfl) (tinP (y := yX4_stopValue) (n := 5) 15 (by decide +kernel)) (tin 1 9 (by decide +kernel) rfl)
set_option maxRecDepth 100000 in
theorem ca_c5_87 : CallOK RX4 (.invokestatic 87) 0 D_X9_isOfName 1 := co_S mok_X9_isOfName (tin 3 177 (by decide +kernel) rfl) (tin 3 178 (by decide +kernel) rfl) (tin 1 19 (by decide +kernel) rfl)
set_option maxRecDepth 100000 in
theorem ca_c5_90 : CallOK RX4 (.invokestatic 90) 0 D_X4_nameText 1 := co_S mok_X4_nameText (tin 3 190 (by decide +kernel) rfl) (tin 3 191 (by decide +kernel) rfl) (tin 1 9 (by decide +kernel) rfl)
set_option maxRecDepth 100000 in
theorem ca_c5_94 : CallOK RX4 (.invokevirtual 94) 2 D_J0_length_8abf5 1 := co_X mok_J0_length_8abf5 rfl (tin 3 202 (by decide +kernel) rfl) (tin 3 203 (by decide +kernel) rfl) (tin 3 204 (by decide +kernel) rfl) (tin 1 20 (by decide +kernel) rfl)
set_option maxRecDepth 100000 in
theorem ca_c5_99 : CallOK RX4 (.invokevirtual 99) 5 D_X1_hasAt 4 := co_V (C := RX1) (T := TX1) (N := 2) (ci := 2) rfl mok_X1_hasAt rfl (tin 3 212 (by decide +kernel) rfl) (tin 3 213 (by decide +kernel) rfl) (tin 3 214 (by decide +kernel) rfl) (tin 1 2 (by decide +kernel) rfl)
set_option maxRecDepth 100000 in
theorem ca_c5_73 : CallOK RX4 (.invokevirtual 73) 5 D_X1_clear 1 := co_V (C := RX1) (T := TX1) (N := 2) (ci := 2) rfl mok_X1_clear rfl (tin 4 35 (by decide +kernel) rfl) (tin 2 84 (by decide +kernel) rfl) (tin 2 85 (by decide +kernel) rfl) (tin 1 2 (by decide +kernel) rfl)
set_option maxRecDepth 100000 in
theorem ca_c5_76 : CallOK RX4 (.invokevirtual 76) 5 D_X1_size 1 := co_V (C := RX1) (T := TX1) (N := 2) (ci := 2) rfl mok_X1_size rfl (tin 4 36 (by decide +kernel) rfl) (tin 2 156 (by decide +kernel) rfl) (tin 2 157 (by decide +kernel) rfl) (tin 1 2 (by decide +kernel) rfl)
set_option maxRecDepth 100000 in
theorem ca_c5_80 : CallOK RX4 (.invokevirtual 80) 5 D_X1_put 2 := co_V (C := RX1) (T := TX1) (N := 2) (ci := 2) rfl mok_X1_put rfl (tin 4 37 (by decide +kernel) rfl) (tin 2 92 (by decide +kernel) rfl) (tin 2 93 (by decide +kernel) rfl) (tin 1 2 (by decide +kernel) rfl)
set_option maxRecDepth 100000 in
theorem ca_c5_84 : CallOK RX4 (.invokevirtual 84) 5 D_X1_cutBlanksAtEnd 1 := co_V (C := RX1) (T := TX1) (N := 2) (ci := 2) rfl mok_X1_cutBlanksAtEnd rfl (tin 4 38 (by decide +kernel) rfl) (tin 4 39 (by decide +kernel) rfl) (tin 4 40 (by decide +kernel) rfl) (tin 1 2 (by decide +kernel) rfl)
set_option maxRecDepth 100000 in
theorem ca_c6_19 : CallOK RX5 (.invokevirtual 19) 5 D_X1_size 1 := co_V (C := RX1) (T := TX1) (N := 2) (ci := 2) rfl mok_X1_size rfl (tin 6 24 (by decide +kernel) rfl) (tin 2 156 (by decide +kernel) rfl) (tin 2 157 (by decide +kernel) rfl) (tin 1 2 (by decide +kernel) rfl)
set_option maxRecDepth 100000 in
theorem ca_c6_25 : CallOK RX5 (.invokevirtual 25) 5 D_X1_blanksOn 3 := co_V (C := RX1) (T := TX1) (N := 2) (ci := 2) rfl mok_X1_blanksOn rfl (tin 6 25 (by decide +kernel) rfl) (tin 4 203 (by decide +kernel) rfl) (tin 4 204 (by decide +kernel) rfl) (tin 1 2 (by decide +kernel) rfl)
set_option maxRecDepth 100000 in
theorem ca_c6_32 : CallOK RX5 (.invokevirtual 32) 5 D_X1_byteAt 2 := co_V (C := RX1) (T := TX1) (N := 2) (ci := 2) rfl mok_X1_byteAt rfl (tin 6 26 (by decide +kernel) rfl) (tin 2 164 (by decide +kernel) rfl) (tin 2 165 (by decide +kernel) rfl) (tin 1 2 (by decide +kernel) rfl)
set_option maxRecDepth 100000 in
theorem ca_c6_43 : CallOK RX5 (.invokevirtual 43) 7 D_X5_readPhrase 2 := co_V (C := RX5) (T := TX5) (N := 9) (ci := 4) rfl mok_X5_readPhrase rfl (tin 6 27 (by decide +kernel) rfl) (tin 6 29 (by decide +kernel) rfl) (tinP (y := yX5_readPhrase) (n := 9) 40 (by decide +kernel)) (tin 1 11 (by decide +kernel) rfl)
set_option maxRecDepth 100000 in
theorem ca_c6_46 : CallOK RX5 (.invokevirtual 46) 7 D_X5_readWord 1 := co_V (C := RX5) (T := TX5) (N := 9) (ci := 4) rfl mok_X5_readWord rfl (tin 6 32 (by decide +kernel) rfl) (tin 6 34 (by decide +kernel) rfl) (tinP (y := yX5_readWord) (n := 9) 41 (by decide +kernel)) (tin 1 11 (by decide +kernel) rfl)
set_option maxRecDepth 100000 in
theorem ca_c6_49 : CallOK RX5 (.invokevirtual 49) 5 D_X1_seek 4 := co_V (C := RX1) (T := TX1) (N := 2) (ci := 2) rfl mok_X1_seek rfl (tin 6 31 (by decide +kernel) rfl) (tin 4 107 (by decide +kernel) rfl) (tin 4 108 (by decide +kernel) rfl) (tin 1 2 (by decide +kernel) rfl)
set_option maxRecDepth 100000 in
theorem ca_c6_59 : CallOK RX5 (.invokevirtual 59) 7 D_X5_wordStop 1 := co_V (C := RX5) (T := TX5) (N := 9) (ci := 4) rfl mok_X5_wordStop rfl (tin 6 36 (by decide +kernel) rfl) (tin 6 38 (by decide +kernel) rfl) (tinP (y := yX5_wordStop) (n := 9) 42 (by decide +kernel)) (tin 1 11 (by decide +kernel) rfl)
set_option maxRecDepth 100000 in
theorem ca_c6_64 : CallOK RX5 (.invokevirtual 64) 5 D_X1_is 5 := co_V (C := RX1) (T := TX1) (N := 2) (ci := 2) rfl mok_X1_is rfl (tin 6 45 (by decide +kernel) rfl) (tin 4 237 (by decide +kernel) rfl) (tin 4 238 (by decide +kernel) rfl) (tin 1 2 (by decide +kernel) rfl)
set_option maxRecDepth 100000 in
theorem ca_c6_72 : CallOK RX5 (.invokevirtual 72) 7 D_X5_readField 1 := co_V (C := RX5) (T := TX5) (N := 9) (ci := 4) rfl mok_X5_readField rfl (tin 6 48 (by decide +kernel) rfl) (tin 6 50 (by decide +kernel) rfl) (tinP (y := yX5_readField) (n := 9) 43 (by decide +kernel)) (tin 1 11 (by decide +kernel) rfl)
set_option maxRecDepth 100000 in
theorem ca_c6_75 : CallOK RX5 (.invokevirtual 75) 5 D_X1_numberIn 3 := co_V (C := RX1) (T := TX1) (N := 2) (ci := 2) rfl mok_X1_numberIn rfl (tin 6 65 (by decide +kernel) rfl) (tin 4 63 (by decide +kernel) rfl) (tin 4 64 (by decide +kernel) rfl) (tin 1 2 (by decide +kernel) rfl)
set_option maxRecDepth 100000 in
theorem ca_c6_78 : CallOK RX5 (.invokevirtual 78) 7 D_X5_readDays 1 := co_V (C := RX5) (T := TX5) (N := 9) (ci := 4) rfl mok_X5_readDays rfl (tin 6 66 (by decide +kernel) rfl) (tin 6 68 (by decide +kernel) rfl) (tinP (y := yX5_readDays) (n := 9) 44 (by decide +kernel)) (tin 1 11 (by decide +kernel) rfl)
set_option maxRecDepth 100000 in
theorem ca_c6_82 : CallOK RX5 (.invokestatic 82) 0 D_X5_isSign 1 := co_S mok_X5_isSign (tin 6 40 (by decide +kernel) rfl) (tin 6 41 (by decide +kernel) rfl) (tin 1 11 (by decide +kernel) rfl)
set_option maxRecDepth 100000 in
theorem ca_c6_86 : CallOK RX5 (.invokestatic 86) 0 D_X9_isBlank 1 := co_S mok_X9_isBlank (tin 6 43 (by decide +kernel) rfl) (tin 4 21 (by decide +kernel) rfl) (tin 1 19 (by decide +kernel) rfl)
set_option maxRecDepth 100000 in
theorem ca_c6_91 : CallOK RX5 (.invokestatic 91) 0 D_X5_fieldText 1 := co_S mok_X5_fieldText (tin 6 52 (by decide +kernel) rfl) (tin 6 53 (by decide +kernel) rfl) (tin 1 11 (by decide +kernel) rfl)
set_option maxRecDepth 100000 in
theorem ca_c6_95 : CallOK RX5 (.invokevirtual 95) 5 D_X1_hasAt 4 := co_V (C := RX1) (T := TX1) (N := 2) (ci := 2) rfl mok_X1_hasAt rfl (tin 6 63 (by decide +kernel) rfl) (tin 3 213 (by decide +kernel) rfl) (tin 3 214 (by decide +kernel) rfl) (tin 1 2 (by decide +kernel) rfl)
set_option maxRecDepth 100000 in
theorem ca_c6_99 : CallOK RX5 (.invokevirtual 99) 2 D_J0_length_8abf5 1 := co_X mok_J0_length_8abf5 rfl (tin 6 64 (by decide +kernel) rfl) (tin 3 203 (by decide +kernel) rfl) (tin 3 204 (by decide +kernel) rfl) (tin 1 20 (by decide +kernel) rfl)
set_option maxRecDepth 100000 in
theorem ca_c6_109 : CallOK RX5 (.invokestatic 109) 0 D_X3_dayAt 2 := co_S mok_X3_dayAt (tin 6 72 (by decide +kernel) rfl) (tin 6 73 (by decide +kernel) rfl) (tin 1 24 (by decide +kernel) rfl)
set_option maxRecDepth 100000 in
theorem ca_c7_34 : CallOK RX6 (.invokevirtual 34) 8 D_X6_wordsIn 2 := co_V (C := RX6) (T := TX6) (N := 8) (ci := 5) rfl mok_X6_wordsIn rfl (tin 3 40 (by decide +kernel) rfl) (tin 3 25 (by decide +kernel) rfl) (tin 3 26 (by decide +kernel) rfl) (tin 1 27 (by decide +kernel) rfl)
set_option maxRecDepth 100000 in
theorem ca_c7_41 : CallOK RX6 (.invokevirtual 41) 8 D_X6_tagPlace 2 := co_V (C := RX6) (T := TX6) (N := 8) (ci := 5) rfl mok_X6_tagPlace rfl (tin 5 215 (by decide +kernel) rfl) (tin 5 217 (by decide +kernel) rfl) (tinP (y := yX6_tagPlace) (n := 8) 37 (by decide +kernel)) (tin 1 27 (by decide +kernel) rfl)
set_option maxRecDepth 100000 in
theorem ca_c7_44 : CallOK RX6 (.invokevirtual 44) 4 D_X0_isAhead 3 := co_V (C := RX0) (T := TX0) (N := 7) (ci := 1) rfl mok_X0_isAhead rfl (tin 5 229 (by decide +kernel) rfl) (tin 5 230 (by decide +kernel) rfl) (tin 5 231 (by decide +kernel) rfl) (tin 1 3 (by decide +kernel) rfl)
set_option maxRecDepth 100000 in
theorem ca_c8_11 : CallOK RX7 (.invokespecial 11) 1 D_X1_init 2 := co_I mok_X1_init rfl rfl (tin 1 144 (by decide +kernel) rfl) (tin 1 43 (by decide +kernel) rfl) (tin 1 2 (by decide +kernel) rfl)
set_option maxRecDepth 100000 in
theorem ca_c8_57 : CallOK RX7 (.invokespecial 57) 1 D_X4_init 2 := co_I mok_X4_init rfl rfl (tin 1 147 (by decide +kernel) rfl) (tin 1 148 (by decide +kernel) rfl) (tin 1 9 (by decide +kernel) rfl)
set_option maxRecDepth 100000 in
theorem ca_c8_64 : CallOK RX7 (.invokevirtual 64) 5 D_X1_size 1 := co_V (C := RX1) (T := TX1) (N := 2) (ci := 2) rfl mok_X1_size rfl (tin 3 153 (by decide +kernel) rfl) (tin 2 156 (by decide +kernel) rfl) (tin 2 157 (by decide +kernel) rfl) (tin 1 2 (by decide +kernel) rfl)
set_option maxRecDepth 100000 in
theorem ca_c8_68 : CallOK RX7 (.invokevirtual 68) 6 D_X4_readLines 3 := co_V (C := RX4) (T := TX4) (N := 5) (ci := 3) rfl mok_X4_readLines rfl (tin 3 154 (by decide +kernel) rfl) (tin 3 155 (by decide +kernel) rfl) (tin 3 156 (by decide +kernel) rfl) (tin 1 9 (by decide +kernel) rfl)
set_option maxRecDepth 100000 in
theorem ca_c8_72 : CallOK RX7 (.invokevirtual 72) 9 D_X7_readDate 1 := co_V (C := RX7) (T := TX7) (N := 15) (ci := 6) rfl mok_X7_readDate rfl (tin 4 27 (by decide +kernel) rfl) (tin 4 29 (by decide +kernel) rfl) (tinP (y := yX7_readDate) (n := 15) 16 (by decide +kernel)) (tin 1 8 (by decide +kernel) rfl)
set_option maxRecDepth 100000 in
theorem ca_c8_75 : CallOK RX7 (.invokevirtual 75) 9 D_X7_readId 1 := co_V (C := RX7) (T := TX7) (N := 15) (ci := 6) rfl mok_X7_readId rfl (tin 4 102 (by decide +kernel) rfl) (tin 4 104 (by decide +kernel) rfl) (tinP (y := yX7_readId) (n := 15) 17 (by decide +kernel)) (tin 1 8 (by decide +kernel) rfl)
set_option maxRecDepth 100000 in
theorem ca_c8_78 : CallOK RX7 (.invokevirtual 78) 9 D_X7_readReferences 1 := co_V (C := RX7) (T := TX7) (N := 15) (ci := 6) rfl mok_X7_readReferences rfl (tin 4 158 (by decide +kernel) rfl) (tin 4 160 (by decide +kernel) rfl) (tinP (y := yX7_readReferences) (n := 15) 20 (by decide +kernel)) (tin 1 8 (by decide +kernel) rfl)
set_option maxRecDepth 100000 in
theorem ca_c8_86 : CallOK RX7 (.invokevirtual 86) 6 D_X4_writeValue 3 := co_V (C := RX4) (T := TX4) (N := 5) (ci := 3) rfl mok_X4_writeValue rfl (tin 4 31 (by decide +kernel) rfl) (tin 4 32 (by decide +kernel) rfl) (tin 4 33 (by decide +kernel) rfl) (tin 1 9 (by decide +kernel) rfl)
set_option maxRecDepth 100000 in
theorem ca_c8_90 : CallOK RX7 (.invokevirtual 90) 5 D_X1_clear 1 := co_V (C := RX1) (T := TX1) (N := 2) (ci := 2) rfl mok_X1_clear rfl (tin 4 170 (by decide +kernel) rfl) (tin 2 84 (by decide +kernel) rfl) (tin 2 85 (by decide +kernel) rfl) (tin 1 2 (by decide +kernel) rfl)
set_option maxRecDepth 100000 in
theorem ca_c8_93 : CallOK RX7 (.invokestatic 93) 0 D_X2_encodedWords 2 := co_S mok_X2_encodedWords (tin 4 171 (by decide +kernel) rfl) (tin 4 172 (by decide +kernel) rfl) (tin 1 26 (by decide +kernel) rfl)
set_option maxRecDepth 100000 in
theorem ca_c8_99 : CallOK RX7 (.invokevirtual 99) 9 D_X7_takeWords 2 := co_V (C := RX7) (T := TX7) (N := 15) (ci := 6) rfl mok_X7_takeWords rfl (tin 4 206 (by decide +kernel) rfl) (tin 4 208 (by decide +kernel) rfl) (tinP (y := yX7_takeWords) (n := 15) 22 (by decide +kernel)) (tin 1 8 (by decide +kernel) rfl)
set_option maxRecDepth 100000 in
theorem ca_c8_102 : CallOK RX7 (.invokevirtual 102) 9 D_X7_writeText 1 := co_V (C := RX7) (T := TX7) (N := 15) (ci := 6) rfl mok_X7_writeText rfl (tin 4 218 (by decide +kernel) rfl) (tin 4 220 (by decide +kernel) rfl) (tinP (y := yX7_writeText) (n := 15) 23 (by decide +kernel)) (tin 1 8 (by decide +kernel) rfl)
set_option maxRecDepth 100000 in
theorem ca_c8_107 : CallOK RX7 (.invokestatic 107) 0 D_X7_firstOf 2 := co_S mok_X7_firstOf (tin 4 166 (by decide +kernel) rfl) (tin 4 167 (by decide +kernel) rfl) (tin 1 8 (by decide +kernel) rfl)
set_option maxRecDepth 100000 in
theorem ca_c8_111 : CallOK RX7 (.invokespecial 111) 1 D_X6_init 7 := co_I mok_X6_init rfl rfl (tin 5 45 (by decide +kernel) rfl) (tin 5 46 (by decide +kernel) rfl) (tin 1 27 (by decide +kernel) rfl)
set_option maxRecDepth 100000 in
theorem ca_c8_217 : CallOK RX7 (.invokestatic 217) 0 D_X3_minutes 1 := co_S mok_X3_minutes (tin 4 43 (by decide +kernel) rfl) (tin 4 44 (by decide +kernel) rfl) (tin 1 24 (by decide +kernel) rfl)
set_option maxRecDepth 100000 in
theorem ca_c8_143 : CallOK RX7 (.invokevirtual 143) 5 D_X1_seek 4 := co_V (C := RX1) (T := TX1) (N := 2) (ci := 2) rfl mok_X1_seek rfl (tin 4 106 (by decide +kernel) rfl) (tin 4 107 (by decide +kernel) rfl) (tin 4 108 (by decide +kernel) rfl) (tin 1 2 (by decide +kernel) rfl)
set_option maxRecDepth 100000 in
theorem ca_c8_223 : CallOK RX7 (.invokevirtual 223) 9 D_X7_isId 3 := co_V (C := RX7) (T := TX7) (N := 15) (ci := 6) rfl mok_X7_isId rfl (tin 4 110 (by decide +kernel) rfl) (tin 4 112 (by decide +kernel) rfl) (tinP (y := yX7_isId) (n := 15) 18 (by decide +kernel)) (tin 1 8 (by decide +kernel) rfl)
set_option maxRecDepth 100000 in
theorem ca_c8_118 : CallOK RX7 (.invokevirtual 118) 4 D_X0_enter 4 := co_V (C := RX0) (T := TX0) (N := 7) (ci := 1) rfl mok_X0_enter rfl (tin 4 116 (by decide +kernel) rfl) (tin 4 117 (by decide +kernel) rfl) (tin 4 118 (by decide +kernel) rfl) (tin 1 3 (by decide +kernel) rfl)
set_option maxRecDepth 100000 in
theorem ca_c8_206 : CallOK RX7 (.invokevirtual 206) 5 D_X1_byteAt 2 := co_V (C := RX1) (T := TX1) (N := 2) (ci := 2) rfl mok_X1_byteAt rfl (tin 4 114 (by decide +kernel) rfl) (tin 2 164 (by decide +kernel) rfl) (tin 2 165 (by decide +kernel) rfl) (tin 1 2 (by decide +kernel) rfl)
set_option maxRecDepth 100000 in
theorem ca_c8_235 : CallOK RX7 (.invokestatic 235) 0 D_X9_isBlank 1 := co_S mok_X9_isBlank (tin 4 115 (by decide +kernel) rfl) (tin 4 21 (by decide +kernel) rfl) (tin 1 19 (by decide +kernel) rfl)
set_option maxRecDepth 100000 in
theorem ca_c8_227 : CallOK RX7 (.invokevirtual 227) 9 D_X7_takeReferences 2 := co_V (C := RX7) (T := TX7) (N := 15) (ci := 6) rfl mok_X7_takeReferences rfl (tin 4 162 (by decide +kernel) rfl) (tin 4 164 (by decide +kernel) rfl) (tinP (y := yX7_takeReferences) (n := 15) 21 (by decide +kernel)) (tin 1 8 (by decide +kernel) rfl)
set_option maxRecDepth 100000 in
theorem ca_c8_230 : CallOK RX7 (.invokestatic 230) 0 D_J7_copyOf_59c91 2 := co_S mok_J7_copyOf_59c91 (tin 4 169 (by decide +kernel) rfl) (tin 4 151 (by decide +kernel) rfl) (tin 1 17 (by decide +kernel) rfl)
set_option maxRecDepth 100000 in
theorem ca_c8_114 : CallOK RX7 (.invokevirtual 114) 5 D_X1_nextWord 4 := co_V (C := RX1) (T := TX1) (N := 2) (ci := 2) rfl mok_X1_nextWord rfl (tin 4 210 (by decide +kernel) rfl) (tin 4 211 (by decide +kernel) rfl) (tin 4 212 (by decide +kernel) rfl) (tin 1 2 (by decide +kernel) rfl)
set_option maxRecDepth 100000 in
theorem ca_c8_127 : CallOK RX7 (.invokevirtual 127) 9 D_X7_putPart 4 := co_V (C := RX7) (T := TX7) (N := 15) (ci := 6) rfl mok_X7_putPart rfl (tin 4 222 (by decide +kernel) rfl) (tin 4 224 (by decide +kernel) rfl) (tinP (y := yX7_putPart) (n := 15) 24 (by decide +kernel)) (tin 1 8 (by decide +kernel) rfl)
set_option maxRecDepth 100000 in
theorem ca_c8_131 : CallOK RX7 (.invokevirtual 131) 9 D_X7_writePart 2 := co_V (C := RX7) (T := TX7) (N := 15) (ci := 6) rfl mok_X7_writePart rfl (tin 4 227 (by decide +kernel) rfl) (tin 4 229 (by decide +kernel) rfl) (tinP (y := yX7_writePart) (n := 15) 25 (by decide +kernel)) (tin 1 8 (by decide +kernel) rfl)
set_option maxRecDepth 100000 in
theorem ca_c8_134 : CallOK RX7 (.invokevirtual 134) 5 D_X1_put 2 := co_V (C := RX1) (T := TX1) (N := 2) (ci := 2) rfl mok_X1_put rfl (tin 5 42 (by decide +kernel) rfl) (tin 2 92 (by decide +kernel) rfl) (tin 2 93 (by decide +kernel) rfl) (tin 1 2 (by decide +kernel) rfl)
set_option maxRecDepth 100000 in
theorem ca_c8_147 : CallOK RX7 (.invokevirtual 147) 5 D_X1_blanksBack 3 := co_V (C := RX1) (T := TX1) (N := 2) (ci := 2) rfl mok_X1_blanksBack rfl (tin 4 231 (by decide +kernel) rfl) (tin 4 232 (by decide +kernel) rfl) (tin 4 233 (by decide +kernel) rfl) (tin 1 2 (by decide +kernel) rfl)
set_option maxRecDepth 100000 in
theorem ca_c8_152 : CallOK RX7 (.invokevirtual 152) 5 D_X1_is 5 := co_V (C := RX1) (T := TX1) (N := 2) (ci := 2) rfl mok_X1_is rfl (tin 4 236 (by decide +kernel) rfl) (tin 4 237 (by decide +kernel) rfl) (tin 4 238 (by decide +kernel) rfl) (tin 1 2 (by decide +kernel) rfl)
set_option maxRecDepth 100000 in
theorem ca_c8_156 : CallOK RX7 (.invokevirtual 156) 9 D_X7_writePlain 1 := co_V (C := RX7) (T := TX7) (N := 15) (ci := 6) rfl mok_X7_writePlain rfl (tin 5 1 (by decide +kernel) rfl) (tin 5 3 (by decide +kernel) rfl) (tinP (y := yX7_writePlain) (n := 15) 26 (by decide +kernel)) (tin 1 8 (by decide +kernel) rfl)
set_option maxRecDepth 100000 in
theorem ca_c8_161 : CallOK RX7 (.invokevirtual 161) 5 D_X1_hasAt 4 := co_V (C := RX1) (T := TX1) (N := 2) (ci := 2) rfl mok_X1_hasAt rfl (tin 5 16 (by decide +kernel) rfl) (tin 3 213 (by decide +kernel) rfl) (tin 3 214 (by decide +kernel) rfl) (tin 1 2 (by decide +kernel) rfl)
set_option maxRecDepth 100000 in
theorem ca_c8_165 : CallOK RX7 (.invokevirtual 165) 9 D_X7_readBoundary 2 := co_V (C := RX7) (T := TX7) (N := 15) (ci := 6) rfl mok_X7_readBoundary rfl (tin 5 17 (by decide +kernel) rfl) (tin 5 19 (by decide +kernel) rfl) (tinP (y := yX7_readBoundary) (n := 15) 27 (by decide +kernel)) (tin 1 8 (by decide +kernel) rfl)
set_option maxRecDepth 100000 in
theorem ca_c8_168 : CallOK RX7 (.invokevirtual 168) 9 D_X7_putParts 2 := co_V (C := RX7) (T := TX7) (N := 15) (ci := 6) rfl mok_X7_putParts rfl (tin 5 27 (by decide +kernel) rfl) (tin 5 29 (by decide +kernel) rfl) (tinP (y := yX7_putParts) (n := 15) 29 (by decide +kernel)) (tin 1 8 (by decide +kernel) rfl)
set_option maxRecDepth 100000 in
theorem ca_c8_171 : CallOK RX7 (.invokevirtual 171) 9 D_X7_turnParts 2 := co_V (C := RX7) (T := TX7) (N := 15) (ci := 6) rfl mok_X7_turnParts rfl (tin 5 38 (by decide +kernel) rfl) (tin 5 40 (by decide +kernel) rfl) (tinP (y := yX7_turnParts) (n := 15) 31 (by decide +kernel)) (tin 1 8 (by decide +kernel) rfl)
set_option maxRecDepth 100000 in
theorem ca_c8_182 : CallOK RX7 (.invokestatic 182) 0 D_X2_quoted 4 := co_S mok_X2_quoted (tin 5 6 (by decide +kernel) rfl) (tin 5 7 (by decide +kernel) rfl) (tin 1 26 (by decide +kernel) rfl)
set_option maxRecDepth 100000 in
theorem ca_c8_188 : CallOK RX7 (.invokestatic 188) 0 D_X2_base64 4 := co_S mok_X2_base64 (tin 5 13 (by decide +kernel) rfl) (tin 4 191 (by decide +kernel) rfl) (tin 1 26 (by decide +kernel) rfl)
set_option maxRecDepth 100000 in
theorem ca_c8_190 : CallOK RX7 (.invokevirtual 190) 5 D_X1_putAll 4 := co_V (C := RX1) (T := TX1) (N := 2) (ci := 2) rfl mok_X1_putAll rfl (tin 5 14 (by decide +kernel) rfl) (tin 2 160 (by decide +kernel) rfl) (tin 2 161 (by decide +kernel) rfl) (tin 1 2 (by decide +kernel) rfl)
set_option maxRecDepth 100000 in
theorem ca_c8_209 : CallOK RX7 (.invokevirtual 209) 5 D_X1_blanksOn 3 := co_V (C := RX1) (T := TX1) (N := 2) (ci := 2) rfl mok_X1_blanksOn rfl (tin 5 21 (by decide +kernel) rfl) (tin 4 203 (by decide +kernel) rfl) (tin 4 204 (by decide +kernel) rfl) (tin 1 2 (by decide +kernel) rfl)
set_option maxRecDepth 100000 in
theorem ca_c8_214 : CallOK RX7 (.invokevirtual 214) 9 D_X7_takeBoundary 3 := co_V (C := RX7) (T := TX7) (N := 15) (ci := 6) rfl mok_X7_takeBoundary rfl (tin 5 23 (by decide +kernel) rfl) (tin 5 25 (by decide +kernel) rfl) (tinP (y := yX7_takeBoundary) (n := 15) 28 (by decide +kernel)) (tin 1 8 (by decide +kernel) rfl)
set_option maxRecDepth 100000 in
theorem ca_c8_194 : CallOK RX7 (.invokevirtual 194) 5 D_X1_lineStop 3 := co_V (C := RX1) (T := TX1) (N := 2) (ci := 2) rfl mok_X1_lineStop rfl (tin 5 31 (by decide +kernel) rfl) (tin 3 162 (by decide +kernel) rfl) (tin 3 163 (by decide +kernel) rfl) (tin 1 2 (by decide +kernel) rfl)
set_option maxRecDepth 100000 in
theorem ca_c8_197 : CallOK RX7 (.invokevirtual 197) 9 D_X7_behindBoundary 2 := co_V (C := RX7) (T := TX7) (N := 15) (ci := 6) rfl mok_X7_behindBoundary rfl (tin 5 32 (by decide +kernel) rfl) (tin 5 34 (by decide +kernel) rfl) (tinP (y := yX7_behindBoundary) (n := 15) 30 (by decide +kernel)) (tin 1 8 (by decide +kernel) rfl)
set_option maxRecDepth 100000 in
theorem ca_c8_201 : CallOK RX7 (.invokevirtual 201) 5 D_X1_lineEnd 4 := co_V (C := RX1) (T := TX1) (N := 2) (ci := 2) rfl mok_X1_lineEnd rfl (tin 5 37 (by decide +kernel) rfl) (tin 3 166 (by decide +kernel) rfl) (tin 3 167 (by decide +kernel) rfl) (tin 1 2 (by decide +kernel) rfl)
set_option maxRecDepth 100000 in
theorem ca_c9_30 : CallOK RX8 (.invokespecial 30) 1 D_X1_init 2 := co_I mok_X1_init rfl rfl (tin 1 222 (by decide +kernel) rfl) (tin 1 43 (by decide +kernel) rfl) (tin 1 2 (by decide +kernel) rfl)
set_option maxRecDepth 100000 in
theorem ca_c9_60 : CallOK RX8 (.invokespecial 60) 1 D_X5_init 2 := co_I mok_X5_init rfl rfl (tin 1 225 (by decide +kernel) rfl) (tin 1 226 (by decide +kernel) rfl) (tin 1 11 (by decide +kernel) rfl)
set_option maxRecDepth 100000 in
theorem ca_c9_67 : CallOK RX8 (.invokevirtual 67) 3 D_Jx4a65c_size_8abf5 1 := co_V (C := RJx4a65c) (T := TJx4a65c) (N := 3) (ci := 0) rfl mok_Jx4a65c_size_8abf5 rfl (tin 6 6 (by decide +kernel) rfl) (tin 2 188 (by decide +kernel) rfl) (tin 2 189 (by decide +kernel) rfl) (tin 1 6 (by decide +kernel) rfl)
set_option maxRecDepth 100000 in
theorem ca_c9_81 : CallOK RX8 (.invokevirtual 81) 7 D_X5_restart 1 := co_V (C := RX5) (T := TX5) (N := 9) (ci := 4) rfl mok_X5_restart rfl (tin 6 7 (by decide +kernel) rfl) (tin 6 8 (by decide +kernel) rfl) (tin 6 9 (by decide +kernel) rfl) (tin 1 11 (by decide +kernel) rfl)
set_option maxRecDepth 100000 in
theorem ca_c9_84 : CallOK RX8 (.invokevirtual 84) 10 D_X8_startLevel 2 := co_V (C := RX8) (T := TX8) (N := 17) (ci := 7) rfl mok_X8_startLevel rfl (tin 6 11 (by decide +kernel) rfl) (tin 6 13 (by decide +kernel) rfl) (tinP (y := yX8_startLevel) (n := 17) 38 (by decide +kernel)) (tin 1 10 (by decide +kernel) rfl)
set_option maxRecDepth 100000 in
theorem ca_c9_87 : CallOK RX8 (.invokevirtual 87) 5 D_X1_size 1 := co_V (C := RX1) (T := TX1) (N := 2) (ci := 2) rfl mok_X1_size rfl (tin 6 19 (by decide +kernel) rfl) (tin 2 156 (by decide +kernel) rfl) (tin 2 157 (by decide +kernel) rfl) (tin 1 2 (by decide +kernel) rfl)
set_option maxRecDepth 100000 in
theorem ca_c9_88 : CallOK RX8 (.invokevirtual 88) 7 D_X5_next 1 := co_V (C := RX5) (T := TX5) (N := 9) (ci := 4) rfl mok_X5_next rfl (tin 6 20 (by decide +kernel) rfl) (tin 6 21 (by decide +kernel) rfl) (tin 6 22 (by decide +kernel) rfl) (tin 1 11 (by decide +kernel) rfl)
set_option maxRecDepth 100000 in
theorem ca_c9_91 : CallOK RX8 (.invokevirtual 91) 10 D_X8_canStand 4 := co_V (C := RX8) (T := TX8) (N := 17) (ci := 7) rfl mok_X8_canStand rfl (tin 6 77 (by decide +kernel) rfl) (tin 6 79 (by decide +kernel) rfl) (tinP (y := yX8_canStand) (n := 17) 45 (by decide +kernel)) (tin 1 10 (by decide +kernel) rfl)
set_option maxRecDepth 100000 in
theorem ca_c9_98 : CallOK RX8 (.invokevirtual 98) 10 D_X8_termSet 1 := co_V (C := RX8) (T := TX8) (N := 17) (ci := 7) rfl mok_X8_termSet rfl (tin 6 81 (by decide +kernel) rfl) (tin 6 83 (by decide +kernel) rfl) (tinP (y := yX8_termSet) (n := 17) 46 (by decide +kernel)) (tin 1 10 (by decide +kernel) rfl)
set_option maxRecDepth 100000 in
theorem ca_c9_102 : CallOK RX8 (.invokevirtual 102) 10 D_X8_join 2 := co_V (C := RX8) (T := TX8) (N := 17) (ci := 7) rfl mok_X8_join rfl (tin 6 121 (by decide +kernel) rfl) (tin 6 123 (by decide +kernel) rfl) (tinP (y := yX8_join) (n := 17) 52 (by decide +kernel)) (tin 1 10 (by decide +kernel) rfl)
set_option maxRecDepth 100000 in
theorem ca_c9_106 : CallOK RX8 (.invokevirtual 106) 10 D_X8_take 2 := co_V (C := RX8) (T := TX8) (N := 17) (ci := 7) rfl mok_X8_take rfl (tin 6 126 (by decide +kernel) rfl) (tin 6 128 (by decide +kernel) rfl) (tinP (y := yX8_take) (n := 17) 53 (by decide +kernel)) (tin 1 10 (by decide +kernel) rfl)
set_option maxRecDepth 100000 in
theorem ca_c9_121 : CallOK RX8 (.invokevirtual 121) 10 D_X8_isLevel 1 := co_V (C := RX8) (T := TX8) (N := 17) (ci := 7) rfl mok_X8_isLevel rfl (tin 6 15 (by decide +kernel) rfl) (tin 6 17 (by decide +kernel) rfl) (tinP (y := yX8_isLevel) (n := 17) 39 (by decide +kernel)) (tin 1 10 (by decide +kernel) rfl)
set_option maxRecDepth 100000 in
theorem ca_c9_136 : CallOK RX8 (.invokevirtual 136) 4 D_X0_find 4 := co_V (C := RX0) (T := TX0) (N := 7) (ci := 1) rfl mok_X0_find rfl (tin 6 85 (by decide +kernel) rfl) (tin 4 121 (by decide +kernel) rfl) (tin 4 122 (by decide +kernel) rfl) (tin 1 3 (by decide +kernel) rfl)
set_option maxRecDepth 100000 in
theorem ca_c9_142 : CallOK RX8 (.invokevirtual 142) 5 D_X1_numberIn 3 := co_V (C := RX1) (T := TX1) (N := 2) (ci := 2) rfl mok_X1_numberIn rfl (tin 6 86 (by decide +kernel) rfl) (tin 4 63 (by decide +kernel) rfl) (tin 4 64 (by decide +kernel) rfl) (tin 1 2 (by decide +kernel) rfl)
set_option maxRecDepth 100000 in
theorem ca_c9_146 : CallOK RX8 (.invokevirtual 146) 11 D_X10_freshen 1 := co_V (C := RX10) (T := TX10) (N := 7) (ci := 8) rfl mok_X10_freshen rfl (tin 6 87 (by decide +kernel) rfl) (tin 2 180 (by decide +kernel) rfl) (tin 2 181 (by decide +kernel) rfl) (tin 1 7 (by decide +kernel) rfl)
set_option maxRecDepth 100000 in
theorem ca_c9_151 : CallOK RX8 (.invokevirtual 151) 10 D_X8_readPhrase 1 := co_V (C := RX8) (T := TX8) (N := 17) (ci := 7) rfl mok_X8_readPhrase rfl (tin 6 88 (by decide +kernel) rfl) (tin 6 90 (by decide +kernel) rfl) (tinP (y := yX8_readPhrase) (n := 17) 47 (by decide +kernel)) (tin 1 10 (by decide +kernel) rfl)
set_option maxRecDepth 100000 in
theorem ca_c9_154 : CallOK RX8 (.invokevirtual 154) 3 D_Jx4a65c_get_915e3 2 := co_V (C := RJx4a65c) (T := TJx4a65c) (N := 3) (ci := 0) rfl mok_Jx4a65c_get_915e3 rfl (tin 6 95 (by decide +kernel) rfl) (tin 2 192 (by decide +kernel) rfl) (tin 2 193 (by decide +kernel) rfl) (tin 1 6 (by decide +kernel) rfl)
set_option maxRecDepth 100000 in
theorem ca_c9_160 : CallOK RX8 (.invokevirtual 160) 10 D_X8_isMatch 4 := co_V (C := RX8) (T := TX8) (N := 17) (ci := 7) rfl mok_X8_isMatch rfl (tin 6 97 (by decide +kernel) rfl) (tin 6 99 (by decide +kernel) rfl) (tinP (y := yX8_isMatch) (n := 17) 48 (by decide +kernel)) (tin 1 10 (by decide +kernel) rfl)
set_option maxRecDepth 100000 in
theorem ca_c11_36 : CallOK RX10 (.invokevirtual 36) 4 D_X0_entryCount 1 := co_V (C := RX0) (T := TX0) (N := 7) (ci := 1) rfl mok_X0_entryCount rfl (tin 2 183 (by decide +kernel) rfl) (tin 2 184 (by decide +kernel) rfl) (tin 2 185 (by decide +kernel) rfl) (tin 1 3 (by decide +kernel) rfl)
set_option maxRecDepth 100000 in
theorem ca_c11_42 : CallOK RX10 (.invokevirtual 42) 3 D_Jx4a65c_size_8abf5 1 := co_V (C := RJx4a65c) (T := TJx4a65c) (N := 3) (ci := 0) rfl mok_Jx4a65c_size_8abf5 rfl (tin 2 187 (by decide +kernel) rfl) (tin 2 188 (by decide +kernel) rfl) (tin 2 189 (by decide +kernel) rfl) (tin 1 6 (by decide +kernel) rfl)
set_option maxRecDepth 100000 in
theorem ca_c11_47 : CallOK RX10 (.invokevirtual 47) 3 D_Jx4a65c_get_915e3 2 := co_V (C := RJx4a65c) (T := TJx4a65c) (N := 3) (ci := 0) rfl mok_Jx4a65c_get_915e3 rfl (tin 2 191 (by decide +kernel) rfl) (tin 2 192 (by decide +kernel) rfl) (tin 2 193 (by decide +kernel) rfl) (tin 1 6 (by decide +kernel) rfl)
set_option maxRecDepth 100000 in
theorem ca_c11_53 : CallOK RX10 (.invokevirtual 53) 11 D_X10_nodeOf 3 := co_V (C := RX10) (T := TX10) (N := 7) (ci := 8) rfl mok_X10_nodeOf rfl (tin 2 206 (by decide +kernel) rfl) (tin 2 208 (by decide +kernel) rfl) (tinP (y := yX10_nodeOf) (n := 7) 1 (by decide +kernel)) (tin 1 7 (by decide +kernel) rfl)
set_option maxRecDepth 100000 in
theorem ca_c11_57 : CallOK RX10 (.invokevirtual 57) 11 D_X10_hangMessage 3 := co_V (C := RX10) (T := TX10) (N := 7) (ci := 8) rfl mok_X10_hangMessage rfl (tin 2 213 (by decide +kernel) rfl) (tin 2 215 (by decide +kernel) rfl) (tinP (y := yX10_hangMessage) (n := 7) 2 (by decide +kernel)) (tin 1 7 (by decide +kernel) rfl)
set_option maxRecDepth 100000 in
theorem ca_c11_61 : CallOK RX10 (.invokevirtual 61) 11 D_X10_rootOf 2 := co_V (C := RX10) (T := TX10) (N := 7) (ci := 8) rfl mok_X10_rootOf rfl (tin 2 225 (by decide +kernel) rfl) (tin 2 227 (by decide +kernel) rfl) (tinP (y := yX10_rootOf) (n := 7) 5 (by decide +kernel)) (tin 1 7 (by decide +kernel) rfl)
set_option maxRecDepth 100000 in
theorem ca_c11_65 : CallOK RX10 (.invokestatic 65) 0 D_X10_isNode 1 := co_S mok_X10_isNode (tin 2 210 (by decide +kernel) rfl) (tin 2 211 (by decide +kernel) rfl) (tin 1 7 (by decide +kernel) rfl)
set_option maxRecDepth 100000 in
theorem ca_c28_118 : CallOK RJx4a65c (.invokestatic 118) 0 D_J15_checkIndex_7cf53 2 := co_S mok_J15_checkIndex_7cf53 (tin 2 195 (by decide +kernel) rfl) (tin 2 196 (by decide +kernel) rfl) (tin 1 29 (by decide +kernel) rfl)
set_option maxRecDepth 100000 in
theorem ca_c28_123 : CallOK RJx4a65c (.invokevirtual 123) 3 D_Jx4a65c_elementData_915e3 2 := co_V (C := RJx4a65c) (T := TJx4a65c) (N := 3) (ci := 0) rfl mok_Jx4a65c_elementData_915e3 rfl (tin 2 201 (by decide +kernel) rfl) (tin 2 202 (by decide +kernel) rfl) (tin 2 203 (by decide +kernel) rfl) (tin 1 6 (by decide +kernel) rfl)
set_option maxRecDepth 100000 in
theorem ca_c32_105 : CallOK RJ15 (.invokestatic 105) 0 D_J3_checkIndex_8e157 3 := co_S mok_J3_checkIndex_8e157 (tin 2 198 (by decide +kernel) rfl) (tin 2 199 (by decide +kernel) rfl) (tin 1 22 (by decide +kernel) rfl)
set_option maxRecDepth 100000 in
theorem ca_c11_76 : CallOK RX10 (.invokevirtual 76) 11 D_X10_aboveOf 2 := co_V (C := RX10) (T := TX10) (N := 7) (ci := 8) rfl mok_X10_aboveOf rfl (tin 2 217 (by decide +kernel) rfl) (tin 2 219 (by decide +kernel) rfl) (tinP (y := yX10_aboveOf) (n := 7) 3 (by decide +kernel)) (tin 1 7 (by decide +kernel) rfl)
set_option maxRecDepth 100000 in
theorem ca_c11_85 : CallOK RX10 (.invokevirtual 85) 11 D_X10_hang 3 := co_V (C := RX10) (T := TX10) (N := 7) (ci := 8) rfl mok_X10_hang rfl (tin 2 221 (by decide +kernel) rfl) (tin 2 223 (by decide +kernel) rfl) (tinP (y := yX10_hang) (n := 7) 4 (by decide +kernel)) (tin 1 7 (by decide +kernel) rfl)
set_option maxRecDepth 100000 in
theorem ca_c9_202 : CallOK RX8 (.invokevirtual 202) 5 D_X1_byteAt 2 := co_V (C := RX1) (T := TX1) (N := 2) (ci := 2) rfl mok_X1_byteAt rfl (tin 6 92 (by decide +kernel) rfl) (tin 2 164 (by decide +kernel) rfl) (tin 2 165 (by decide +kernel) rfl) (tin 1 2 (by decide +kernel) rfl)
set_option maxRecDepth 100000 in
theorem ca_c9_211 : CallOK RX8 (.invokestatic 211) 0 D_X9_isOfWord 1 := co_S mok_X9_isOfWord (tin 6 93 (by decide +kernel) rfl) (tin 4 216 (by decide +kernel) rfl) (tin 1 19 (by decide +kernel) rfl)
set_option maxRecDepth 100000 in
theorem ca_c9_216 : CallOK RX8 (.invokevirtual 216) 5 D_X1_nextWord 4 := co_V (C := RX1) (T := TX1) (N := 2) (ci := 2) rfl mok_X1_nextWord rfl (tin 6 94 (by decide +kernel) rfl) (tin 4 211 (by decide +kernel) rfl) (tin 4 212 (by decide +kernel) rfl) (tin 1 2 (by decide +kernel) rfl)
set_option maxRecDepth 100000 in
theorem ca_c9_164 : CallOK RX8 (.invokevirtual 164) 8 D_X6_hasTag 2 := co_V (C := RX6) (T := TX6) (N := 8) (ci := 5) rfl mok_X6_hasTag rfl (tin 6 101 (by decide +kernel) rfl) (tin 5 212 (by decide +kernel) rfl) (tin 5 213 (by decide +kernel) rfl) (tin 1 27 (by decide +kernel) rfl)
set_option maxRecDepth 100000 in
theorem ca_c9_171 : CallOK RX8 (.invokevirtual 171) 11 D_X10_threadOf 2 := co_V (C := RX10) (T := TX10) (N := 7) (ci := 8) rfl mok_X10_threadOf rfl (tin 6 102 (by decide +kernel) rfl) (tin 2 237 (by decide +kernel) rfl) (tin 2 238 (by decide +kernel) rfl) (tin 1 7 (by decide +kernel) rfl)
set_option maxRecDepth 100000 in
theorem ca_c9_178 : CallOK RX8 (.invokevirtual 178) 10 D_X8_isInDays 2 := co_V (C := RX8) (T := TX8) (N := 17) (ci := 7) rfl mok_X8_isInDays rfl (tin 6 103 (by decide +kernel) rfl) (tin 6 105 (by decide +kernel) rfl) (tinP (y := yX8_isInDays) (n := 17) 49 (by decide +kernel)) (tin 1 10 (by decide +kernel) rfl)
set_option maxRecDepth 100000 in
theorem ca_c9_181 : CallOK RX8 (.invokevirtual 181) 10 D_X8_hasPhrase 3 := co_V (C := RX8) (T := TX8) (N := 17) (ci := 7) rfl mok_X8_hasPhrase rfl (tin 6 110 (by decide +kernel) rfl) (tin 6 112 (by decide +kernel) rfl) (tinP (y := yX8_hasPhrase) (n := 17) 50 (by decide +kernel)) (tin 1 10 (by decide +kernel) rfl)
set_option maxRecDepth 100000 in
theorem ca_c11_73 : CallOK RX10 (.invokevirtual 73) 11 D_X10_nodeAt 2 := co_V (C := RX10) (T := TX10) (N := 7) (ci := 8) rfl mok_X10_nodeAt rfl (tin 3 0 (by decide +kernel) rfl) (tin 3 2 (by decide +kernel) rfl) (tinP (y := yX10_nodeAt) (n := 7) 7 (by decide +kernel)) (tin 1 7 (by decide +kernel) rfl)
set_option maxRecDepth 100000 in
theorem ca_c9_187 : CallOK RX8 (.invokestatic 187) 0 D_J9_floorDiv_7cf53 2 := co_S mok_J9_floorDiv_7cf53 (tin 6 107 (by decide +kernel) rfl) (tin 6 108 (by decide +kernel) rfl) (tin 1 18 (by decide +kernel) rfl)
set_option maxRecDepth 100000 in
theorem ca_c9_220 : CallOK RX8 (.invokevirtual 220) 8 D_X6_wordsIn 2 := co_V (C := RX6) (T := TX6) (N := 8) (ci := 5) rfl mok_X6_wordsIn rfl (tin 6 114 (by decide +kernel) rfl) (tin 3 25 (by decide +kernel) rfl) (tin 3 26 (by decide +kernel) rfl) (tin 1 27 (by decide +kernel) rfl)
set_option maxRecDepth 100000 in
theorem ca_c9_223 : CallOK RX8 (.invokevirtual 223) 10 D_X8_standsAt 4 := co_V (C := RX8) (T := TX8) (N := 17) (ci := 7) rfl mok_X8_standsAt rfl (tin 6 115 (by decide +kernel) rfl) (tin 6 117 (by decide +kernel) rfl) (tinP (y := yX8_standsAt) (n := 17) 51 (by decide +kernel)) (tin 1 10 (by decide +kernel) rfl)
set_option maxRecDepth 100000 in
theorem ca_c9_226 : CallOK RX8 (.invokevirtual 226) 8 D_X6_wordAt 3 := co_V (C := RX6) (T := TX6) (N := 8) (ci := 5) rfl mok_X6_wordAt rfl (tin 6 119 (by decide +kernel) rfl) (tin 3 37 (by decide +kernel) rfl) (tin 3 38 (by decide +kernel) rfl) (tin 1 27 (by decide +kernel) rfl)
set_option maxRecDepth 100000 in
theorem ca_c9_229 : CallOK RX8 (.invokevirtual 229) 4 D_X0_begins 5 := co_V (C := RX0) (T := TX0) (N := 7) (ci := 1) rfl mok_X0_begins rfl (tin 6 120 (by decide +kernel) rfl) (tin 4 129 (by decide +kernel) rfl) (tin 4 130 (by decide +kernel) rfl) (tin 1 3 (by decide +kernel) rfl)
set_option maxRecDepth 100000 in
theorem ca_c9_112 : CallOK RX8 (.invokevirtual 112) 10 D_X8_levelSet 1 := co_V (C := RX8) (T := TX8) (N := 17) (ci := 7) rfl mok_X8_levelSet rfl (tin 6 130 (by decide +kernel) rfl) (tin 6 132 (by decide +kernel) rfl) (tinP (y := yX8_levelSet) (n := 17) 54 (by decide +kernel)) (tin 1 10 (by decide +kernel) rfl)
set_option maxRecDepth 100000 in
theorem ca_c9_115 : CallOK RX8 (.invokevirtual 115) 10 D_X8_startNextAll 1 := co_V (C := RX8) (T := TX8) (N := 17) (ci := 7) rfl mok_X8_startNextAll rfl (tin 6 134 (by decide +kernel) rfl) (tin 6 136 (by decide +kernel) rfl) (tinP (y := yX8_startNextAll) (n := 17) 55 (by decide +kernel)) (tin 1 10 (by decide +kernel) rfl)
set_option maxRecDepth 100000 in
theorem ca_c9_118 : CallOK RX8 (.invokevirtual 118) 10 D_X8_turn 1 := co_V (C := RX8) (T := TX8) (N := 17) (ci := 7) rfl mok_X8_turn rfl (tin 6 138 (by decide +kernel) rfl) (tin 6 140 (by decide +kernel) rfl) (tinP (y := yX8_turn) (n := 17) 56 (by decide +kernel)) (tin 1 10 (by decide +kernel) rfl)
set_option maxRecDepth 100000 in
theorem ca_c0_11 : CallOK RX11 (.invokespecial 11) 1 D_X1_init 2 := co_I mok_X1_init rfl rfl (tin 1 42 (by decide +kernel) rfl) (tin 1 43 (by decide +kernel) rfl) (tin 1 2 (by decide +kernel) rfl)
set_option maxRecDepth 100000 in
theorem ca_c0_26 : CallOK RX11 (.invokespecial 26) 1 D_X0_init 1 := co_IN (host := "MailArchive") mok_X0_init rfl rfl (tinN 1 56 (by decide +kernel) rfl) (tin 1 57 (by decide +kernel) rfl) (tin 1 3 (by decide +kernel) rfl)
set_option maxRecDepth 100000 in
theorem ca_c0_39 : CallOK RX11 (.invokespecial 39) 1 D_Jx4a65c_init_da8c8 1 := co_I mok_Jx4a65c_init_da8c8 rfl rfl (tin 1 85 (by decide +kernel) rfl) (tin 1 86 (by decide +kernel) rfl) (tin 1 6 (by decide +kernel) rfl)
set_option maxRecDepth 100000 in
theorem ca_c0_46 : CallOK RX11 (.invokespecial 46) 1 D_X10_init 3 := co_I mok_X10_init rfl rfl (tin 1 111 (by decide +kernel) rfl) (tin 1 112 (by decide +kernel) rfl) (tin 1 7 (by decide +kernel) rfl)
set_option maxRecDepth 100000 in
theorem ca_c0_55 : CallOK RX11 (.invokespecial 55) 1 D_X7_init 4 := co_I mok_X7_init rfl rfl (tin 1 139 (by decide +kernel) rfl) (tin 1 140 (by decide +kernel) rfl) (tin 1 8 (by decide +kernel) rfl)
set_option maxRecDepth 100000 in
theorem ca_c0_64 : CallOK RX11 (.invokespecial 64) 1 D_X8_init 7 := co_I mok_X8_init rfl rfl (tin 1 217 (by decide +kernel) rfl) (tin 1 218 (by decide +kernel) rfl) (tin 1 10 (by decide +kernel) rfl)
set_option maxRecDepth 100000 in
theorem ca_c0_81 : CallOK RX11 (.invokevirtual 81) 12 D_X11_makeReady 6 := co_V (C := RX11) (T := TX11) (N := 17) (ci := 9) rfl mok_X11_makeReady rfl (tin 2 79 (by decide +kernel) rfl) (tin 2 81 (by decide +kernel) rfl) (tinP (y := yX11_makeReady) (n := 17) 0 (by decide +kernel)) (tin 1 1 (by decide +kernel) rfl)
set_option maxRecDepth 100000 in
theorem ca_c28_1 : CallOK RJx4a65c (.invokespecial 1) 1 D_Jxc12de_init_da8c8 1 := co_I mok_Jxc12de_init_da8c8 rfl rfl (tin 1 88 (by decide +kernel) rfl) (tin 1 89 (by decide +kernel) rfl) (tin 1 5 (by decide +kernel) rfl)
set_option maxRecDepth 100000 in
theorem ca_c27_1 : CallOK RJxc12de (.invokespecial 1) 1 D_Jxa1e45_init_da8c8 1 := co_I mok_Jxa1e45_init_da8c8 rfl rfl (tin 1 91 (by decide +kernel) rfl) (tin 1 92 (by decide +kernel) rfl) (tin 1 4 (by decide +kernel) rfl)
set_option maxRecDepth 100000 in
theorem ca_c0_113 : CallOK RX11 (.invokevirtual 113) 5 D_X1_clear 1 := co_V (C := RX1) (T := TX1) (N := 2) (ci := 2) rfl mok_X1_clear rfl (tin 2 83 (by decide +kernel) rfl) (tin 2 84 (by decide +kernel) rfl) (tin 2 85 (by decide +kernel) rfl) (tin 1 2 (by decide +kernel) rfl)
set_option maxRecDepth 100000 in
theorem ca_c0_243 : CallOK RX11 (.invokevirtual 243) 5 D_X1_putNumber 2 := co_V (C := RX1) (T := TX1) (N := 2) (ci := 2) rfl mok_X1_putNumber rfl (tin 2 87 (by decide +kernel) rfl) (tin 2 88 (by decide +kernel) rfl) (tin 2 89 (by decide +kernel) rfl) (tin 1 2 (by decide +kernel) rfl)
set_option maxRecDepth 100000 in
theorem ca_c0_85 : CallOK RX11 (.invokevirtual 85) 5 D_X1_size 1 := co_V (C := RX1) (T := TX1) (N := 2) (ci := 2) rfl mok_X1_size rfl (tin 2 155 (by decide +kernel) rfl) (tin 2 156 (by decide +kernel) rfl) (tin 2 157 (by decide +kernel) rfl) (tin 1 2 (by decide +kernel) rfl)
set_option maxRecDepth 100000 in
theorem ca_c0_89 : CallOK RX11 (.invokevirtual 89) 5 D_X1_putAll 4 := co_V (C := RX1) (T := TX1) (N := 2) (ci := 2) rfl mok_X1_putAll rfl (tin 2 159 (by decide +kernel) rfl) (tin 2 160 (by decide +kernel) rfl) (tin 2 161 (by decide +kernel) rfl) (tin 1 2 (by decide +kernel) rfl)
set_option maxRecDepth 100000 in
theorem ca_c0_93 : CallOK RX11 (.invokevirtual 93) 3 D_Jx4a65c_size_8abf5 1 := co_V (C := RJx4a65c) (T := TJx4a65c) (N := 3) (ci := 0) rfl mok_Jx4a65c_size_8abf5 rfl (tin 2 233 (by decide +kernel) rfl) (tin 2 188 (by decide +kernel) rfl) (tin 2 189 (by decide +kernel) rfl) (tin 1 6 (by decide +kernel) rfl)
set_option maxRecDepth 100000 in
theorem ca_c0_105 : CallOK RX11 (.invokevirtual 105) 9 D_X7_read 2 := co_V (C := RX7) (T := TX7) (N := 15) (ci := 6) rfl mok_X7_read rfl (tin 3 149 (by decide +kernel) rfl) (tin 3 150 (by decide +kernel) rfl) (tin 3 151 (by decide +kernel) rfl) (tin 1 8 (by decide +kernel) rfl)
set_option maxRecDepth 100000 in
theorem ca_c0_109 : CallOK RX11 (.invokevirtual 109) 3 D_Jx4a65c_add_9ea2d 2 := co_V (C := RJx4a65c) (T := TJx4a65c) (N := 3) (ci := 0) rfl mok_Jx4a65c_add_9ea2d rfl (tin 5 85 (by decide +kernel) rfl) (tin 5 86 (by decide +kernel) rfl) (tin 5 87 (by decide +kernel) rfl) (tin 1 6 (by decide +kernel) rfl)
set_option maxRecDepth 100000 in
theorem ca_c0_116 : CallOK RX11 (.invokevirtual 116) 11 D_X10_spoil 1 := co_V (C := RX10) (T := TX10) (N := 7) (ci := 8) rfl mok_X10_spoil rfl (tin 5 140 (by decide +kernel) rfl) (tin 5 141 (by decide +kernel) rfl) (tin 5 142 (by decide +kernel) rfl) (tin 1 7 (by decide +kernel) rfl)
set_option maxRecDepth 100000 in
theorem ca_c28_131 : CallOK RJx4a65c (.invokevirtual 131) 3 D_Jx4a65c_add_72be8 4 := co_V (C := RJx4a65c) (T := TJx4a65c) (N := 3) (ci := 0) rfl mok_Jx4a65c_add_72be8 rfl (tin 5 89 (by decide +kernel) rfl) (tin 5 91 (by decide +kernel) rfl) (tinP (y := yJx4a65c_add_72be8) (n := 3) 32 (by decide +kernel)) (tin 1 6 (by decide +kernel) rfl)
set_option maxRecDepth 100000 in
theorem ca_c28_129 : CallOK RJx4a65c (.invokevirtual 129) 3 D_Jx4a65c_grow_d5877 1 := co_V (C := RJx4a65c) (T := TJx4a65c) (N := 3) (ci := 0) rfl mok_Jx4a65c_grow_d5877 rfl (tin 5 93 (by decide +kernel) rfl) (tin 5 95 (by decide +kernel) rfl) (tinP (y := yJx4a65c_grow_d5877) (n := 3) 33 (by decide +kernel)) (tin 1 6 (by decide +kernel) rfl)
set_option maxRecDepth 100000 in
theorem ca_c28_69 : CallOK RJx4a65c (.invokevirtual 69) 3 D_Jx4a65c_grow_92f84 2 := co_V (C := RJx4a65c) (T := TJx4a65c) (N := 3) (ci := 0) rfl mok_Jx4a65c_grow_92f84 rfl (tin 5 97 (by decide +kernel) rfl) (tin 5 99 (by decide +kernel) rfl) (tinP (y := yJx4a65c_grow_92f84) (n := 3) 34 (by decide +kernel)) (tin 1 6 (by decide +kernel) rfl)
set_option maxRecDepth 100000 in
theorem ca_c28_73 : CallOK RJx4a65c (.invokestatic 73) 0 D_J8_newLength_cabcc 3 := co_S mok_J8_newLength_cabcc (tin 5 101 (by decide +kernel) rfl) (tin 5 102 (by decide +kernel) rfl) (tin 1 28 (by decide +kernel) rfl)
set_option maxRecDepth 100000 in
theorem ca_c28_66 : CallOK RJx4a65c (.invokestatic 66) 0 D_J7_copyOf_1904c 2 := co_S mok_J7_copyOf_1904c (tin 5 111 (by decide +kernel) rfl) (tin 5 112 (by decide +kernel) rfl) (tin 1 17 (by decide +kernel) rfl)
set_option maxRecDepth 100000 in
theorem ca_c29_300 : CallOK RJ7 (.invokestatic 300) 0 D_J7_copyOf_6403c 3 := co_S mok_J7_copyOf_6403c (tin 5 132 (by decide +kernel) rfl) (tin 5 133 (by decide +kernel) rfl) (tin 1 17 (by decide +kernel) rfl)
set_option maxRecDepth 100000 in
theorem ca_c0_119 : CallOK RX11 (.invokevirtual 119) 12 D_X11_placeOf 2 := co_V (C := RX11) (T := TX11) (N := 17) (ci := 9) rfl mok_X11_placeOf rfl (tin 2 229 (by decide +kernel) rfl) (tin 2 231 (by decide +kernel) rfl) (tinP (y := yX11_placeOf) (n := 17) 6 (by decide +kernel)) (tin 1 1 (by decide +kernel) rfl)
set_option maxRecDepth 100000 in
theorem ca_c0_128 : CallOK RX11 (.invokevirtual 128) 3 D_Jx4a65c_remove_915e3 2 := co_V (C := RJx4a65c) (T := TJx4a65c) (N := 3) (ci := 0) rfl mok_Jx4a65c_remove_915e3 rfl (tin 5 168 (by decide +kernel) rfl) (tin 5 169 (by decide +kernel) rfl) (tin 5 170 (by decide +kernel) rfl) (tin 1 6 (by decide +kernel) rfl)
set_option maxRecDepth 100000 in
theorem ca_c0_144 : CallOK RX11 (.invokevirtual 144) 3 D_Jx4a65c_get_915e3 2 := co_V (C := RJx4a65c) (T := TJx4a65c) (N := 3) (ci := 0) rfl mok_Jx4a65c_get_915e3 rfl (tin 2 234 (by decide +kernel) rfl) (tin 2 192 (by decide +kernel) rfl) (tin 2 193 (by decide +kernel) rfl) (tin 1 6 (by decide +kernel) rfl)
set_option maxRecDepth 100000 in
theorem ca_c28_144 : CallOK RJx4a65c (.invokevirtual 144) 3 D_Jx4a65c_fastRemove_b59b0 3 := co_V (C := RJx4a65c) (T := TJx4a65c) (N := 3) (ci := 0) rfl mok_Jx4a65c_fastRemove_b59b0 rfl (tin 5 172 (by decide +kernel) rfl) (tin 5 174 (by decide +kernel) rfl) (tinP (y := yJx4a65c_fastRemove_b59b0) (n := 3) 35 (by decide +kernel)) (tin 1 6 (by decide +kernel) rfl)
set_option maxRecDepth 100000 in
theorem ca_c0_132 : CallOK RX11 (.invokevirtual 132) 12 D_X11_takeTape 1 := co_V (C := RX11) (T := TX11) (N := 17) (ci := 9) rfl mok_X11_takeTape rfl (tin 5 185 (by decide +kernel) rfl) (tin 5 187 (by decide +kernel) rfl) (tinP (y := yX11_takeTape) (n := 17) 36 (by decide +kernel)) (tin 1 1 (by decide +kernel) rfl)
set_option maxRecDepth 100000 in
theorem ca_c0_135 : CallOK RX11 (.invokestatic 135) 0 D_X11_isTag 1 := co_S mok_X11_isTag (tin 5 189 (by decide +kernel) rfl) (tin 5 190 (by decide +kernel) rfl) (tin 1 1 (by decide +kernel) rfl)
set_option maxRecDepth 100000 in
theorem ca_c0_149 : CallOK RX11 (.invokevirtual 149) 4 D_X0_find 4 := co_V (C := RX0) (T := TX0) (N := 7) (ci := 1) rfl mok_X0_find rfl (tin 5 210 (by decide +kernel) rfl) (tin 4 121 (by decide +kernel) rfl) (tin 4 122 (by decide +kernel) rfl) (tin 1 3 (by decide +kernel) rfl)
set_option maxRecDepth 100000 in
theorem ca_c0_153 : CallOK RX11 (.invokevirtual 153) 8 D_X6_hasTag 2 := co_V (C := RX6) (T := TX6) (N := 8) (ci := 5) rfl mok_X6_hasTag rfl (tin 5 211 (by decide +kernel) rfl) (tin 5 212 (by decide +kernel) rfl) (tin 5 213 (by decide +kernel) rfl) (tin 1 27 (by decide +kernel) rfl)
set_option maxRecDepth 100000 in
theorem ca_c0_157 : CallOK RX11 (.invokevirtual 157) 8 D_X6_dropTag 2 := co_V (C := RX6) (T := TX6) (N := 8) (ci := 5) rfl mok_X6_dropTag rfl (tin 5 219 (by decide +kernel) rfl) (tin 5 220 (by decide +kernel) rfl) (tin 5 221 (by decide +kernel) rfl) (tin 1 27 (by decide +kernel) rfl)
set_option maxRecDepth 100000 in
theorem ca_c0_165 : CallOK RX11 (.invokevirtual 165) 4 D_X0_enter 4 := co_V (C := RX0) (T := TX0) (N := 7) (ci := 1) rfl mok_X0_enter rfl (tin 5 224 (by decide +kernel) rfl) (tin 4 117 (by decide +kernel) rfl) (tin 4 118 (by decide +kernel) rfl) (tin 1 3 (by decide +kernel) rfl)
set_option maxRecDepth 100000 in
theorem ca_c0_168 : CallOK RX11 (.invokevirtual 168) 8 D_X6_putTag 3 := co_V (C := RX6) (T := TX6) (N := 8) (ci := 5) rfl mok_X6_putTag rfl (tin 5 225 (by decide +kernel) rfl) (tin 5 226 (by decide +kernel) rfl) (tin 5 227 (by decide +kernel) rfl) (tin 1 27 (by decide +kernel) rfl)
set_option maxRecDepth 100000 in
theorem ca_c0_249 : CallOK RX11 (.invokevirtual 249) 5 D_X1_byteAt 2 := co_V (C := RX1) (T := TX1) (N := 2) (ci := 2) rfl mok_X1_byteAt rfl (tin 5 192 (by decide +kernel) rfl) (tin 2 164 (by decide +kernel) rfl) (tin 2 165 (by decide +kernel) rfl) (tin 1 2 (by decide +kernel) rfl)
set_option maxRecDepth 100000 in
theorem ca_c0_252 : CallOK RX11 (.invokestatic 252) 0 D_X9_isDigit 1 := co_S mok_X9_isDigit (tin 5 193 (by decide +kernel) rfl) (tin 3 184 (by decide +kernel) rfl) (tin 1 19 (by decide +kernel) rfl)
set_option maxRecDepth 100000 in
theorem ca_c0_172 : CallOK RX11 (.invokevirtual 172) 10 D_X8_matches 1 := co_V (C := RX8) (T := TX8) (N := 17) (ci := 7) rfl mok_X8_matches rfl (tin 6 2 (by decide +kernel) rfl) (tin 6 3 (by decide +kernel) rfl) (tin 6 4 (by decide +kernel) rfl) (tin 1 10 (by decide +kernel) rfl)
set_option maxRecDepth 100000 in
theorem ca_c0_184 : CallOK RX11 (.invokevirtual 184) 12 D_X11_keepFound 2 := co_V (C := RX11) (T := TX11) (N := 17) (ci := 9) rfl mok_X11_keepFound rfl (tin 6 143 (by decide +kernel) rfl) (tin 6 145 (by decide +kernel) rfl) (tinP (y := yX11_keepFound) (n := 17) 57 (by decide +kernel)) (tin 1 1 (by decide +kernel) rfl)
set_option maxRecDepth 100000 in
theorem ca_c0_257 : CallOK RX11 (.invokevirtual 257) 12 D_X11_insertFound 2 := co_V (C := RX11) (T := TX11) (N := 17) (ci := 9) rfl mok_X11_insertFound rfl (tin 6 147 (by decide +kernel) rfl) (tin 6 149 (by decide +kernel) rfl) (tinP (y := yX11_insertFound) (n := 17) 58 (by decide +kernel)) (tin 1 1 (by decide +kernel) rfl)
set_option maxRecDepth 100000 in
theorem ca_c0_191 : CallOK RX11 (.invokevirtual 191) 11 D_X10_freshen 1 := co_V (C := RX10) (T := TX10) (N := 7) (ci := 8) rfl mok_X10_freshen rfl (tin 2 179 (by decide +kernel) rfl) (tin 2 180 (by decide +kernel) rfl) (tin 2 181 (by decide +kernel) rfl) (tin 1 7 (by decide +kernel) rfl)
set_option maxRecDepth 100000 in
theorem ca_c0_197 : CallOK RX11 (.invokevirtual 197) 11 D_X10_threadOf 2 := co_V (C := RX10) (T := TX10) (N := 7) (ci := 8) rfl mok_X10_threadOf rfl (tin 2 236 (by decide +kernel) rfl) (tin 2 237 (by decide +kernel) rfl) (tin 2 238 (by decide +kernel) rfl) (tin 1 7 (by decide +kernel) rfl)
set_option maxRecDepth 100000 in
theorem ca_c0_200 : CallOK RX11 (.invokevirtual 200) 12 D_X11_tellThread 2 := co_V (C := RX11) (T := TX11) (N := 17) (ci := 9) rfl mok_X11_tellThread rfl (tin 3 4 (by decide +kernel) rfl) (tin 3 6 (by decide +kernel) rfl) (tinP (y := yX11_tellThread) (n := 17) 8 (by decide +kernel)) (tin 1 1 (by decide +kernel) rfl)
set_option maxRecDepth 100000 in
theorem ca_c0_203 : CallOK RX11 (.invokevirtual 203) 11 D_X10_parentOf 2 := co_V (C := RX10) (T := TX10) (N := 7) (ci := 8) rfl mok_X10_parentOf rfl (tin 3 16 (by decide +kernel) rfl) (tin 3 17 (by decide +kernel) rfl) (tin 3 18 (by decide +kernel) rfl) (tin 1 7 (by decide +kernel) rfl)
set_option maxRecDepth 100000 in
theorem ca_c0_206 : CallOK RX11 (.invokevirtual 206) 11 D_X10_depthOf 2 := co_V (C := RX10) (T := TX10) (N := 7) (ci := 8) rfl mok_X10_depthOf rfl (tin 3 20 (by decide +kernel) rfl) (tin 3 21 (by decide +kernel) rfl) (tin 3 22 (by decide +kernel) rfl) (tin 1 7 (by decide +kernel) rfl)
set_option maxRecDepth 100000 in
theorem ca_c0_212 : CallOK RX11 (.invokevirtual 212) 8 D_X6_wordsIn 2 := co_V (C := RX6) (T := TX6) (N := 8) (ci := 5) rfl mok_X6_wordsIn rfl (tin 3 24 (by decide +kernel) rfl) (tin 3 25 (by decide +kernel) rfl) (tin 3 26 (by decide +kernel) rfl) (tin 1 27 (by decide +kernel) rfl)
set_option maxRecDepth 100000 in
theorem ca_c0_218 : CallOK RX11 (.invokevirtual 218) 4 D_X0_sizeOf 2 := co_V (C := RX0) (T := TX0) (N := 7) (ci := 1) rfl mok_X0_sizeOf rfl (tin 3 28 (by decide +kernel) rfl) (tin 3 29 (by decide +kernel) rfl) (tin 3 30 (by decide +kernel) rfl) (tin 1 3 (by decide +kernel) rfl)
set_option maxRecDepth 100000 in
theorem ca_c0_224 : CallOK RX11 (.invokevirtual 224) 8 D_X6_wordAt 3 := co_V (C := RX6) (T := TX6) (N := 8) (ci := 5) rfl mok_X6_wordAt rfl (tin 3 36 (by decide +kernel) rfl) (tin 3 37 (by decide +kernel) rfl) (tin 3 38 (by decide +kernel) rfl) (tin 1 27 (by decide +kernel) rfl)
set_option maxRecDepth 100000 in
theorem ca_c0_228 : CallOK RX11 (.invokevirtual 228) 4 D_X0_byteOf 3 := co_V (C := RX0) (T := TX0) (N := 7) (ci := 1) rfl mok_X0_byteOf rfl (tin 3 41 (by decide +kernel) rfl) (tin 3 42 (by decide +kernel) rfl) (tin 3 43 (by decide +kernel) rfl) (tin 1 3 (by decide +kernel) rfl)
set_option maxRecDepth 100000 in
theorem ca_c0_231 : CallOK RX11 (.invokevirtual 231) 8 D_X6_tagAt 2 := co_V (C := RX6) (T := TX6) (N := 8) (ci := 5) rfl mok_X6_tagAt rfl (tin 3 46 (by decide +kernel) rfl) (tin 3 47 (by decide +kernel) rfl) (tin 3 48 (by decide +kernel) rfl) (tin 1 27 (by decide +kernel) rfl)
set_option maxRecDepth 100000 in
theorem ca_c0_234 : CallOK RX11 (.invokevirtual 234) 8 D_X6_referenceAt 2 := co_V (C := RX6) (T := TX6) (N := 8) (ci := 5) rfl mok_X6_referenceAt rfl (tin 3 50 (by decide +kernel) rfl) (tin 3 51 (by decide +kernel) rfl) (tin 3 52 (by decide +kernel) rfl) (tin 1 27 (by decide +kernel) rfl)
set_option maxRecDepth 100000 in
theorem ca_c0_237 : CallOK RX11 (.invokevirtual 237) 12 D_X11_differentWords 1 := co_V (C := RX11) (T := TX11) (N := 17) (ci := 9) rfl mok_X11_differentWords rfl (tin 3 58 (by decide +kernel) rfl) (tin 3 60 (by decide +kernel) rfl) (tinP (y := yX11_differentWords) (n := 17) 9 (by decide +kernel)) (tin 1 1 (by decide +kernel) rfl)
set_option maxRecDepth 100000 in
theorem ca_c0_240 : CallOK RX11 (.invokevirtual 240) 12 D_X11_differentTags 1 := co_V (C := RX11) (T := TX11) (N := 17) (ci := 9) rfl mok_X11_differentTags rfl (tin 3 70 (by decide +kernel) rfl) (tin 3 72 (by decide +kernel) rfl) (tinP (y := yX11_differentTags) (n := 17) 10 (by decide +kernel)) (tin 1 1 (by decide +kernel) rfl)
set_option maxRecDepth 100000 in
theorem ca_c0_261 : CallOK RX11 (.invokevirtual 261) 4 D_X0_startRound 1 := co_V (C := RX0) (T := TX0) (N := 7) (ci := 1) rfl mok_X0_startRound rfl (tin 3 62 (by decide +kernel) rfl) (tin 3 63 (by decide +kernel) rfl) (tin 3 64 (by decide +kernel) rfl) (tin 1 3 (by decide +kernel) rfl)
set_option maxRecDepth 100000 in
theorem ca_c0_266 : CallOK RX11 (.invokevirtual 266) 4 D_X0_isNewInRound 2 := co_V (C := RX0) (T := TX0) (N := 7) (ci := 1) rfl mok_X0_isNewInRound rfl (tin 3 66 (by decide +kernel) rfl) (tin 3 67 (by decide +kernel) rfl) (tin 3 68 (by decide +kernel) rfl) (tin 1 3 (by decide +kernel) rfl)
set_option maxRecDepth 100000 in
theorem ca_c13_157 : CallOK RX12 (.invokestatic 157) 0 D_X12_small 1 := co_S mok_X12_small (tin 8 61 (by decide +kernel) rfl) (tin 8 62 (by decide +kernel) rfl) (tin 1 12 (by decide +kernel) rfl)
set_option maxRecDepth 100000 in
theorem ca_c13_161 : CallOK RX12 (.invokestatic 161) 0 D_X12_isDigit 1 := co_S mok_X12_isDigit (tin 7 168 (by decide +kernel) rfl) (tin 7 169 (by decide +kernel) rfl) (tin 1 12 (by decide +kernel) rfl)
set_option maxRecDepth 100000 in
theorem ca_c13_168 : CallOK RX12 (.invokestatic 168) 0 D_X12_isLetter 1 := co_S mok_X12_isLetter (tin 8 58 (by decide +kernel) rfl) (tin 8 59 (by decide +kernel) rfl) (tin 1 12 (by decide +kernel) rfl)
set_option maxRecDepth 100000 in
theorem ca_c13_174 : CallOK RX12 (.invokestatic 174) 0 D_X12_lineEnd 3 := co_S mok_X12_lineEnd (tin 8 45 (by decide +kernel) rfl) (tin 8 46 (by decide +kernel) rfl) (tin 1 12 (by decide +kernel) rfl)
set_option maxRecDepth 100000 in
theorem ca_c13_178 : CallOK RX12 (.invokestatic 178) 0 D_X12_textEnd 4 := co_S mok_X12_textEnd (tin 8 48 (by decide +kernel) rfl) (tin 8 49 (by decide +kernel) rfl) (tin 1 12 (by decide +kernel) rfl)
set_option maxRecDepth 100000 in
theorem ca_c13_182 : CallOK RX12 (.invokestatic 182) 0 D_X12_isBlank 1 := co_S mok_X12_isBlank (tin 7 187 (by decide +kernel) rfl) (tin 7 188 (by decide +kernel) rfl) (tin 1 12 (by decide +kernel) rfl)
set_option maxRecDepth 100000 in
theorem ca_c13_185 : CallOK RX12 (.invokevirtual 185) 13 D_X12_addValue 4 := co_V (C := RX12) (T := TX12) (N := 70) (ci := 10) rfl mok_X12_addValue rfl (tin 8 51 (by decide +kernel) rfl) (tin 8 53 (by decide +kernel) rfl) (tinP (y := yX12_addValue) (n := 70) 82 (by decide +kernel)) (tin 1 12 (by decide +kernel) rfl)
set_option maxRecDepth 100000 in
theorem ca_c13_189 : CallOK RX12 (.invokestatic 189) 0 D_X12_nameEnd 3 := co_S mok_X12_nameEnd (tin 8 55 (by decide +kernel) rfl) (tin 8 56 (by decide +kernel) rfl) (tin 1 12 (by decide +kernel) rfl)
set_option maxRecDepth 100000 in
theorem ca_c13_198 : CallOK RX12 (.invokestatic 198) 0 D_X12_same 6 := co_S mok_X12_same (tin 8 68 (by decide +kernel) rfl) (tin 8 69 (by decide +kernel) rfl) (tin 1 12 (by decide +kernel) rfl)
set_option maxRecDepth 100000 in
theorem ca_c13_205 : CallOK RX12 (.invokevirtual 205) 13 D_X12_trim 1 := co_V (C := RX12) (T := TX12) (N := 70) (ci := 10) rfl mok_X12_trim rfl (tin 8 71 (by decide +kernel) rfl) (tin 8 73 (by decide +kernel) rfl) (tinP (y := yX12_trim) (n := 70) 83 (by decide +kernel)) (tin 1 12 (by decide +kernel) rfl)
set_option maxRecDepth 100000 in
theorem ca_c13_208 : CallOK RX12 (.invokestatic 208) 0 D_X12_sixtyFour 1 := co_S mok_X12_sixtyFour (tin 8 95 (by decide +kernel) rfl) (tin 8 96 (by decide +kernel) rfl) (tin 1 12 (by decide +kernel) rfl)
set_option maxRecDepth 100000 in
theorem ca_c13_211 : CallOK RX12 (.invokevirtual 211) 13 D_X12_put 2 := co_V (C := RX12) (T := TX12) (N := 70) (ci := 10) rfl mok_X12_put rfl (tin 8 87 (by decide +kernel) rfl) (tin 8 89 (by decide +kernel) rfl) (tinP (y := yX12_put) (n := 70) 86 (by decide +kernel)) (tin 1 12 (by decide +kernel) rfl)
set_option maxRecDepth 100000 in
theorem ca_c13_215 : CallOK RX12 (.invokestatic 215) 0 D_X12_hexadecimal 1 := co_S mok_X12_hexadecimal (tin 8 102 (by decide +kernel) rfl) (tin 8 103 (by decide +kernel) rfl) (tin 1 12 (by decide +kernel) rfl)
set_option maxRecDepth 100000 in
theorem ca_c13_218 : CallOK RX12 (.invokevirtual 218) 13 D_X12_digits 5 := co_V (C := RX12) (T := TX12) (N := 70) (ci := 10) rfl mok_X12_digits rfl (tin 8 98 (by decide +kernel) rfl) (tin 8 100 (by decide +kernel) rfl) (tinP (y := yX12_digits) (n := 70) 88 (by decide +kernel)) (tin 1 12 (by decide +kernel) rfl)
set_option maxRecDepth 100000 in
theorem ca_c13_228 : CallOK RX12 (.invokevirtual 228) 13 D_X12_encodedEnd 2 := co_V (C := RX12) (T := TX12) (N := 70) (ci := 10) rfl mok_X12_encodedEnd rfl (tin 8 79 (by decide +kernel) rfl) (tin 8 81 (by decide +kernel) rfl) (tinP (y := yX12_encodedEnd) (n := 70) 85 (by decide +kernel)) (tin 1 12 (by decide +kernel) rfl)
set_option maxRecDepth 100000 in
theorem ca_c13_231 : CallOK RX12 (.invokevirtual 231) 13 D_X12_base 4 := co_V (C := RX12) (T := TX12) (N := 70) (ci := 10) rfl mok_X12_base rfl (tin 8 91 (by decide +kernel) rfl) (tin 8 93 (by decide +kernel) rfl) (tinP (y := yX12_base) (n := 70) 87 (by decide +kernel)) (tin 1 12 (by decide +kernel) rfl)
set_option maxRecDepth 100000 in
theorem ca_c13_243 : CallOK RX12 (.invokevirtual 243) 13 D_X12_mark 3 := co_V (C := RX12) (T := TX12) (N := 70) (ci := 10) rfl mok_X12_mark rfl (tin 8 139 (by decide +kernel) rfl) (tin 8 141 (by decide +kernel) rfl) (tinP (y := yX12_mark) (n := 70) 95 (by decide +kernel)) (tin 1 12 (by decide +kernel) rfl)
set_option maxRecDepth 100000 in
theorem ca_c13_247 : CallOK RX12 (.invokevirtual 247) 13 D_X12_addPart 3 := co_V (C := RX12) (T := TX12) (N := 70) (ci := 10) rfl mok_X12_addPart rfl (tin 8 143 (by decide +kernel) rfl) (tin 8 145 (by decide +kernel) rfl) (tinP (y := yX12_addPart) (n := 70) 96 (by decide +kernel)) (tin 1 12 (by decide +kernel) rfl)
set_option maxRecDepth 100000 in
theorem ca_c13_254 : CallOK RX12 (.invokevirtual 254) 13 D_X12_field 4 := co_V (C := RX12) (T := TX12) (N := 70) (ci := 10) rfl mok_X12_field rfl (tin 8 41 (by decide +kernel) rfl) (tin 8 43 (by decide +kernel) rfl) (tinP (y := yX12_field) (n := 70) 81 (by decide +kernel)) (tin 1 12 (by decide +kernel) rfl)
set_option maxRecDepth 100000 in
theorem ca_c13_261 : CallOK RX12 (.invokevirtual 261) 13 D_X12_isContent 4 := co_V (C := RX12) (T := TX12) (N := 70) (ci := 10) rfl mok_X12_isContent rfl (tin 8 125 (by decide +kernel) rfl) (tin 8 127 (by decide +kernel) rfl) (tinP (y := yX12_isContent) (n := 70) 92 (by decide +kernel)) (tin 1 12 (by decide +kernel) rfl)
set_option maxRecDepth 100000 in
theorem ca_c13_265 : CallOK RX12 (.invokevirtual 265) 13 D_X12_findBoundary 2 := co_V (C := RX12) (T := TX12) (N := 70) (ci := 10) rfl mok_X12_findBoundary rfl (tin 8 129 (by decide +kernel) rfl) (tin 8 131 (by decide +kernel) rfl) (tinP (y := yX12_findBoundary) (n := 70) 93 (by decide +kernel)) (tin 1 12 (by decide +kernel) rfl)
set_option maxRecDepth 100000 in
theorem ca_c13_268 : CallOK RX12 (.invokevirtual 268) 13 D_X12_findParts 3 := co_V (C := RX12) (T := TX12) (N := 70) (ci := 10) rfl mok_X12_findParts rfl (tin 8 135 (by decide +kernel) rfl) (tin 8 137 (by decide +kernel) rfl) (tinP (y := yX12_findParts) (n := 70) 94 (by decide +kernel)) (tin 1 12 (by decide +kernel) rfl)
set_option maxRecDepth 100000 in
theorem ca_c13_271 : CallOK RX12 (.invokevirtual 271) 13 D_X12_push 4 := co_V (C := RX12) (T := TX12) (N := 70) (ci := 10) rfl mok_X12_push rfl (tin 8 115 (by decide +kernel) rfl) (tin 8 117 (by decide +kernel) rfl) (tinP (y := yX12_push) (n := 70) 90 (by decide +kernel)) (tin 1 12 (by decide +kernel) rfl)
set_option maxRecDepth 100000 in
theorem ca_c13_281 : CallOK RX12 (.invokevirtual 281) 13 D_X12_quoted 3 := co_V (C := RX12) (T := TX12) (N := 70) (ci := 10) rfl mok_X12_quoted rfl (tin 8 151 (by decide +kernel) rfl) (tin 8 153 (by decide +kernel) rfl) (tinP (y := yX12_quoted) (n := 70) 97 (by decide +kernel)) (tin 1 12 (by decide +kernel) rfl)
set_option maxRecDepth 100000 in
theorem ca_c13_287 : CallOK RX12 (.invokevirtual 287) 13 D_X12_readBody 4 := co_V (C := RX12) (T := TX12) (N := 70) (ci := 10) rfl mok_X12_readBody rfl (tin 8 119 (by decide +kernel) rfl) (tin 8 121 (by decide +kernel) rfl) (tinP (y := yX12_readBody) (n := 70) 91 (by decide +kernel)) (tin 1 12 (by decide +kernel) rfl)
set_option maxRecDepth 100000 in
theorem ca_c13_290 : CallOK RX12 (.invokestatic 290) 0 D_X12_isWord 1 := co_S mok_X12_isWord (tin 8 108 (by decide +kernel) rfl) (tin 8 109 (by decide +kernel) rfl) (tin 1 12 (by decide +kernel) rfl)
set_option maxRecDepth 100000 in
theorem ca_c13_293 : CallOK RX12 (.invokevirtual 293) 13 D_X12_readEncoded 1 := co_V (C := RX12) (T := TX12) (N := 70) (ci := 10) rfl mok_X12_readEncoded rfl (tin 8 75 (by decide +kernel) rfl) (tin 8 77 (by decide +kernel) rfl) (tinP (y := yX12_readEncoded) (n := 70) 84 (by decide +kernel)) (tin 1 12 (by decide +kernel) rfl)
set_option maxRecDepth 100000 in
theorem ca_c13_296 : CallOK RX12 (.invokestatic 296) 0 D_X12_split 7 := co_S mok_X12_split (tin 8 105 (by decide +kernel) rfl) (tin 8 106 (by decide +kernel) rfl) (tin 1 12 (by decide +kernel) rfl)
set_option maxRecDepth 100000 in
theorem ca_c13_300 : CallOK RX12 (.invokestatic 300) 0 D_X12_isLeap 1 := co_S mok_X12_isLeap (tin 8 17 (by decide +kernel) rfl) (tin 8 18 (by decide +kernel) rfl) (tin 1 12 (by decide +kernel) rfl)
set_option maxRecDepth 100000 in
theorem ca_c13_305 : CallOK RX12 (.invokestatic 305) 0 D_X12_monthDays 2 := co_S mok_X12_monthDays (tin 8 14 (by decide +kernel) rfl) (tin 8 15 (by decide +kernel) rfl) (tin 1 12 (by decide +kernel) rfl)
set_option maxRecDepth 100000 in
theorem ca_c13_314 : CallOK RX12 (.invokevirtual 314) 13 D_X12_number 3 := co_V (C := RX12) (T := TX12) (N := 70) (ci := 10) rfl mok_X12_number rfl (tin 8 165 (by decide +kernel) rfl) (tin 8 167 (by decide +kernel) rfl) (tinP (y := yX12_number) (n := 70) 100 (by decide +kernel)) (tin 1 12 (by decide +kernel) rfl)
set_option maxRecDepth 100000 in
theorem ca_c13_317 : CallOK RX12 (.invokevirtual 317) 13 D_X12_dateWord 1 := co_V (C := RX12) (T := TX12) (N := 70) (ci := 10) rfl mok_X12_dateWord rfl (tin 8 161 (by decide +kernel) rfl) (tin 8 163 (by decide +kernel) rfl) (tinP (y := yX12_dateWord) (n := 70) 99 (by decide +kernel)) (tin 1 12 (by decide +kernel) rfl)
set_option maxRecDepth 100000 in
theorem ca_c13_321 : CallOK RX12 (.invokevirtual 321) 13 D_X12_month 3 := co_V (C := RX12) (T := TX12) (N := 70) (ci := 10) rfl mok_X12_month rfl (tin 8 169 (by decide +kernel) rfl) (tin 8 171 (by decide +kernel) rfl) (tinP (y := yX12_month) (n := 70) 101 (by decide +kernel)) (tin 1 12 (by decide +kernel) rfl)
set_option maxRecDepth 100000 in
theorem ca_c13_324 : CallOK RX12 (.invokevirtual 324) 13 D_X12_clock 3 := co_V (C := RX12) (T := TX12) (N := 70) (ci := 10) rfl mok_X12_clock rfl (tin 8 175 (by decide +kernel) rfl) (tin 8 177 (by decide +kernel) rfl) (tinP (y := yX12_clock) (n := 70) 102 (by decide +kernel)) (tin 1 12 (by decide +kernel) rfl)
set_option maxRecDepth 100000 in
theorem ca_c13_327 : CallOK RX12 (.invokevirtual 327) 13 D_X12_zone 3 := co_V (C := RX12) (T := TX12) (N := 70) (ci := 10) rfl mok_X12_zone rfl (tin 8 179 (by decide +kernel) rfl) (tin 8 181 (by decide +kernel) rfl) (tinP (y := yX12_zone) (n := 70) 103 (by decide +kernel)) (tin 1 12 (by decide +kernel) rfl)
set_option maxRecDepth 100000 in
theorem ca_c13_332 : CallOK RX12 (.invokestatic 332) 0 D_X12_days 3 := co_S mok_X12_days (tin 8 20 (by decide +kernel) rfl) (tin 8 21 (by decide +kernel) rfl) (tin 1 12 (by decide +kernel) rfl)
set_option maxRecDepth 100000 in
theorem ca_c13_339 : CallOK RX12 (.invokevirtual 339) 13 D_X12_angle 2 := co_V (C := RX12) (T := TX12) (N := 70) (ci := 10) rfl mok_X12_angle rfl (tin 8 183 (by decide +kernel) rfl) (tin 8 185 (by decide +kernel) rfl) (tinP (y := yX12_angle) (n := 70) 104 (by decide +kernel)) (tin 1 12 (by decide +kernel) rfl)
set_option maxRecDepth 100000 in
theorem ca_c13_342 : CallOK RX12 (.invokevirtual 342) 13 D_X12_isId 3 := co_V (C := RX12) (T := TX12) (N := 70) (ci := 10) rfl mok_X12_isId rfl (tin 8 187 (by decide +kernel) rfl) (tin 8 189 (by decide +kernel) rfl) (tinP (y := yX12_isId) (n := 70) 105 (by decide +kernel)) (tin 1 12 (by decide +kernel) rfl)
set_option maxRecDepth 100000 in
theorem ca_c13_346 : CallOK RX12 (.invokevirtual 346) 13 D_X12_refer 3 := co_V (C := RX12) (T := TX12) (N := 70) (ci := 10) rfl mok_X12_refer rfl (tin 8 195 (by decide +kernel) rfl) (tin 8 197 (by decide +kernel) rfl) (tinP (y := yX12_refer) (n := 70) 107 (by decide +kernel)) (tin 1 12 (by decide +kernel) rfl)
set_option maxRecDepth 100000 in
theorem ca_c13_349 : CallOK RX12 (.invokevirtual 349) 13 D_X12_readField 5 := co_V (C := RX12) (T := TX12) (N := 70) (ci := 10) rfl mok_X12_readField rfl (tin 8 37 (by decide +kernel) rfl) (tin 8 39 (by decide +kernel) rfl) (tinP (y := yX12_readField) (n := 70) 80 (by decide +kernel)) (tin 1 12 (by decide +kernel) rfl)
set_option maxRecDepth 100000 in
theorem ca_c13_353 : CallOK RX12 (.invokevirtual 353) 13 D_X12_readText 3 := co_V (C := RX12) (T := TX12) (N := 70) (ci := 10) rfl mok_X12_readText rfl (tin 8 111 (by decide +kernel) rfl) (tin 8 113 (by decide +kernel) rfl) (tinP (y := yX12_readText) (n := 70) 89 (by decide +kernel)) (tin 1 12 (by decide +kernel) rfl)
set_option maxRecDepth 100000 in
theorem ca_c13_356 : CallOK RX12 (.invokevirtual 356) 13 D_X12_dateOf 1 := co_V (C := RX12) (T := TX12) (N := 70) (ci := 10) rfl mok_X12_dateOf rfl (tin 8 157 (by decide +kernel) rfl) (tin 8 159 (by decide +kernel) rfl) (tinP (y := yX12_dateOf) (n := 70) 98 (by decide +kernel)) (tin 1 12 (by decide +kernel) rfl)
set_option maxRecDepth 100000 in
theorem ca_c13_367 : CallOK RX12 (.invokevirtual 367) 13 D_X12_readReferences 2 := co_V (C := RX12) (T := TX12) (N := 70) (ci := 10) rfl mok_X12_readReferences rfl (tin 8 191 (by decide +kernel) rfl) (tin 8 193 (by decide +kernel) rfl) (tinP (y := yX12_readReferences) (n := 70) 106 (by decide +kernel)) (tin 1 12 (by decide +kernel) rfl)
set_option maxRecDepth 100000 in
theorem ca_c13_373 : CallOK RX12 (.invokevirtual 373) 13 D_X12_read 2 := co_V (C := RX12) (T := TX12) (N := 70) (ci := 10) rfl mok_X12_read rfl (tin 8 33 (by decide +kernel) rfl) (tin 8 35 (by decide +kernel) rfl) (tinP (y := yX12_read) (n := 70) 79 (by decide +kernel)) (tin 1 12 (by decide +kernel) rfl)
set_option maxRecDepth 100000 in
theorem ca_c13_376 : CallOK RX12 (.invokevirtual 376) 13 D_X12_node 4 := co_V (C := RX12) (T := TX12) (N := 70) (ci := 10) rfl mok_X12_node rfl (tin 8 199 (by decide +kernel) rfl) (tin 8 201 (by decide +kernel) rfl) (tinP (y := yX12_node) (n := 70) 108 (by decide +kernel)) (tin 1 12 (by decide +kernel) rfl)
set_option maxRecDepth 100000 in
theorem ca_c13_379 : CallOK RX12 (.invokevirtual 379) 13 D_X12_isUnder 3 := co_V (C := RX12) (T := TX12) (N := 70) (ci := 10) rfl mok_X12_isUnder rfl (tin 8 203 (by decide +kernel) rfl) (tin 8 205 (by decide +kernel) rfl) (tinP (y := yX12_isUnder) (n := 70) 109 (by decide +kernel)) (tin 1 12 (by decide +kernel) rfl)
set_option maxRecDepth 100000 in
theorem ca_c13_385 : CallOK RX12 (.invokevirtual 385) 13 D_X12_hang 2 := co_V (C := RX12) (T := TX12) (N := 70) (ci := 10) rfl mok_X12_hang rfl (tin 8 29 (by decide +kernel) rfl) (tin 8 31 (by decide +kernel) rfl) (tinP (y := yX12_hang) (n := 70) 78 (by decide +kernel)) (tin 1 12 (by decide +kernel) rfl)
set_option maxRecDepth 100000 in
theorem ca_c13_388 : CallOK RX12 (.invokevirtual 388) 13 D_X12_root 2 := co_V (C := RX12) (T := TX12) (N := 70) (ci := 10) rfl mok_X12_root rfl (tin 8 223 (by decide +kernel) rfl) (tin 8 225 (by decide +kernel) rfl) (tinP (y := yX12_root) (n := 70) 114 (by decide +kernel)) (tin 1 12 (by decide +kernel) rfl)
set_option maxRecDepth 100000 in
theorem ca_c13_409 : CallOK RX12 (.invokevirtual 409) 13 D_X12_done 2 := co_V (C := RX12) (T := TX12) (N := 70) (ci := 10) rfl mok_X12_done rfl (tin 7 209 (by decide +kernel) rfl) (tin 7 211 (by decide +kernel) rfl) (tinP (y := yX12_done) (n := 70) 68 (by decide +kernel)) (tin 1 12 (by decide +kernel) rfl)
set_option maxRecDepth 100000 in
theorem ca_c13_423 : CallOK RX12 (.invokevirtual 423) 13 D_X12_day 2 := co_V (C := RX12) (T := TX12) (N := 70) (ci := 10) rfl mok_X12_day rfl (tin 8 9 (by decide +kernel) rfl) (tin 8 11 (by decide +kernel) rfl) (tinP (y := yX12_day) (n := 70) 76 (by decide +kernel)) (tin 1 12 (by decide +kernel) rfl)
set_option maxRecDepth 100000 in
theorem ca_c13_427 : CallOK RX12 (.invokevirtual 427) 13 D_X12_phraseEnd 2 := co_V (C := RX12) (T := TX12) (N := 70) (ci := 10) rfl mok_X12_phraseEnd rfl (tin 7 223 (by decide +kernel) rfl) (tin 7 225 (by decide +kernel) rfl) (tinP (y := yX12_phraseEnd) (n := 70) 71 (by decide +kernel)) (tin 1 12 (by decide +kernel) rfl)
set_option maxRecDepth 100000 in
theorem ca_c13_430 : CallOK RX12 (.invokevirtual 430) 13 D_X12_leaf 5 := co_V (C := RX12) (T := TX12) (N := 70) (ci := 10) rfl mok_X12_leaf rfl (tin 7 227 (by decide +kernel) rfl) (tin 7 229 (by decide +kernel) rfl) (tinP (y := yX12_leaf) (n := 70) 72 (by decide +kernel)) (tin 1 12 (by decide +kernel) rfl)
set_option maxRecDepth 100000 in
theorem ca_c13_434 : CallOK RX12 (.invokevirtual 434) 13 D_X12_fieldOf 3 := co_V (C := RX12) (T := TX12) (N := 70) (ci := 10) rfl mok_X12_fieldOf rfl (tin 7 233 (by decide +kernel) rfl) (tin 7 235 (by decide +kernel) rfl) (tinP (y := yX12_fieldOf) (n := 70) 73 (by decide +kernel)) (tin 1 12 (by decide +kernel) rfl)
set_option maxRecDepth 100000 in
theorem ca_c13_437 : CallOK RX12 (.invokevirtual 437) 13 D_X12_isNumber 3 := co_V (C := RX12) (T := TX12) (N := 70) (ci := 10) rfl mok_X12_isNumber rfl (tin 8 1 (by decide +kernel) rfl) (tin 8 3 (by decide +kernel) rfl) (tinP (y := yX12_isNumber) (n := 70) 74 (by decide +kernel)) (tin 1 12 (by decide +kernel) rfl)
set_option maxRecDepth 100000 in
theorem ca_c13_440 : CallOK RX12 (.invokevirtual 440) 13 D_X12_isDate 4 := co_V (C := RX12) (T := TX12) (N := 70) (ci := 10) rfl mok_X12_isDate rfl (tin 8 5 (by decide +kernel) rfl) (tin 8 7 (by decide +kernel) rfl) (tinP (y := yX12_isDate) (n := 70) 75 (by decide +kernel)) (tin 1 12 (by decide +kernel) rfl)
set_option maxRecDepth 100000 in
theorem ca_c13_443 : CallOK RX12 (.invokevirtual 443) 13 D_X12_wordEnd 2 := co_V (C := RX12) (T := TX12) (N := 70) (ci := 10) rfl mok_X12_wordEnd rfl (tin 7 190 (by decide +kernel) rfl) (tin 7 192 (by decide +kernel) rfl) (tinP (y := yX12_wordEnd) (n := 70) 65 (by decide +kernel)) (tin 1 12 (by decide +kernel) rfl)
set_option maxRecDepth 100000 in
theorem ca_c13_449 : CallOK RX12 (.invokestatic 449) 0 D_X12_just 4 := co_S mok_X12_just (tin 7 196 (by decide +kernel) rfl) (tin 7 197 (by decide +kernel) rfl) (tin 1 12 (by decide +kernel) rfl)
set_option maxRecDepth 100000 in
theorem ca_c13_456 : CallOK RX12 (.invokevirtual 456) 13 D_X12_refuse 2 := co_V (C := RX12) (T := TX12) (N := 70) (ci := 10) rfl mok_X12_refuse rfl (tin 7 201 (by decide +kernel) rfl) (tin 7 203 (by decide +kernel) rfl) (tinP (y := yX12_refuse) (n := 70) 66 (by decide +kernel)) (tin 1 12 (by decide +kernel) rfl)
set_option maxRecDepth 100000 in
theorem ca_c13_459 : CallOK RX12 (.invokevirtual 459) 13 D_X12_unwind 2 := co_V (C := RX12) (T := TX12) (N := 70) (ci := 10) rfl mok_X12_unwind rfl (tin 7 205 (by decide +kernel) rfl) (tin 7 207 (by decide +kernel) rfl) (tinP (y := yX12_unwind) (n := 70) 67 (by decide +kernel)) (tin 1 12 (by decide +kernel) rfl)
set_option maxRecDepth 100000 in
theorem ca_c13_462 : CallOK RX12 (.invokevirtual 462) 13 D_X12_later 2 := co_V (C := RX12) (T := TX12) (N := 70) (ci := 10) rfl mok_X12_later rfl (tin 7 213 (by decide +kernel) rfl) (tin 7 215 (by decide +kernel) rfl) (tinP (y := yX12_later) (n := 70) 69 (by decide +kernel)) (tin 1 12 (by decide +kernel) rfl)
set_option maxRecDepth 100000 in
theorem ca_c13_468 : CallOK RX12 (.invokevirtual 468) 13 D_X12_one 3 := co_V (C := RX12) (T := TX12) (N := 70) (ci := 10) rfl mok_X12_one rfl (tin 7 219 (by decide +kernel) rfl) (tin 7 221 (by decide +kernel) rfl) (tinP (y := yX12_one) (n := 70) 70 (by decide +kernel)) (tin 1 12 (by decide +kernel) rfl)
set_option maxRecDepth 100000 in
theorem ca_c13_474 : CallOK RX12 (.invokevirtual 474) 13 D_X12_isSameWord 4 := co_V (C := RX12) (T := TX12) (N := 70) (ci := 10) rfl mok_X12_isSameWord rfl (tin 8 231 (by decide +kernel) rfl) (tin 8 233 (by decide +kernel) rfl) (tinP (y := yX12_isSameWord) (n := 70) 116 (by decide +kernel)) (tin 1 12 (by decide +kernel) rfl)
set_option maxRecDepth 100000 in
theorem ca_c13_478 : CallOK RX12 (.invokevirtual 478) 13 D_X12_tagAt 5 := co_V (C := RX12) (T := TX12) (N := 70) (ci := 10) rfl mok_X12_tagAt rfl (tin 7 171 (by decide +kernel) rfl) (tin 7 173 (by decide +kernel) rfl) (tinP (y := yX12_tagAt) (n := 70) 62 (by decide +kernel)) (tin 1 12 (by decide +kernel) rfl)
set_option maxRecDepth 100000 in
theorem ca_c13_482 : CallOK RX12 (.invokevirtual 482) 13 D_X12_hasTag 5 := co_V (C := RX12) (T := TX12) (N := 70) (ci := 10) rfl mok_X12_hasTag rfl (tin 8 215 (by decide +kernel) rfl) (tin 8 217 (by decide +kernel) rfl) (tinP (y := yX12_hasTag) (n := 70) 112 (by decide +kernel)) (tin 1 12 (by decide +kernel) rfl)
set_option maxRecDepth 100000 in
theorem ca_c13_486 : CallOK RX12 (.invokevirtual 486) 13 D_X12_threadOf 2 := co_V (C := RX12) (T := TX12) (N := 70) (ci := 10) rfl mok_X12_threadOf rfl (tin 8 219 (by decide +kernel) rfl) (tin 8 221 (by decide +kernel) rfl) (tinP (y := yX12_threadOf) (n := 70) 113 (by decide +kernel)) (tin 1 12 (by decide +kernel) rfl)
set_option maxRecDepth 100000 in
theorem ca_c13_489 : CallOK RX12 (.invokevirtual 489) 13 D_X12_stands 3 := co_V (C := RX12) (T := TX12) (N := 70) (ci := 10) rfl mok_X12_stands rfl (tin 8 227 (by decide +kernel) rfl) (tin 8 229 (by decide +kernel) rfl) (tinP (y := yX12_stands) (n := 70) 115 (by decide +kernel)) (tin 1 12 (by decide +kernel) rfl)
set_option maxRecDepth 100000 in
theorem ca_c13_493 : CallOK RX12 (.invokevirtual 493) 13 D_X12_isLeaf 3 := co_V (C := RX12) (T := TX12) (N := 70) (ci := 10) rfl mok_X12_isLeaf rfl (tin 8 211 (by decide +kernel) rfl) (tin 8 213 (by decide +kernel) rfl) (tinP (y := yX12_isLeaf) (n := 70) 111 (by decide +kernel)) (tin 1 12 (by decide +kernel) rfl)
set_option maxRecDepth 100000 in
theorem ca_c13_502 : CallOK RX12 (.invokevirtual 502) 13 D_X12_take 1 := co_V (C := RX12) (T := TX12) (N := 70) (ci := 10) rfl mok_X12_take rfl (tin 7 148 (by decide +kernel) rfl) (tin 7 150 (by decide +kernel) rfl) (tinP (y := yX12_take) (n := 70) 59 (by decide +kernel)) (tin 1 12 (by decide +kernel) rfl)
set_option maxRecDepth 100000 in
theorem ca_c13_505 : CallOK RX12 (.invokevirtual 505) 13 D_X12_isThere 2 := co_V (C := RX12) (T := TX12) (N := 70) (ci := 10) rfl mok_X12_isThere rfl (tin 7 156 (by decide +kernel) rfl) (tin 7 158 (by decide +kernel) rfl) (tinP (y := yX12_isThere) (n := 70) 60 (by decide +kernel)) (tin 1 12 (by decide +kernel) rfl)
set_option maxRecDepth 100000 in
theorem ca_c13_508 : CallOK RX12 (.invokevirtual 508) 13 D_X12_isTag 2 := co_V (C := RX12) (T := TX12) (N := 70) (ci := 10) rfl mok_X12_isTag rfl (tin 7 164 (by decide +kernel) rfl) (tin 7 166 (by decide +kernel) rfl) (tinP (y := yX12_isTag) (n := 70) 61 (by decide +kernel)) (tin 1 12 (by decide +kernel) rfl)
set_option maxRecDepth 100000 in
theorem ca_c13_511 : CallOK RX12 (.invokevirtual 511) 13 D_X12_moveTag 4 := co_V (C := RX12) (T := TX12) (N := 70) (ci := 10) rfl mok_X12_moveTag rfl (tin 7 175 (by decide +kernel) rfl) (tin 7 177 (by decide +kernel) rfl) (tinP (y := yX12_moveTag) (n := 70) 63 (by decide +kernel)) (tin 1 12 (by decide +kernel) rfl)
set_option maxRecDepth 100000 in
theorem ca_c13_514 : CallOK RX12 (.invokevirtual 514) 13 D_X12_readQuery 1 := co_V (C := RX12) (T := TX12) (N := 70) (ci := 10) rfl mok_X12_readQuery rfl (tin 7 183 (by decide +kernel) rfl) (tin 7 185 (by decide +kernel) rfl) (tinP (y := yX12_readQuery) (n := 70) 64 (by decide +kernel)) (tin 1 12 (by decide +kernel) rfl)
set_option maxRecDepth 100000 in
theorem ca_c13_518 : CallOK RX12 (.invokevirtual 518) 13 D_X12_link 1 := co_V (C := RX12) (T := TX12) (N := 70) (ci := 10) rfl mok_X12_link rfl (tin 8 25 (by decide +kernel) rfl) (tin 8 27 (by decide +kernel) rfl) (tinP (y := yX12_link) (n := 70) 77 (by decide +kernel)) (tin 1 12 (by decide +kernel) rfl)
set_option maxRecDepth 100000 in
theorem ca_c13_524 : CallOK RX12 (.invokevirtual 524) 13 D_X12_matches 2 := co_V (C := RX12) (T := TX12) (N := 70) (ci := 10) rfl mok_X12_matches rfl (tin 8 207 (by decide +kernel) rfl) (tin 8 209 (by decide +kernel) rfl) (tinP (y := yX12_matches) (n := 70) 110 (by decide +kernel)) (tin 1 12 (by decide +kernel) rfl)
set_option maxRecDepth 100000 in
theorem ca_c13_530 : CallOK RX12 (.invokevirtual 530) 13 D_X12_parentOf 2 := co_V (C := RX12) (T := TX12) (N := 70) (ci := 10) rfl mok_X12_parentOf rfl (tin 9 15 (by decide +kernel) rfl) (tin 9 17 (by decide +kernel) rfl) (tinP (y := yX12_parentOf) (n := 70) 117 (by decide +kernel)) (tin 1 12 (by decide +kernel) rfl)
set_option maxRecDepth 100000 in
theorem ca_c13_533 : CallOK RX12 (.invokevirtual 533) 13 D_X12_depth 2 := co_V (C := RX12) (T := TX12) (N := 70) (ci := 10) rfl mok_X12_depth rfl (tin 9 19 (by decide +kernel) rfl) (tin 9 21 (by decide +kernel) rfl) (tinP (y := yX12_depth) (n := 70) 118 (by decide +kernel)) (tin 1 12 (by decide +kernel) rfl)
set_option maxRecDepth 100000 in
theorem ca_c13_539 : CallOK RX12 (.invokevirtual 539) 13 D_X12_addDifferent 4 := co_V (C := RX12) (T := TX12) (N := 70) (ci := 10) rfl mok_X12_addDifferent rfl (tin 9 31 (by decide +kernel) rfl) (tin 9 33 (by decide +kernel) rfl) (tinP (y := yX12_addDifferent) (n := 70) 119 (by decide +kernel)) (tin 1 12 (by decide +kernel) rfl)
set_option maxRecDepth 100000 in
theorem ca_c12_30 : CallOK RL (.invokespecial 30) 1 D_X11_init 1 := co_I mok_X11_init rfl rfl (tin 1 34 (by decide +kernel) rfl) (tin 1 35 (by decide +kernel) rfl) (tin 1 1 (by decide +kernel) rfl)
set_option maxRecDepth 100000 in
theorem ca_c12_33 : CallOK RL (.invokespecial 33) 1 D_X12_init 1 := co_I mok_X12_init rfl rfl (tin 6 153 (by decide +kernel) rfl) (tin 6 154 (by decide +kernel) rfl) (tin 1 12 (by decide +kernel) rfl)
set_option maxRecDepth 100000 in
theorem ca_c12_34 : CallOK RL (.invokevirtual 34) 12 D_X11_feed 6 := co_V (C := RX11) (T := TX11) (N := 17) (ci := 9) rfl mok_X11_feed rfl (tin 2 147 (by decide +kernel) rfl) (tin 2 148 (by decide +kernel) rfl) (tin 2 149 (by decide +kernel) rfl) (tin 1 1 (by decide +kernel) rfl)
set_option maxRecDepth 100000 in
theorem ca_c12_38 : CallOK RL (.invokevirtual 38) 13 D_X12_feed 6 := co_V (C := RX12) (T := TX12) (N := 70) (ci := 10) rfl mok_X12_feed rfl (tin 7 136 (by decide +kernel) rfl) (tin 7 137 (by decide +kernel) rfl) (tin 7 138 (by decide +kernel) rfl) (tin 1 12 (by decide +kernel) rfl)
set_option maxRecDepth 100000 in
theorem ca_c12_39 : CallOK RL (.invokevirtual 39) 12 D_X11_end 2 := co_V (C := RX11) (T := TX11) (N := 17) (ci := 9) rfl mok_X11_end rfl (tin 2 151 (by decide +kernel) rfl) (tin 2 152 (by decide +kernel) rfl) (tin 2 153 (by decide +kernel) rfl) (tin 1 1 (by decide +kernel) rfl)
set_option maxRecDepth 100000 in
theorem ca_c12_43 : CallOK RL (.invokevirtual 43) 13 D_X12_end 2 := co_V (C := RX12) (T := TX12) (N := 70) (ci := 10) rfl mok_X12_end rfl (tin 7 140 (by decide +kernel) rfl) (tin 7 141 (by decide +kernel) rfl) (tin 7 142 (by decide +kernel) rfl) (tin 1 12 (by decide +kernel) rfl)
set_option maxRecDepth 100000 in
theorem ca_c12_49 : CallOK RL (.invokevirtual 49) 13 D_X12_add 1 := co_V (C := RX12) (T := TX12) (N := 70) (ci := 10) rfl mok_X12_add rfl (tin 7 144 (by decide +kernel) rfl) (tin 7 145 (by decide +kernel) rfl) (tin 7 146 (by decide +kernel) rfl) (tin 1 12 (by decide +kernel) rfl)
set_option maxRecDepth 100000 in
theorem ca_c12_53 : CallOK RL (.invokevirtual 53) 13 D_X12_remove 2 := co_V (C := RX12) (T := TX12) (N := 70) (ci := 10) rfl mok_X12_remove rfl (tin 7 152 (by decide +kernel) rfl) (tin 7 153 (by decide +kernel) rfl) (tin 7 154 (by decide +kernel) rfl) (tin 1 12 (by decide +kernel) rfl)
set_option maxRecDepth 100000 in
theorem ca_c12_57 : CallOK RL (.invokevirtual 57) 13 D_X12_tag 3 := co_V (C := RX12) (T := TX12) (N := 70) (ci := 10) rfl mok_X12_tag rfl (tin 7 160 (by decide +kernel) rfl) (tin 7 161 (by decide +kernel) rfl) (tin 7 162 (by decide +kernel) rfl) (tin 1 12 (by decide +kernel) rfl)
set_option maxRecDepth 100000 in
theorem ca_c12_58 : CallOK RL (.invokevirtual 58) 13 D_X12_thrown 1 := co_V (C := RX12) (T := TX12) (N := 70) (ci := 10) rfl mok_X12_thrown rfl (tin 7 132 (by decide +kernel) rfl) (tin 7 133 (by decide +kernel) rfl) (tin 7 134 (by decide +kernel) rfl) (tin 1 12 (by decide +kernel) rfl)
set_option maxRecDepth 100000 in
theorem ca_c12_63 : CallOK RL (.invokevirtual 63) 13 D_X12_search 1 := co_V (C := RX12) (T := TX12) (N := 70) (ci := 10) rfl mok_X12_search rfl (tin 7 179 (by decide +kernel) rfl) (tin 7 180 (by decide +kernel) rfl) (tin 7 181 (by decide +kernel) rfl) (tin 1 12 (by decide +kernel) rfl)
set_option maxRecDepth 100000 in
theorem ca_c12_64 : CallOK RL (.invokevirtual 64) 12 D_X11_fault 1 := co_V (C := RX11) (T := TX11) (N := 17) (ci := 9) rfl mok_X11_fault rfl (tin 2 167 (by decide +kernel) rfl) (tin 2 168 (by decide +kernel) rfl) (tin 2 169 (by decide +kernel) rfl) (tin 1 1 (by decide +kernel) rfl)
set_option maxRecDepth 100000 in
theorem ca_c12_67 : CallOK RL (.invokevirtual 67) 13 D_X12_fault 1 := co_V (C := RX12) (T := TX12) (N := 70) (ci := 10) rfl mok_X12_fault rfl (tin 8 235 (by decide +kernel) rfl) (tin 8 236 (by decide +kernel) rfl) (tin 8 237 (by decide +kernel) rfl) (tin 1 12 (by decide +kernel) rfl)
set_option maxRecDepth 100000 in
theorem ca_c12_68 : CallOK RL (.invokevirtual 68) 12 D_X11_found 2 := co_V (C := RX11) (T := TX11) (N := 17) (ci := 9) rfl mok_X11_found rfl (tin 2 171 (by decide +kernel) rfl) (tin 2 172 (by decide +kernel) rfl) (tin 2 173 (by decide +kernel) rfl) (tin 1 1 (by decide +kernel) rfl)
set_option maxRecDepth 100000 in
theorem ca_c12_71 : CallOK RL (.invokevirtual 71) 13 D_X12_found 2 := co_V (C := RX12) (T := TX12) (N := 70) (ci := 10) rfl mok_X12_found rfl (tin 8 239 (by decide +kernel) rfl) (tin 9 0 (by decide +kernel) rfl) (tin 9 1 (by decide +kernel) rfl) (tin 1 12 (by decide +kernel) rfl)
set_option maxRecDepth 100000 in
theorem ca_c12_72 : CallOK RL (.invokevirtual 72) 12 D_X11_conversations 1 := co_V (C := RX11) (T := TX11) (N := 17) (ci := 9) rfl mok_X11_conversations rfl (tin 2 175 (by decide +kernel) rfl) (tin 2 176 (by decide +kernel) rfl) (tin 2 177 (by decide +kernel) rfl) (tin 1 1 (by decide +kernel) rfl)
set_option maxRecDepth 100000 in
theorem ca_c12_75 : CallOK RL (.invokevirtual 75) 13 D_X12_conversations 1 := co_V (C := RX12) (T := TX12) (N := 70) (ci := 10) rfl mok_X12_conversations rfl (tin 9 3 (by decide +kernel) rfl) (tin 9 4 (by decide +kernel) rfl) (tin 9 5 (by decide +kernel) rfl) (tin 1 12 (by decide +kernel) rfl)
set_option maxRecDepth 100000 in
theorem ca_c12_76 : CallOK RL (.invokevirtual 76) 12 D_X11_thread 2 := co_V (C := RX11) (T := TX11) (N := 17) (ci := 9) rfl mok_X11_thread rfl (tin 3 8 (by decide +kernel) rfl) (tin 3 9 (by decide +kernel) rfl) (tin 3 10 (by decide +kernel) rfl) (tin 1 1 (by decide +kernel) rfl)
set_option maxRecDepth 100000 in
theorem ca_c12_79 : CallOK RL (.invokevirtual 79) 13 D_X12_thread 2 := co_V (C := RX12) (T := TX12) (N := 70) (ci := 10) rfl mok_X12_thread rfl (tin 9 7 (by decide +kernel) rfl) (tin 9 8 (by decide +kernel) rfl) (tin 9 9 (by decide +kernel) rfl) (tin 1 12 (by decide +kernel) rfl)
set_option maxRecDepth 100000 in
theorem ca_c12_80 : CallOK RL (.invokevirtual 80) 12 D_X11_about 3 := co_V (C := RX11) (T := TX11) (N := 17) (ci := 9) rfl mok_X11_about rfl (tin 3 12 (by decide +kernel) rfl) (tin 3 13 (by decide +kernel) rfl) (tin 3 14 (by decide +kernel) rfl) (tin 1 1 (by decide +kernel) rfl)
set_option maxRecDepth 100000 in
theorem ca_c12_84 : CallOK RL (.invokevirtual 84) 13 D_X12_about 3 := co_V (C := RX12) (T := TX12) (N := 70) (ci := 10) rfl mok_X12_about rfl (tin 9 11 (by decide +kernel) rfl) (tin 9 12 (by decide +kernel) rfl) (tin 9 13 (by decide +kernel) rfl) (tin 1 12 (by decide +kernel) rfl)
set_option maxRecDepth 100000 in
theorem ca_c12_85 : CallOK RL (.invokevirtual 85) 12 D_X11_at 5 := co_V (C := RX11) (T := TX11) (N := 17) (ci := 9) rfl mok_X11_at rfl (tin 3 32 (by decide +kernel) rfl) (tin 3 33 (by decide +kernel) rfl) (tin 3 34 (by decide +kernel) rfl) (tin 1 1 (by decide +kernel) rfl)
set_option maxRecDepth 100000 in
theorem ca_c12_89 : CallOK RL (.invokevirtual 89) 13 D_X12_at 5 := co_V (C := RX12) (T := TX12) (N := 70) (ci := 10) rfl mok_X12_at rfl (tin 9 23 (by decide +kernel) rfl) (tin 9 24 (by decide +kernel) rfl) (tin 9 25 (by decide +kernel) rfl) (tin 1 12 (by decide +kernel) rfl)
set_option maxRecDepth 100000 in
theorem ca_c12_90 : CallOK RL (.invokevirtual 90) 12 D_X11_count 2 := co_V (C := RX11) (T := TX11) (N := 17) (ci := 9) rfl mok_X11_count rfl (tin 3 54 (by decide +kernel) rfl) (tin 3 55 (by decide +kernel) rfl) (tin 3 56 (by decide +kernel) rfl) (tin 1 1 (by decide +kernel) rfl)
set_option maxRecDepth 100000 in
theorem ca_c12_93 : CallOK RL (.invokevirtual 93) 13 D_X12_count 2 := co_V (C := RX12) (T := TX12) (N := 70) (ci := 10) rfl mok_X12_count rfl (tin 9 27 (by decide +kernel) rfl) (tin 9 28 (by decide +kernel) rfl) (tin 9 29 (by decide +kernel) rfl) (tin 1 12 (by decide +kernel) rfl)
set_option maxRecDepth 100000 in
theorem ca_c12_7 : CallOK RL (.invokevirtual 7) 12 D_X11_add 1 := co_V (C := RX11) (T := TX11) (N := 17) (ci := 9) rfl mok_X11_add rfl (tin 3 78 (by decide +kernel) rfl) (tin 3 79 (by decide +kernel) rfl) (tin 3 80 (by decide +kernel) rfl) (tin 1 1 (by decide +kernel) rfl)
set_option maxRecDepth 100000 in
theorem ca_c12_15 : CallOK RL (.invokevirtual 15) 12 D_X11_remove 2 := co_V (C := RX11) (T := TX11) (N := 17) (ci := 9) rfl mok_X11_remove rfl (tin 5 148 (by decide +kernel) rfl) (tin 5 149 (by decide +kernel) rfl) (tin 5 150 (by decide +kernel) rfl) (tin 1 1 (by decide +kernel) rfl)
set_option maxRecDepth 100000 in
theorem ca_c12_21 : CallOK RL (.invokevirtual 21) 12 D_X11_tag 3 := co_V (C := RX11) (T := TX11) (N := 17) (ci := 9) rfl mok_X11_tag rfl (tin 5 181 (by decide +kernel) rfl) (tin 5 182 (by decide +kernel) rfl) (tin 5 183 (by decide +kernel) rfl) (tin 1 1 (by decide +kernel) rfl)
set_option maxRecDepth 100000 in
theorem ca_c12_27 : CallOK RL (.invokevirtual 27) 12 D_X11_search 1 := co_V (C := RX11) (T := TX11) (N := 17) (ci := 9) rfl mok_X11_search rfl (tin 5 238 (by decide +kernel) rfl) (tin 5 239 (by decide +kernel) rfl) (tin 6 0 (by decide +kernel) rfl) (tin 1 1 (by decide +kernel) rfl)
