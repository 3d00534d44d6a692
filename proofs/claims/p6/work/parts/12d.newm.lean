/-! The reference's constructor, by program. -/
def TB_61 : List (Nat × Ty) := [(60, .inr 10)]
def WB_0 : List (Nat × Nat × Int) := []
def TB_62 : List (Nat × Ty) := (61, .inl (1, 20)) :: TB_61
def WB_1 : List (Nat × Nat × Int) := (60, 1, 61) :: WB_0
def TB_63 : List (Nat × Ty) := (62, .inl (1, 1200)) :: TB_62
def WB_2 : List (Nat × Nat × Int) := (60, 2, 62) :: WB_1
def TB_64 : List (Nat × Ty) := (63, .inl (1, 240000)) :: TB_63
def WB_3 : List (Nat × Nat × Int) := (60, 6, 63) :: WB_2
def TB_65 : List (Nat × Ty) := (64, .inl (0, 200)) :: TB_64
def WB_4 : List (Nat × Nat × Int) := (60, 7, 64) :: WB_3
def TB_66 : List (Nat × Ty) := (65, .inl (2, 200)) :: TB_65
def WB_5 : List (Nat × Nat × Int) := (60, 8, 65) :: WB_4
def TB_67 : List (Nat × Ty) := (66, .inl (1, 19200)) :: TB_66
def WB_6 : List (Nat × Nat × Int) := (60, 9, 66) :: WB_5
def TB_68 : List (Nat × Ty) := (67, .inl (0, 1600)) :: TB_67
def WB_7 : List (Nat × Nat × Int) := (60, 10, 67) :: WB_6
def TB_69 : List (Nat × Ty) := (68, .inl (0, 200)) :: TB_68
def WB_8 : List (Nat × Nat × Int) := (60, 11, 68) :: WB_7
def WB_9 : List (Nat × Nat × Int) := (60, 12, (-1)) :: WB_8
def TB_70 : List (Nat × Ty) := (69, .inl (0, 4)) :: TB_69
def WB_10 : List (Nat × Nat × Int) := (60, 13, 69) :: WB_9
def TB_71 : List (Nat × Ty) := (70, .inl (1, 40960)) :: TB_70
def WB_11 : List (Nat × Nat × Int) := (60, 14, 70) :: WB_10
def TB_72 : List (Nat × Ty) := (71, .inl (0, 2560)) :: TB_71
def WB_12 : List (Nat × Nat × Int) := (60, 15, 71) :: WB_11
def TB_73 : List (Nat × Ty) := (72, .inl (1, 60)) :: TB_72
def WB_13 : List (Nat × Nat × Int) := (60, 17, 72) :: WB_12
def TB_74 : List (Nat × Ty) := (73, .inl (1, 960)) :: TB_73
def WB_14 : List (Nat × Nat × Int) := (60, 20, 73) :: WB_13
def TB_75 : List (Nat × Ty) := (74, .inl (0, 16)) :: TB_74
def WB_15 : List (Nat × Nat × Int) := (60, 21, 74) :: WB_14
def TB_76 : List (Nat × Ty) := (75, .inl (1, 1300)) :: TB_75
def WB_16 : List (Nat × Nat × Int) := (60, 22, 75) :: WB_15
def TB_77 : List (Nat × Ty) := (76, .inl (1, 4000)) :: TB_76
def WB_17 : List (Nat × Nat × Int) := (60, 24, 76) :: WB_16
def TB_78 : List (Nat × Ty) := (77, .inl (1, 1300)) :: TB_77
def WB_18 : List (Nat × Nat × Int) := (60, 27, 77) :: WB_17
def TB_79 : List (Nat × Ty) := (78, .inl (0, 4000)) :: TB_78
def WB_19 : List (Nat × Nat × Int) := (60, 30, 78) :: WB_18
def TB_80 : List (Nat × Ty) := (79, .inl (0, 4000)) :: TB_79
def WB_20 : List (Nat × Nat × Int) := (60, 31, 79) :: WB_19
def TB_81 : List (Nat × Ty) := (80, .inl (0, 4000)) :: TB_80
def WB_21 : List (Nat × Nat × Int) := (60, 32, 80) :: WB_20
def TB_82 : List (Nat × Ty) := (81, .inl (0, 1300)) :: TB_81
def WB_22 : List (Nat × Nat × Int) := (60, 34, 81) :: WB_21
def TB_83 : List (Nat × Ty) := (82, .inl (0, 1300)) :: TB_82
def WB_23 : List (Nat × Nat × Int) := (60, 35, 82) :: WB_22
def TB_84 : List (Nat × Ty) := (83, .inl (1, 72000)) :: TB_83
def WB_24 : List (Nat × Nat × Int) := (60, 38, 83) :: WB_23
def TB_85 : List (Nat × Ty) := (84, .inl (0, 1200)) :: TB_84
def WB_25 : List (Nat × Nat × Int) := (60, 39, 84) :: WB_24
def TB_86 : List (Nat × Ty) := (85, .inl (0, 1200)) :: TB_85
def WB_26 : List (Nat × Nat × Int) := (60, 40, 85) :: WB_25
def TB_87 : List (Nat × Ty) := (86, .inl (0, 1200)) :: TB_86
def WB_27 : List (Nat × Nat × Int) := (60, 41, 86) :: WB_26
def TB_88 : List (Nat × Ty) := (87, .inl (0, 200)) :: TB_87
def WB_28 : List (Nat × Nat × Int) := (60, 42, 87) :: WB_27
def TB_89 : List (Nat × Ty) := (88, .inl (1, 1200)) :: TB_88
def WB_29 : List (Nat × Nat × Int) := (60, 43, 88) :: WB_28
def TB_90 : List (Nat × Ty) := (89, .inl (0, 810)) :: TB_89
def WB_30 : List (Nat × Nat × Int) := (60, 49, 89) :: WB_29
def TB_91 : List (Nat × Ty) := (90, .inl (0, 810)) :: TB_90
def WB_31 : List (Nat × Nat × Int) := (60, 50, 90) :: WB_30
def TB_92 : List (Nat × Ty) := (91, .inl (0, 810)) :: TB_91
def WB_32 : List (Nat × Nat × Int) := (60, 51, 91) :: WB_31
def TB_93 : List (Nat × Ty) := (92, .inl (2, 810)) :: TB_92
def WB_33 : List (Nat × Nat × Int) := (60, 52, 92) :: WB_32
def TB_94 : List (Nat × Ty) := (93, .inl (3, 810)) :: TB_93
def WB_34 : List (Nat × Nat × Int) := (60, 53, 93) :: WB_33
def TB_95 : List (Nat × Ty) := (94, .inl (3, 810)) :: TB_94
def WB_35 : List (Nat × Nat × Int) := (60, 54, 94) :: WB_34
def TB_96 : List (Nat × Ty) := (95, .inl (0, 3000)) :: TB_95
def WB_36 : List (Nat × Nat × Int) := (60, 55, 95) :: WB_35
def TB_97 : List (Nat × Ty) := (96, .inl (0, 1300)) :: TB_96
def WB_37 : List (Nat × Nat × Int) := (60, 56, 96) :: WB_36
def TB_98 : List (Nat × Ty) := (97, .inl (2, 1300)) :: TB_97
def WB_38 : List (Nat × Nat × Int) := (60, 57, 97) :: WB_37
def TB_99 : List (Nat × Ty) := (98, .inl (1, 10240)) :: TB_98
def WB_39 : List (Nat × Nat × Int) := (60, 58, 98) :: WB_38
def TB_100 : List (Nat × Ty) := (99, .inl (0, 640)) :: TB_99
def WB_40 : List (Nat × Nat × Int) := (60, 59, 99) :: WB_39
def TB_101 : List (Nat × Ty) := (100, .inl (0, 200)) :: TB_100
def WB_41 : List (Nat × Nat × Int) := (60, 64, 100) :: WB_40
def TB_102 : List (Nat × Ty) := (101, .inl (0, 200)) :: TB_101
def WB_42 : List (Nat × Nat × Int) := (60, 65, 101) :: WB_41
def TB_103 : List (Nat × Ty) := (102, .inl (3, 200)) :: TB_102
def WB_43 : List (Nat × Nat × Int) := (60, 66, 102) :: WB_42
def TB_104 : List (Nat × Ty) := (103, .inl (1, 640000)) :: TB_103
def WB_44 : List (Nat × Nat × Int) := (60, 68, 103) :: WB_43
def TB_105 : List (Nat × Ty) := (104, .inl (0, 40000)) :: TB_104
def WB_45 : List (Nat × Nat × Int) := (60, 69, 104) :: WB_44
set_option maxRecDepth 100000 in
theorem nc_B1 (l : Launch) (b : Hp) : Ct l D_X12_init 1 20 [.inr (.inr 60)] (hpx b 61 TB_61 WB_0) (RVa (fun H mc ms => H = (hpx b 105 TB_105 WB_45) ∧ mc = 44 ∧ ms = 1107320)) := by
  refine ct_of pn_X12_init (Nat.le_of_ble_eq_true rfl) ?_
  show To l E_X12_init (0, [(0, .inr (.inr 60))], [], (hpx b 61 TB_61 WB_0), 0, 0) _
  refine to_aload_np (dat dk_X12_init 0 rfl) (by decide) rfl ?_
  refine to_obj (tin 6 156 (by decide +kernel) rfl) (tin 1 38 (by decide +kernel) rfl) (tin 1 39 (by decide +kernel) rfl) (dat dk_X12_init 1 rfl) rfl rfl ?_
  refine to_aload_np (dat dk_X12_init 2 rfl) (by decide) rfl ?_
  refine to_bipush (dat dk_X12_init 3 rfl) (by decide) ?_
  refine to_newarray 1 rfl (by decide) rfl (tin 1 53 (by decide +kernel) rfl) (dat dk_X12_init 4 rfl) (by decide) (show (61 : Nat) < 1000000 by decide) ?_
  show To l E_X12_init (9, [(0, .inr (.inr 60))], [.inr (.inr 61), .inr (.inr 60)], (hpx b 62 TB_62 WB_0), 1, 20) _
  refine to_putR p_c13_7 (dat dk_X12_init 5 rfl) rfl ?_
  show To l E_X12_init (12, [(0, .inr (.inr 60))], [], (hpx b 62 TB_62 WB_1), 1, 20) _
  refine to_aload_np (dat dk_X12_init 6 rfl) (by decide) rfl ?_
  refine to_sipush (dat dk_X12_init 7 rfl) (by decide) ?_
  refine to_newarray 1 rfl (by decide) rfl (tin 1 53 (by decide +kernel) rfl) (dat dk_X12_init 8 rfl) (by decide) (show (62 : Nat) < 1000000 by decide) ?_
  show To l E_X12_init (18, [(0, .inr (.inr 60))], [.inr (.inr 62), .inr (.inr 60)], (hpx b 63 TB_63 WB_1), 2, 1220) _
  refine to_putR p_c13_13 (dat dk_X12_init 9 rfl) rfl ?_
  show To l E_X12_init (21, [(0, .inr (.inr 60))], [], (hpx b 63 TB_63 WB_2), 2, 1220) _
  refine to_aload_np (dat dk_X12_init 10 rfl) (by decide) rfl ?_
  refine to_ldc (v := 240000) (tin 6 157 (by decide +kernel) rfl) rfl (dat dk_X12_init 11 rfl) ?_
  refine to_newarray 1 rfl (by decide) rfl (tin 1 53 (by decide +kernel) rfl) (dat dk_X12_init 12 rfl) (by decide) (show (63 : Nat) < 1000000 by decide) ?_
  show To l E_X12_init (26, [(0, .inr (.inr 60))], [.inr (.inr 63), .inr (.inr 60)], (hpx b 64 TB_64 WB_2), 3, 241220) _
  refine to_putR p_c13_17 (dat dk_X12_init 13 rfl) rfl ?_
  show To l E_X12_init (29, [(0, .inr (.inr 60))], [], (hpx b 64 TB_64 WB_3), 3, 241220) _
  refine to_aload_np (dat dk_X12_init 14 rfl) (by decide) rfl ?_
  refine to_sipush (dat dk_X12_init 15 rfl) (by decide) ?_
  refine to_newarray 0 rfl (by decide) rfl (tin 1 82 (by decide +kernel) rfl) (dat dk_X12_init 16 rfl) (by decide) (show (64 : Nat) < 1000000 by decide) ?_
  show To l E_X12_init (35, [(0, .inr (.inr 60))], [.inr (.inr 64), .inr (.inr 60)], (hpx b 65 TB_65 WB_3), 4, 241420) _
  refine to_putR p_c13_20 (dat dk_X12_init 17 rfl) rfl ?_
  show To l E_X12_init (38, [(0, .inr (.inr 60))], [], (hpx b 65 TB_65 WB_4), 4, 241420) _
  refine to_aload_np (dat dk_X12_init 18 rfl) (by decide) rfl ?_
  refine to_sipush (dat dk_X12_init 19 rfl) (by decide) ?_
  refine to_newarray 2 rfl (by decide) rfl (tin 2 25 (by decide +kernel) rfl) (dat dk_X12_init 20 rfl) (by decide) (show (65 : Nat) < 1000000 by decide) ?_
  show To l E_X12_init (44, [(0, .inr (.inr 60))], [.inr (.inr 65), .inr (.inr 60)], (hpx b 66 TB_66 WB_4), 5, 241620) _
  refine to_putR p_c13_24 (dat dk_X12_init 21 rfl) rfl ?_
  show To l E_X12_init (47, [(0, .inr (.inr 60))], [], (hpx b 66 TB_66 WB_5), 5, 241620) _
  refine to_aload_np (dat dk_X12_init 22 rfl) (by decide) rfl ?_
  refine to_sipush (dat dk_X12_init 23 rfl) (by decide) ?_
  refine to_newarray 1 rfl (by decide) rfl (tin 1 53 (by decide +kernel) rfl) (dat dk_X12_init 24 rfl) (by decide) (show (66 : Nat) < 1000000 by decide) ?_
  show To l E_X12_init (53, [(0, .inr (.inr 60))], [.inr (.inr 66), .inr (.inr 60)], (hpx b 67 TB_67 WB_5), 6, 260820) _
  refine to_putR p_c13_28 (dat dk_X12_init 25 rfl) rfl ?_
  show To l E_X12_init (56, [(0, .inr (.inr 60))], [], (hpx b 67 TB_67 WB_6), 6, 260820) _
  refine to_aload_np (dat dk_X12_init 26 rfl) (by decide) rfl ?_
  refine to_sipush (dat dk_X12_init 27 rfl) (by decide) ?_
  refine to_newarray 0 rfl (by decide) rfl (tin 1 82 (by decide +kernel) rfl) (dat dk_X12_init 28 rfl) (by decide) (show (67 : Nat) < 1000000 by decide) ?_
  show To l E_X12_init (62, [(0, .inr (.inr 60))], [.inr (.inr 67), .inr (.inr 60)], (hpx b 68 TB_68 WB_6), 7, 262420) _
  refine to_putR p_c13_31 (dat dk_X12_init 29 rfl) rfl ?_
  show To l E_X12_init (65, [(0, .inr (.inr 60))], [], (hpx b 68 TB_68 WB_7), 7, 262420) _
  refine to_aload_np (dat dk_X12_init 30 rfl) (by decide) rfl ?_
  refine to_sipush (dat dk_X12_init 31 rfl) (by decide) ?_
  refine to_newarray 0 rfl (by decide) rfl (tin 1 82 (by decide +kernel) rfl) (dat dk_X12_init 32 rfl) (by decide) (show (68 : Nat) < 1000000 by decide) ?_
  show To l E_X12_init (71, [(0, .inr (.inr 60))], [.inr (.inr 68), .inr (.inr 60)], (hpx b 69 TB_69 WB_7), 8, 262620) _
  refine to_putR p_c13_34 (dat dk_X12_init 33 rfl) rfl ?_
  show To l E_X12_init (74, [(0, .inr (.inr 60))], [], (hpx b 69 TB_69 WB_8), 8, 262620) _
  refine to_aload_np (dat dk_X12_init 34 rfl) (by decide) rfl ?_
  refine to_iconst (dat dk_X12_init 35 rfl) ?_
  refine to_putI p_c13_37 (dat dk_X12_init 36 rfl) rfl ?_
  show To l E_X12_init (79, [(0, .inr (.inr 60))], [], (hpx b 69 TB_69 WB_9), 8, 262620) _
  refine to_aload_np (dat dk_X12_init 37 rfl) (by decide) rfl ?_
  refine to_iconst (dat dk_X12_init 38 rfl) ?_
  refine to_newarray 0 rfl (by decide) rfl (tin 1 82 (by decide +kernel) rfl) (dat dk_X12_init 39 rfl) (by decide) (show (69 : Nat) < 1000000 by decide) ?_
  show To l E_X12_init (83, [(0, .inr (.inr 60))], [.inr (.inr 69), .inr (.inr 60)], (hpx b 70 TB_70 WB_9), 9, 262624) _
  refine to_putR p_c13_41 (dat dk_X12_init 40 rfl) rfl ?_
  show To l E_X12_init (86, [(0, .inr (.inr 60))], [], (hpx b 70 TB_70 WB_10), 9, 262624) _
  refine to_aload_np (dat dk_X12_init 41 rfl) (by decide) rfl ?_
  refine to_ldc (v := 40960) (tin 6 158 (by decide +kernel) rfl) rfl (dat dk_X12_init 42 rfl) ?_
  refine to_newarray 1 rfl (by decide) rfl (tin 1 53 (by decide +kernel) rfl) (dat dk_X12_init 43 rfl) (by decide) (show (70 : Nat) < 1000000 by decide) ?_
  show To l E_X12_init (91, [(0, .inr (.inr 60))], [.inr (.inr 70), .inr (.inr 60)], (hpx b 71 TB_71 WB_10), 10, 303584) _
  refine to_putR p_c13_45 (dat dk_X12_init 44 rfl) rfl ?_
  show To l E_X12_init (94, [(0, .inr (.inr 60))], [], (hpx b 71 TB_71 WB_11), 10, 303584) _
  refine to_aload_np (dat dk_X12_init 45 rfl) (by decide) rfl ?_
  refine to_sipush (dat dk_X12_init 46 rfl) (by decide) ?_
  refine to_newarray 0 rfl (by decide) rfl (tin 1 82 (by decide +kernel) rfl) (dat dk_X12_init 47 rfl) (by decide) (show (71 : Nat) < 1000000 by decide) ?_
  show To l E_X12_init (100, [(0, .inr (.inr 60))], [.inr (.inr 71), .inr (.inr 60)], (hpx b 72 TB_72 WB_11), 11, 306144) _
  refine to_putR p_c13_48 (dat dk_X12_init 48 rfl) rfl ?_
  show To l E_X12_init (103, [(0, .inr (.inr 60))], [], (hpx b 72 TB_72 WB_12), 11, 306144) _
  refine to_aload_np (dat dk_X12_init 49 rfl) (by decide) rfl ?_
  refine to_bipush (dat dk_X12_init 50 rfl) (by decide) ?_
  refine to_newarray 1 rfl (by decide) rfl (tin 1 53 (by decide +kernel) rfl) (dat dk_X12_init 51 rfl) (by decide) (show (72 : Nat) < 1000000 by decide) ?_
  show To l E_X12_init (108, [(0, .inr (.inr 60))], [.inr (.inr 72), .inr (.inr 60)], (hpx b 73 TB_73 WB_12), 12, 306204) _
  refine to_putR p_c13_51 (dat dk_X12_init 52 rfl) rfl ?_
  show To l E_X12_init (111, [(0, .inr (.inr 60))], [], (hpx b 73 TB_73 WB_13), 12, 306204) _
  refine to_aload_np (dat dk_X12_init 53 rfl) (by decide) rfl ?_
  refine to_sipush (dat dk_X12_init 54 rfl) (by decide) ?_
  refine to_newarray 1 rfl (by decide) rfl (tin 1 53 (by decide +kernel) rfl) (dat dk_X12_init 55 rfl) (by decide) (show (73 : Nat) < 1000000 by decide) ?_
  show To l E_X12_init (117, [(0, .inr (.inr 60))], [.inr (.inr 73), .inr (.inr 60)], (hpx b 74 TB_74 WB_13), 13, 307164) _
  refine to_putR p_c13_54 (dat dk_X12_init 56 rfl) rfl ?_
  show To l E_X12_init (120, [(0, .inr (.inr 60))], [], (hpx b 74 TB_74 WB_14), 13, 307164) _
  refine to_aload_np (dat dk_X12_init 57 rfl) (by decide) rfl ?_
  refine to_bipush (dat dk_X12_init 58 rfl) (by decide) ?_
  refine to_newarray 0 rfl (by decide) rfl (tin 1 82 (by decide +kernel) rfl) (dat dk_X12_init 59 rfl) (by decide) (show (74 : Nat) < 1000000 by decide) ?_
  show To l E_X12_init (125, [(0, .inr (.inr 60))], [.inr (.inr 74), .inr (.inr 60)], (hpx b 75 TB_75 WB_14), 14, 307180) _
  refine to_putR p_c13_57 (dat dk_X12_init 60 rfl) rfl ?_
  show To l E_X12_init (128, [(0, .inr (.inr 60))], [], (hpx b 75 TB_75 WB_15), 14, 307180) _
  refine to_aload_np (dat dk_X12_init 61 rfl) (by decide) rfl ?_
  refine to_sipush (dat dk_X12_init 62 rfl) (by decide) ?_
  refine to_newarray 1 rfl (by decide) rfl (tin 1 53 (by decide +kernel) rfl) (dat dk_X12_init 63 rfl) (by decide) (show (75 : Nat) < 1000000 by decide) ?_
  show To l E_X12_init (134, [(0, .inr (.inr 60))], [.inr (.inr 75), .inr (.inr 60)], (hpx b 76 TB_76 WB_15), 15, 308480) _
  refine to_putR p_c13_60 (dat dk_X12_init 64 rfl) rfl ?_
  show To l E_X12_init (137, [(0, .inr (.inr 60))], [], (hpx b 76 TB_76 WB_16), 15, 308480) _
  refine to_aload_np (dat dk_X12_init 65 rfl) (by decide) rfl ?_
  refine to_sipush (dat dk_X12_init 66 rfl) (by decide) ?_
  refine to_newarray 1 rfl (by decide) rfl (tin 1 53 (by decide +kernel) rfl) (dat dk_X12_init 67 rfl) (by decide) (show (76 : Nat) < 1000000 by decide) ?_
  show To l E_X12_init (143, [(0, .inr (.inr 60))], [.inr (.inr 76), .inr (.inr 60)], (hpx b 77 TB_77 WB_16), 16, 312480) _
  refine to_putR p_c13_63 (dat dk_X12_init 68 rfl) rfl ?_
  show To l E_X12_init (146, [(0, .inr (.inr 60))], [], (hpx b 77 TB_77 WB_17), 16, 312480) _
  refine to_aload_np (dat dk_X12_init 69 rfl) (by decide) rfl ?_
  refine to_sipush (dat dk_X12_init 70 rfl) (by decide) ?_
  refine to_newarray 1 rfl (by decide) rfl (tin 1 53 (by decide +kernel) rfl) (dat dk_X12_init 71 rfl) (by decide) (show (77 : Nat) < 1000000 by decide) ?_
  show To l E_X12_init (152, [(0, .inr (.inr 60))], [.inr (.inr 77), .inr (.inr 60)], (hpx b 78 TB_78 WB_17), 17, 313780) _
  refine to_putR p_c13_66 (dat dk_X12_init 72 rfl) rfl ?_
  show To l E_X12_init (155, [(0, .inr (.inr 60))], [], (hpx b 78 TB_78 WB_18), 17, 313780) _
  refine to_aload_np (dat dk_X12_init 73 rfl) (by decide) rfl ?_
  refine to_sipush (dat dk_X12_init 74 rfl) (by decide) ?_
  refine to_newarray 0 rfl (by decide) rfl (tin 1 82 (by decide +kernel) rfl) (dat dk_X12_init 75 rfl) (by decide) (show (78 : Nat) < 1000000 by decide) ?_
  show To l E_X12_init (161, [(0, .inr (.inr 60))], [.inr (.inr 78), .inr (.inr 60)], (hpx b 79 TB_79 WB_18), 18, 317780) _
  refine to_putR p_c13_69 (dat dk_X12_init 76 rfl) rfl ?_
  show To l E_X12_init (164, [(0, .inr (.inr 60))], [], (hpx b 79 TB_79 WB_19), 18, 317780) _
  refine to_aload_np (dat dk_X12_init 77 rfl) (by decide) rfl ?_
  refine to_sipush (dat dk_X12_init 78 rfl) (by decide) ?_
  refine to_newarray 0 rfl (by decide) rfl (tin 1 82 (by decide +kernel) rfl) (dat dk_X12_init 79 rfl) (by decide) (show (79 : Nat) < 1000000 by decide) ?_
  show To l E_X12_init (170, [(0, .inr (.inr 60))], [.inr (.inr 79), .inr (.inr 60)], (hpx b 80 TB_80 WB_19), 19, 321780) _
  refine to_putR p_c13_72 (dat dk_X12_init 80 rfl) rfl ?_
  show To l E_X12_init (173, [(0, .inr (.inr 60))], [], (hpx b 80 TB_80 WB_20), 19, 321780) _
  refine to_aload_np (dat dk_X12_init 81 rfl) (by decide) rfl ?_
  refine to_sipush (dat dk_X12_init 82 rfl) (by decide) ?_
  refine to_newarray 0 rfl (by decide) rfl (tin 1 82 (by decide +kernel) rfl) (dat dk_X12_init 83 rfl) (by decide) (show (80 : Nat) < 1000000 by decide) ?_
  show To l E_X12_init (179, [(0, .inr (.inr 60))], [.inr (.inr 80), .inr (.inr 60)], (hpx b 81 TB_81 WB_20), 20, 325780) _
  refine to_putR p_c13_75 (dat dk_X12_init 84 rfl) rfl ?_
  show To l E_X12_init (182, [(0, .inr (.inr 60))], [], (hpx b 81 TB_81 WB_21), 20, 325780) _
  refine to_aload_np (dat dk_X12_init 85 rfl) (by decide) rfl ?_
  refine to_sipush (dat dk_X12_init 86 rfl) (by decide) ?_
  refine to_newarray 0 rfl (by decide) rfl (tin 1 82 (by decide +kernel) rfl) (dat dk_X12_init 87 rfl) (by decide) (show (81 : Nat) < 1000000 by decide) ?_
  show To l E_X12_init (188, [(0, .inr (.inr 60))], [.inr (.inr 81), .inr (.inr 60)], (hpx b 82 TB_82 WB_21), 21, 327080) _
  refine to_putR p_c13_78 (dat dk_X12_init 88 rfl) rfl ?_
  show To l E_X12_init (191, [(0, .inr (.inr 60))], [], (hpx b 82 TB_82 WB_22), 21, 327080) _
  refine to_aload_np (dat dk_X12_init 89 rfl) (by decide) rfl ?_
  refine to_sipush (dat dk_X12_init 90 rfl) (by decide) ?_
  refine to_newarray 0 rfl (by decide) rfl (tin 1 82 (by decide +kernel) rfl) (dat dk_X12_init 91 rfl) (by decide) (show (82 : Nat) < 1000000 by decide) ?_
  show To l E_X12_init (197, [(0, .inr (.inr 60))], [.inr (.inr 82), .inr (.inr 60)], (hpx b 83 TB_83 WB_22), 22, 328380) _
  refine to_putR p_c13_81 (dat dk_X12_init 92 rfl) rfl ?_
  show To l E_X12_init (200, [(0, .inr (.inr 60))], [], (hpx b 83 TB_83 WB_23), 22, 328380) _
  refine to_aload_np (dat dk_X12_init 93 rfl) (by decide) rfl ?_
  refine to_ldc (v := 72000) (tin 6 159 (by decide +kernel) rfl) rfl (dat dk_X12_init 94 rfl) ?_
  refine to_newarray 1 rfl (by decide) rfl (tin 1 53 (by decide +kernel) rfl) (dat dk_X12_init 95 rfl) (by decide) (show (83 : Nat) < 1000000 by decide) ?_
  show To l E_X12_init (205, [(0, .inr (.inr 60))], [.inr (.inr 83), .inr (.inr 60)], (hpx b 84 TB_84 WB_23), 23, 400380) _
  refine to_putR p_c13_85 (dat dk_X12_init 96 rfl) rfl ?_
  show To l E_X12_init (208, [(0, .inr (.inr 60))], [], (hpx b 84 TB_84 WB_24), 23, 400380) _
  refine to_aload_np (dat dk_X12_init 97 rfl) (by decide) rfl ?_
  refine to_sipush (dat dk_X12_init 98 rfl) (by decide) ?_
  refine to_newarray 0 rfl (by decide) rfl (tin 1 82 (by decide +kernel) rfl) (dat dk_X12_init 99 rfl) (by decide) (show (84 : Nat) < 1000000 by decide) ?_
  show To l E_X12_init (214, [(0, .inr (.inr 60))], [.inr (.inr 84), .inr (.inr 60)], (hpx b 85 TB_85 WB_24), 24, 401580) _
  refine to_putR p_c13_88 (dat dk_X12_init 100 rfl) rfl ?_
  show To l E_X12_init (217, [(0, .inr (.inr 60))], [], (hpx b 85 TB_85 WB_25), 24, 401580) _
  refine to_aload_np (dat dk_X12_init 101 rfl) (by decide) rfl ?_
  refine to_sipush (dat dk_X12_init 102 rfl) (by decide) ?_
  refine to_newarray 0 rfl (by decide) rfl (tin 1 82 (by decide +kernel) rfl) (dat dk_X12_init 103 rfl) (by decide) (show (85 : Nat) < 1000000 by decide) ?_
  show To l E_X12_init (223, [(0, .inr (.inr 60))], [.inr (.inr 85), .inr (.inr 60)], (hpx b 86 TB_86 WB_25), 25, 402780) _
  refine to_putR p_c13_91 (dat dk_X12_init 104 rfl) rfl ?_
  show To l E_X12_init (226, [(0, .inr (.inr 60))], [], (hpx b 86 TB_86 WB_26), 25, 402780) _
  refine to_aload_np (dat dk_X12_init 105 rfl) (by decide) rfl ?_
  refine to_sipush (dat dk_X12_init 106 rfl) (by decide) ?_
  refine to_newarray 0 rfl (by decide) rfl (tin 1 82 (by decide +kernel) rfl) (dat dk_X12_init 107 rfl) (by decide) (show (86 : Nat) < 1000000 by decide) ?_
  show To l E_X12_init (232, [(0, .inr (.inr 60))], [.inr (.inr 86), .inr (.inr 60)], (hpx b 87 TB_87 WB_26), 26, 403980) _
  refine to_putR p_c13_94 (dat dk_X12_init 108 rfl) rfl ?_
  show To l E_X12_init (235, [(0, .inr (.inr 60))], [], (hpx b 87 TB_87 WB_27), 26, 403980) _
  refine to_aload_np (dat dk_X12_init 109 rfl) (by decide) rfl ?_
  refine to_sipush (dat dk_X12_init 110 rfl) (by decide) ?_
  refine to_newarray 0 rfl (by decide) rfl (tin 1 82 (by decide +kernel) rfl) (dat dk_X12_init 111 rfl) (by decide) (show (87 : Nat) < 1000000 by decide) ?_
  show To l E_X12_init (241, [(0, .inr (.inr 60))], [.inr (.inr 87), .inr (.inr 60)], (hpx b 88 TB_88 WB_27), 27, 404180) _
  refine to_putR p_c13_97 (dat dk_X12_init 112 rfl) rfl ?_
  show To l E_X12_init (244, [(0, .inr (.inr 60))], [], (hpx b 88 TB_88 WB_28), 27, 404180) _
  refine to_aload_np (dat dk_X12_init 113 rfl) (by decide) rfl ?_
  refine to_sipush (dat dk_X12_init 114 rfl) (by decide) ?_
  refine to_newarray 1 rfl (by decide) rfl (tin 1 53 (by decide +kernel) rfl) (dat dk_X12_init 115 rfl) (by decide) (show (88 : Nat) < 1000000 by decide) ?_
  show To l E_X12_init (250, [(0, .inr (.inr 60))], [.inr (.inr 88), .inr (.inr 60)], (hpx b 89 TB_89 WB_28), 28, 405380) _
  refine to_putR p_c13_100 (dat dk_X12_init 116 rfl) rfl ?_
  show To l E_X12_init (253, [(0, .inr (.inr 60))], [], (hpx b 89 TB_89 WB_29), 28, 405380) _
  refine to_aload_np (dat dk_X12_init 117 rfl) (by decide) rfl ?_
  refine to_sipush (dat dk_X12_init 118 rfl) (by decide) ?_
  refine to_newarray 0 rfl (by decide) rfl (tin 1 82 (by decide +kernel) rfl) (dat dk_X12_init 119 rfl) (by decide) (show (89 : Nat) < 1000000 by decide) ?_
  show To l E_X12_init (259, [(0, .inr (.inr 60))], [.inr (.inr 89), .inr (.inr 60)], (hpx b 90 TB_90 WB_29), 29, 406190) _
  refine to_putR p_c13_103 (dat dk_X12_init 120 rfl) rfl ?_
  show To l E_X12_init (262, [(0, .inr (.inr 60))], [], (hpx b 90 TB_90 WB_30), 29, 406190) _
  refine to_aload_np (dat dk_X12_init 121 rfl) (by decide) rfl ?_
  refine to_sipush (dat dk_X12_init 122 rfl) (by decide) ?_
  refine to_newarray 0 rfl (by decide) rfl (tin 1 82 (by decide +kernel) rfl) (dat dk_X12_init 123 rfl) (by decide) (show (90 : Nat) < 1000000 by decide) ?_
  show To l E_X12_init (268, [(0, .inr (.inr 60))], [.inr (.inr 90), .inr (.inr 60)], (hpx b 91 TB_91 WB_30), 30, 407000) _
  refine to_putR p_c13_106 (dat dk_X12_init 124 rfl) rfl ?_
  show To l E_X12_init (271, [(0, .inr (.inr 60))], [], (hpx b 91 TB_91 WB_31), 30, 407000) _
  refine to_aload_np (dat dk_X12_init 125 rfl) (by decide) rfl ?_
  refine to_sipush (dat dk_X12_init 126 rfl) (by decide) ?_
  refine to_newarray 0 rfl (by decide) rfl (tin 1 82 (by decide +kernel) rfl) (dat dk_X12_init 127 rfl) (by decide) (show (91 : Nat) < 1000000 by decide) ?_
  show To l E_X12_init (277, [(0, .inr (.inr 60))], [.inr (.inr 91), .inr (.inr 60)], (hpx b 92 TB_92 WB_31), 31, 407810) _
  refine to_putR p_c13_109 (dat dk_X12_init 128 rfl) rfl ?_
  show To l E_X12_init (280, [(0, .inr (.inr 60))], [], (hpx b 92 TB_92 WB_32), 31, 407810) _
  refine to_aload_np (dat dk_X12_init 129 rfl) (by decide) rfl ?_
  refine to_sipush (dat dk_X12_init 130 rfl) (by decide) ?_
  refine to_newarray 2 rfl (by decide) rfl (tin 2 25 (by decide +kernel) rfl) (dat dk_X12_init 131 rfl) (by decide) (show (92 : Nat) < 1000000 by decide) ?_
  show To l E_X12_init (286, [(0, .inr (.inr 60))], [.inr (.inr 92), .inr (.inr 60)], (hpx b 93 TB_93 WB_32), 32, 408620) _
  refine to_putR p_c13_112 (dat dk_X12_init 132 rfl) rfl ?_
  show To l E_X12_init (289, [(0, .inr (.inr 60))], [], (hpx b 93 TB_93 WB_33), 32, 408620) _
  refine to_aload_np (dat dk_X12_init 133 rfl) (by decide) rfl ?_
  refine to_sipush (dat dk_X12_init 134 rfl) (by decide) ?_
  refine to_newarray 3 rfl (by decide) rfl (tin 2 24 (by decide +kernel) rfl) (dat dk_X12_init 135 rfl) (by decide) (show (93 : Nat) < 1000000 by decide) ?_
  show To l E_X12_init (295, [(0, .inr (.inr 60))], [.inr (.inr 93), .inr (.inr 60)], (hpx b 94 TB_94 WB_33), 33, 409430) _
  refine to_putR p_c13_115 (dat dk_X12_init 136 rfl) rfl ?_
  show To l E_X12_init (298, [(0, .inr (.inr 60))], [], (hpx b 94 TB_94 WB_34), 33, 409430) _
  refine to_aload_np (dat dk_X12_init 137 rfl) (by decide) rfl ?_
  refine to_sipush (dat dk_X12_init 138 rfl) (by decide) ?_
  refine to_newarray 3 rfl (by decide) rfl (tin 2 24 (by decide +kernel) rfl) (dat dk_X12_init 139 rfl) (by decide) (show (94 : Nat) < 1000000 by decide) ?_
  show To l E_X12_init (304, [(0, .inr (.inr 60))], [.inr (.inr 94), .inr (.inr 60)], (hpx b 95 TB_95 WB_34), 34, 410240) _
  refine to_putR p_c13_119 (dat dk_X12_init 140 rfl) rfl ?_
  show To l E_X12_init (307, [(0, .inr (.inr 60))], [], (hpx b 95 TB_95 WB_35), 34, 410240) _
  refine to_aload_np (dat dk_X12_init 141 rfl) (by decide) rfl ?_
  refine to_sipush (dat dk_X12_init 142 rfl) (by decide) ?_
  refine to_newarray 0 rfl (by decide) rfl (tin 1 82 (by decide +kernel) rfl) (dat dk_X12_init 143 rfl) (by decide) (show (95 : Nat) < 1000000 by decide) ?_
  show To l E_X12_init (313, [(0, .inr (.inr 60))], [.inr (.inr 95), .inr (.inr 60)], (hpx b 96 TB_96 WB_35), 35, 413240) _
  refine to_putR p_c13_122 (dat dk_X12_init 144 rfl) rfl ?_
  show To l E_X12_init (316, [(0, .inr (.inr 60))], [], (hpx b 96 TB_96 WB_36), 35, 413240) _
  refine to_aload_np (dat dk_X12_init 145 rfl) (by decide) rfl ?_
  refine to_sipush (dat dk_X12_init 146 rfl) (by decide) ?_
  refine to_newarray 0 rfl (by decide) rfl (tin 1 82 (by decide +kernel) rfl) (dat dk_X12_init 147 rfl) (by decide) (show (96 : Nat) < 1000000 by decide) ?_
  show To l E_X12_init (322, [(0, .inr (.inr 60))], [.inr (.inr 96), .inr (.inr 60)], (hpx b 97 TB_97 WB_36), 36, 414540) _
  refine to_putR p_c13_125 (dat dk_X12_init 148 rfl) rfl ?_
  show To l E_X12_init (325, [(0, .inr (.inr 60))], [], (hpx b 97 TB_97 WB_37), 36, 414540) _
  refine to_aload_np (dat dk_X12_init 149 rfl) (by decide) rfl ?_
  refine to_sipush (dat dk_X12_init 150 rfl) (by decide) ?_
  refine to_newarray 2 rfl (by decide) rfl (tin 2 25 (by decide +kernel) rfl) (dat dk_X12_init 151 rfl) (by decide) (show (97 : Nat) < 1000000 by decide) ?_
  show To l E_X12_init (331, [(0, .inr (.inr 60))], [.inr (.inr 97), .inr (.inr 60)], (hpx b 98 TB_98 WB_37), 37, 415840) _
  refine to_putR p_c13_128 (dat dk_X12_init 152 rfl) rfl ?_
  show To l E_X12_init (334, [(0, .inr (.inr 60))], [], (hpx b 98 TB_98 WB_38), 37, 415840) _
  refine to_aload_np (dat dk_X12_init 153 rfl) (by decide) rfl ?_
  refine to_sipush (dat dk_X12_init 154 rfl) (by decide) ?_
  refine to_newarray 1 rfl (by decide) rfl (tin 1 53 (by decide +kernel) rfl) (dat dk_X12_init 155 rfl) (by decide) (show (98 : Nat) < 1000000 by decide) ?_
  show To l E_X12_init (340, [(0, .inr (.inr 60))], [.inr (.inr 98), .inr (.inr 60)], (hpx b 99 TB_99 WB_38), 38, 426080) _
  refine to_putR p_c13_131 (dat dk_X12_init 156 rfl) rfl ?_
  show To l E_X12_init (343, [(0, .inr (.inr 60))], [], (hpx b 99 TB_99 WB_39), 38, 426080) _
  refine to_aload_np (dat dk_X12_init 157 rfl) (by decide) rfl ?_
  refine to_sipush (dat dk_X12_init 158 rfl) (by decide) ?_
  refine to_newarray 0 rfl (by decide) rfl (tin 1 82 (by decide +kernel) rfl) (dat dk_X12_init 159 rfl) (by decide) (show (99 : Nat) < 1000000 by decide) ?_
  show To l E_X12_init (349, [(0, .inr (.inr 60))], [.inr (.inr 99), .inr (.inr 60)], (hpx b 100 TB_100 WB_39), 39, 426720) _
  refine to_putR p_c13_134 (dat dk_X12_init 160 rfl) rfl ?_
  show To l E_X12_init (352, [(0, .inr (.inr 60))], [], (hpx b 100 TB_100 WB_40), 39, 426720) _
  refine to_aload_np (dat dk_X12_init 161 rfl) (by decide) rfl ?_
  refine to_sipush (dat dk_X12_init 162 rfl) (by decide) ?_
  refine to_newarray 0 rfl (by decide) rfl (tin 1 82 (by decide +kernel) rfl) (dat dk_X12_init 163 rfl) (by decide) (show (100 : Nat) < 1000000 by decide) ?_
  show To l E_X12_init (358, [(0, .inr (.inr 60))], [.inr (.inr 100), .inr (.inr 60)], (hpx b 101 TB_101 WB_40), 40, 426920) _
  refine to_putR p_c13_137 (dat dk_X12_init 164 rfl) rfl ?_
  show To l E_X12_init (361, [(0, .inr (.inr 60))], [], (hpx b 101 TB_101 WB_41), 40, 426920) _
  refine to_aload_np (dat dk_X12_init 165 rfl) (by decide) rfl ?_
  refine to_sipush (dat dk_X12_init 166 rfl) (by decide) ?_
  refine to_newarray 0 rfl (by decide) rfl (tin 1 82 (by decide +kernel) rfl) (dat dk_X12_init 167 rfl) (by decide) (show (101 : Nat) < 1000000 by decide) ?_
  show To l E_X12_init (367, [(0, .inr (.inr 60))], [.inr (.inr 101), .inr (.inr 60)], (hpx b 102 TB_102 WB_41), 41, 427120) _
  refine to_putR p_c13_140 (dat dk_X12_init 168 rfl) rfl ?_
  show To l E_X12_init (370, [(0, .inr (.inr 60))], [], (hpx b 102 TB_102 WB_42), 41, 427120) _
  refine to_aload_np (dat dk_X12_init 169 rfl) (by decide) rfl ?_
  refine to_sipush (dat dk_X12_init 170 rfl) (by decide) ?_
  refine to_newarray 3 rfl (by decide) rfl (tin 2 24 (by decide +kernel) rfl) (dat dk_X12_init 171 rfl) (by decide) (show (102 : Nat) < 1000000 by decide) ?_
  show To l E_X12_init (376, [(0, .inr (.inr 60))], [.inr (.inr 102), .inr (.inr 60)], (hpx b 103 TB_103 WB_42), 42, 427320) _
  refine to_putR p_c13_143 (dat dk_X12_init 172 rfl) rfl ?_
  show To l E_X12_init (379, [(0, .inr (.inr 60))], [], (hpx b 103 TB_103 WB_43), 42, 427320) _
  refine to_aload_np (dat dk_X12_init 173 rfl) (by decide) rfl ?_
  refine to_ldc (v := 640000) (tin 6 160 (by decide +kernel) rfl) rfl (dat dk_X12_init 174 rfl) ?_
  refine to_newarray 1 rfl (by decide) rfl (tin 1 53 (by decide +kernel) rfl) (dat dk_X12_init 175 rfl) (by decide) (show (103 : Nat) < 1000000 by decide) ?_
  show To l E_X12_init (384, [(0, .inr (.inr 60))], [.inr (.inr 103), .inr (.inr 60)], (hpx b 104 TB_104 WB_43), 43, 1067320) _
  refine to_putR p_c13_147 (dat dk_X12_init 176 rfl) rfl ?_
  show To l E_X12_init (387, [(0, .inr (.inr 60))], [], (hpx b 104 TB_104 WB_44), 43, 1067320) _
  refine to_aload_np (dat dk_X12_init 177 rfl) (by decide) rfl ?_
  refine to_ldc (v := 40000) (tin 6 161 (by decide +kernel) rfl) rfl (dat dk_X12_init 178 rfl) ?_
  refine to_newarray 0 rfl (by decide) rfl (tin 1 82 (by decide +kernel) rfl) (dat dk_X12_init 179 rfl) (by decide) (show (104 : Nat) < 1000000 by decide) ?_
  show To l E_X12_init (392, [(0, .inr (.inr 60))], [.inr (.inr 104), .inr (.inr 60)], (hpx b 105 TB_105 WB_44), 44, 1107320) _
  refine to_putR p_c13_151 (dat dk_X12_init 180 rfl) rfl ?_
  show To l E_X12_init (395, [(0, .inr (.inr 60))], [], (hpx b 105 TB_105 WB_45), 44, 1107320) _
  exact to_vret rfl (dat dk_X12_init 181 rfl) (rv_mka ⟨rfl, rfl, rfl⟩)
