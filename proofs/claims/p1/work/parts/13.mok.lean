/-! Their code and names are the tables'. -/
theorem vsv_ok : ∀ x ∈ ([(1, .inr (.inr (.float 2))), (3, .inr (.inr (.float 4))), (5, .inr (.inr (.float 6)))] : List (Nat × AV)), (x.1, "java/lang/String", "value", "[B", x.2) ∈ xOF := by
  intro x hx
  simp only [List.mem_cons, List.not_mem_nil, or_false] at hx
  rcases hx with rfl | rfl | rfl
  · exact List.mem_of_getElem? (i := 0) rfl
  · exact List.mem_of_getElem? (i := 2) rfl
  · exact List.mem_of_getElem? (i := 4) rfl
theorem vsc_ok : ∀ x ∈ ([(1, .inl 0), (3, .inl 0), (5, .inl 0)] : List (Nat × AV)), (x.1, "java/lang/String", "coder", "B", x.2) ∈ xOF := by
  intro x hx
  simp only [List.mem_cons, List.not_mem_nil, or_false] at hx
  rcases hx with rfl | rfl | rfl
  · exact List.mem_of_getElem? (i := 1) rfl
  · exact List.mem_of_getElem? (i := 3) rfl
  · exact List.mem_of_getElem? (i := 5) rfl
theorem vso_ok : ∀ x ∈ ([1, 3, 5] : List Nat), (x, "java/lang/String") ∈ xO := by
  intro x hx
  simp only [List.mem_cons, List.not_mem_nil, or_false] at hx
  rcases hx with rfl | rfl | rfl
  · exact List.mem_of_getElem? (i := 0) rfl
  · exact List.mem_of_getElem? (i := 1) rfl
  · exact List.mem_of_getElem? (i := 2) rfl
set_option maxRecDepth 100000 in
theorem mok_0 : MOK D_0 0 := ⟨tin 1 36 (by decide +kernel) rfl, by decide +kernel, by decide +kernel, by decide +kernel⟩
set_option maxRecDepth 100000 in
theorem mok_1 : MOK D_1 1 := ⟨tin 1 44 (by decide +kernel) rfl, by decide +kernel, by decide +kernel, by decide +kernel⟩
set_option maxRecDepth 100000 in
theorem mok_2 : MOK D_2 0 := ⟨tin 1 58 (by decide +kernel) rfl, by decide +kernel, by decide +kernel, by decide +kernel⟩
set_option maxRecDepth 100000 in
theorem mok_3 : MOK D_3 0 := ⟨tin 1 87 (by decide +kernel) rfl, by decide +kernel, by decide +kernel, by decide +kernel⟩
set_option maxRecDepth 100000 in
theorem mok_4 : MOK D_4 0 := ⟨tin 1 90 (by decide +kernel) rfl, by decide +kernel, by decide +kernel, by decide +kernel⟩
set_option maxRecDepth 100000 in
theorem mok_5 : MOK D_5 0 := ⟨tin 1 93 (by decide +kernel) rfl, by decide +kernel, by decide +kernel, by decide +kernel⟩
set_option maxRecDepth 100000 in
theorem mok_6 : MOK D_6 2 := ⟨tin 1 113 (by decide +kernel) rfl, by decide +kernel, by decide +kernel, by decide +kernel⟩
set_option maxRecDepth 100000 in
theorem mok_7 : MOK D_7 3 := ⟨tin 1 141 (by decide +kernel) rfl, by decide +kernel, by decide +kernel, by decide +kernel⟩
set_option maxRecDepth 100000 in
theorem mok_8 : MOK D_8 1 := ⟨tin 1 149 (by decide +kernel) rfl, by decide +kernel, by decide +kernel, by decide +kernel⟩
set_option maxRecDepth 100000 in
theorem mok_9 : MOK D_9 6 := ⟨tin 1 219 (by decide +kernel) rfl, by decide +kernel, by decide +kernel, by decide +kernel⟩
set_option maxRecDepth 100000 in
theorem mok_10 : MOK D_10 1 := ⟨tin 1 227 (by decide +kernel) rfl, by decide +kernel, by decide +kernel, by decide +kernel⟩
set_option maxRecDepth 100000 in
theorem mok_11 : MOK D_11 5 := ⟨tin 2 82 (by decide +kernel) rfl, by decide +kernel, by decide +kernel, by decide +kernel⟩
set_option maxRecDepth 100000 in
theorem mok_12 : MOK D_12 0 := ⟨tin 2 86 (by decide +kernel) rfl, by decide +kernel, by decide +kernel, by decide +kernel⟩
set_option maxRecDepth 100000 in
theorem mok_13 : MOK D_13 1 := ⟨tin 2 90 (by decide +kernel) rfl, by decide +kernel, by decide +kernel, by decide +kernel⟩
set_option maxRecDepth 100000 in
theorem mok_14 : MOK D_14 1 := ⟨tin 2 94 (by decide +kernel) rfl, by decide +kernel, by decide +kernel, by decide +kernel⟩
set_option maxRecDepth 100000 in
theorem mok_15 : MOK D_15 0 := ⟨tin 6 155 (by decide +kernel) rfl, by decide +kernel, by decide +kernel, by decide +kernel⟩
set_option maxRecDepth 100000 in
theorem mok_16 : MOK D_16 5 := ⟨tin 2 150 (by decide +kernel) rfl, by decide +kernel, by decide +kernel, by decide +kernel⟩
set_option maxRecDepth 100000 in
theorem mok_17 : MOK D_17 1 := ⟨tin 2 154 (by decide +kernel) rfl, by decide +kernel, by decide +kernel, by decide +kernel⟩
set_option maxRecDepth 100000 in
theorem mok_18 : MOK D_18 0 := ⟨tin 2 158 (by decide +kernel) rfl, by decide +kernel, by decide +kernel, by decide +kernel⟩
set_option maxRecDepth 100000 in
theorem mok_19 : MOK D_19 3 := ⟨tin 2 162 (by decide +kernel) rfl, by decide +kernel, by decide +kernel, by decide +kernel⟩
set_option maxRecDepth 100000 in
theorem mok_20 : MOK D_20 1 := ⟨tin 2 166 (by decide +kernel) rfl, by decide +kernel, by decide +kernel, by decide +kernel⟩
set_option maxRecDepth 100000 in
theorem mok_21 : MOK D_21 0 := ⟨tin 3 81 (by decide +kernel) rfl, by decide +kernel, by decide +kernel, by decide +kernel⟩
set_option maxRecDepth 100000 in
theorem mok_22 : MOK D_22 0 := ⟨tin 2 190 (by decide +kernel) rfl, by decide +kernel, by decide +kernel, by decide +kernel⟩
set_option maxRecDepth 100000 in
theorem mok_23 : MOK D_23 1 := ⟨tin 3 152 (by decide +kernel) rfl, by decide +kernel, by decide +kernel, by decide +kernel⟩
set_option maxRecDepth 100000 in
theorem mok_24 : MOK D_24 2 := ⟨tin 3 157 (by decide +kernel) rfl, by decide +kernel, by decide +kernel, by decide +kernel⟩
set_option maxRecDepth 100000 in
theorem mok_25 : MOK D_25 2 := ⟨tin 3 160 (by decide +kernel) rfl, by decide +kernel, by decide +kernel, by decide +kernel⟩
set_option maxRecDepth 100000 in
theorem mok_26 : MOK D_26 0 := ⟨tin 4 30 (by decide +kernel) rfl, by decide +kernel, by decide +kernel, by decide +kernel⟩
set_option maxRecDepth 100000 in
theorem mok_27 : MOK D_27 2 := ⟨tin 4 34 (by decide +kernel) rfl, by decide +kernel, by decide +kernel, by decide +kernel⟩
set_option maxRecDepth 100000 in
theorem mok_28 : MOK D_28 0 := ⟨tin 4 41 (by decide +kernel) rfl, by decide +kernel, by decide +kernel, by decide +kernel⟩
set_option maxRecDepth 100000 in
theorem mok_29 : MOK D_29 1 := ⟨tin 4 45 (by decide +kernel) rfl, by decide +kernel, by decide +kernel, by decide +kernel⟩
set_option maxRecDepth 100000 in
theorem mok_30 : MOK D_30 2 := ⟨tin 4 48 (by decide +kernel) rfl, by decide +kernel, by decide +kernel, by decide +kernel⟩
set_option maxRecDepth 100000 in
theorem mok_31 : MOK D_31 2 := ⟨tin 4 57 (by decide +kernel) rfl, by decide +kernel, by decide +kernel, by decide +kernel⟩
set_option maxRecDepth 100000 in
theorem mok_32 : MOK D_32 3 := ⟨tin 4 60 (by decide +kernel) rfl, by decide +kernel, by decide +kernel, by decide +kernel⟩
set_option maxRecDepth 100000 in
theorem mok_33 : MOK D_33 2 := ⟨tin 4 65 (by decide +kernel) rfl, by decide +kernel, by decide +kernel, by decide +kernel⟩
set_option maxRecDepth 100000 in
theorem mok_34 : MOK D_34 2 := ⟨tin 4 69 (by decide +kernel) rfl, by decide +kernel, by decide +kernel, by decide +kernel⟩
set_option maxRecDepth 100000 in
theorem mok_35 : MOK D_35 3 := ⟨tin 4 72 (by decide +kernel) rfl, by decide +kernel, by decide +kernel, by decide +kernel⟩
set_option maxRecDepth 100000 in
theorem mok_36 : MOK D_36 0 := ⟨tin 3 205 (by decide +kernel) rfl, by decide +kernel, by decide +kernel, by decide +kernel⟩
set_option maxRecDepth 100000 in
theorem mok_37 : MOK D_37 0 := ⟨tin 3 209 (by decide +kernel) rfl, by decide +kernel, by decide +kernel, by decide +kernel⟩
set_option maxRecDepth 100000 in
theorem mok_38 : MOK D_38 1 := ⟨tin 3 219 (by decide +kernel) rfl, by decide +kernel, by decide +kernel, by decide +kernel⟩
set_option maxRecDepth 100000 in
theorem mok_39 : MOK D_39 1 := ⟨tin 3 223 (by decide +kernel) rfl, by decide +kernel, by decide +kernel, by decide +kernel⟩
set_option maxRecDepth 100000 in
theorem mok_40 : MOK D_40 0 := ⟨tin 3 227 (by decide +kernel) rfl, by decide +kernel, by decide +kernel, by decide +kernel⟩
set_option maxRecDepth 100000 in
theorem mok_41 : MOK D_41 2 := ⟨tin 3 230 (by decide +kernel) rfl, by decide +kernel, by decide +kernel, by decide +kernel⟩
set_option maxRecDepth 100000 in
theorem mok_42 : MOK D_42 2 := ⟨tin 3 233 (by decide +kernel) rfl, by decide +kernel, by decide +kernel, by decide +kernel⟩
set_option maxRecDepth 100000 in
theorem mok_43 : MOK D_43 3 := ⟨tin 2 200 (by decide +kernel) rfl, by decide +kernel, by decide +kernel, by decide +kernel⟩
set_option maxRecDepth 100000 in
theorem mok_44 : MOK D_44 3 := ⟨tin 4 79 (by decide +kernel) rfl, by decide +kernel, by decide +kernel, by decide +kernel⟩
set_option maxRecDepth 100000 in
theorem mok_45 : MOK D_45 3 := ⟨tin 4 82 (by decide +kernel) rfl, by decide +kernel, by decide +kernel, by decide +kernel⟩
set_option maxRecDepth 100000 in
theorem mok_46 : MOK D_46 3 := ⟨tin 4 91 (by decide +kernel) rfl, by decide +kernel, by decide +kernel, by decide +kernel⟩
set_option maxRecDepth 100000 in
theorem mok_47 : MOK D_47 0 := ⟨tin 4 105 (by decide +kernel) rfl, by decide +kernel, by decide +kernel, by decide +kernel⟩
set_option maxRecDepth 100000 in
theorem mok_48 : MOK D_48 3 := ⟨tin 4 109 (by decide +kernel) rfl, by decide +kernel, by decide +kernel, by decide +kernel⟩
set_option maxRecDepth 100000 in
theorem mok_49 : MOK D_49 2 := ⟨tin 4 113 (by decide +kernel) rfl, by decide +kernel, by decide +kernel, by decide +kernel⟩
set_option maxRecDepth 100000 in
theorem mok_50 : MOK D_50 0 := ⟨tin 4 161 (by decide +kernel) rfl, by decide +kernel, by decide +kernel, by decide +kernel⟩
set_option maxRecDepth 100000 in
theorem mok_51 : MOK D_51 1 := ⟨tin 4 165 (by decide +kernel) rfl, by decide +kernel, by decide +kernel, by decide +kernel⟩
set_option maxRecDepth 100000 in
theorem mok_52 : MOK D_52 2 := ⟨tin 4 168 (by decide +kernel) rfl, by decide +kernel, by decide +kernel, by decide +kernel⟩
set_option maxRecDepth 100000 in
theorem mok_53 : MOK D_53 2 := ⟨tin 4 152 (by decide +kernel) rfl, by decide +kernel, by decide +kernel, by decide +kernel⟩
set_option maxRecDepth 100000 in
theorem mok_54 : MOK D_54 2 := ⟨tin 4 173 (by decide +kernel) rfl, by decide +kernel, by decide +kernel, by decide +kernel⟩
set_option maxRecDepth 100000 in
theorem mok_55 : MOK D_55 1 := ⟨tin 4 209 (by decide +kernel) rfl, by decide +kernel, by decide +kernel, by decide +kernel⟩
set_option maxRecDepth 100000 in
theorem mok_56 : MOK D_56 3 := ⟨tin 4 213 (by decide +kernel) rfl, by decide +kernel, by decide +kernel, by decide +kernel⟩
set_option maxRecDepth 100000 in
theorem mok_57 : MOK D_57 0 := ⟨tin 4 221 (by decide +kernel) rfl, by decide +kernel, by decide +kernel, by decide +kernel⟩
set_option maxRecDepth 100000 in
theorem mok_58 : MOK D_58 3 := ⟨tin 4 225 (by decide +kernel) rfl, by decide +kernel, by decide +kernel, by decide +kernel⟩
set_option maxRecDepth 100000 in
theorem mok_59 : MOK D_59 1 := ⟨tin 4 230 (by decide +kernel) rfl, by decide +kernel, by decide +kernel, by decide +kernel⟩
set_option maxRecDepth 100000 in
theorem mok_60 : MOK D_60 0 := ⟨tin 5 4 (by decide +kernel) rfl, by decide +kernel, by decide +kernel, by decide +kernel⟩
set_option maxRecDepth 100000 in
theorem mok_61 : MOK D_61 4 := ⟨tin 4 239 (by decide +kernel) rfl, by decide +kernel, by decide +kernel, by decide +kernel⟩
set_option maxRecDepth 100000 in
theorem mok_62 : MOK D_62 1 := ⟨tin 4 217 (by decide +kernel) rfl, by decide +kernel, by decide +kernel, by decide +kernel⟩
set_option maxRecDepth 100000 in
theorem mok_63 : MOK D_63 1 := ⟨tin 3 182 (by decide +kernel) rfl, by decide +kernel, by decide +kernel, by decide +kernel⟩
set_option maxRecDepth 100000 in
theorem mok_64 : MOK D_64 1 := ⟨tin 3 185 (by decide +kernel) rfl, by decide +kernel, by decide +kernel, by decide +kernel⟩
set_option maxRecDepth 100000 in
theorem mok_65 : MOK D_65 6 := ⟨tin 5 47 (by decide +kernel) rfl, by decide +kernel, by decide +kernel, by decide +kernel⟩
set_option maxRecDepth 100000 in
theorem mok_66 : MOK D_66 1 := ⟨tin 5 88 (by decide +kernel) rfl, by decide +kernel, by decide +kernel, by decide +kernel⟩
set_option maxRecDepth 100000 in
theorem mok_67 : MOK D_67 3 := ⟨tin 5 92 (by decide +kernel) rfl, by decide +kernel, by decide +kernel, by decide +kernel⟩
set_option maxRecDepth 100000 in
theorem mok_68 : MOK D_68 0 := ⟨tin 5 96 (by decide +kernel) rfl, by decide +kernel, by decide +kernel, by decide +kernel⟩
set_option maxRecDepth 100000 in
theorem mok_69 : MOK D_69 1 := ⟨tin 5 100 (by decide +kernel) rfl, by decide +kernel, by decide +kernel, by decide +kernel⟩
set_option maxRecDepth 100000 in
theorem mok_70 : MOK D_70 0 := ⟨tin 5 143 (by decide +kernel) rfl, by decide +kernel, by decide +kernel, by decide +kernel⟩
set_option maxRecDepth 100000 in
theorem mok_71 : MOK D_71 1 := ⟨tin 5 151 (by decide +kernel) rfl, by decide +kernel, by decide +kernel, by decide +kernel⟩
set_option maxRecDepth 100000 in
theorem mok_72 : MOK D_72 1 := ⟨tin 2 232 (by decide +kernel) rfl, by decide +kernel, by decide +kernel, by decide +kernel⟩
set_option maxRecDepth 100000 in
theorem mok_73 : MOK D_73 2 := ⟨tin 5 184 (by decide +kernel) rfl, by decide +kernel, by decide +kernel, by decide +kernel⟩
set_option maxRecDepth 100000 in
theorem mok_74 : MOK D_74 0 := ⟨tin 5 188 (by decide +kernel) rfl, by decide +kernel, by decide +kernel, by decide +kernel⟩
set_option maxRecDepth 100000 in
theorem mok_75 : MOK D_75 0 := ⟨tin 6 1 (by decide +kernel) rfl, by decide +kernel, by decide +kernel, by decide +kernel⟩
set_option maxRecDepth 100000 in
theorem mok_76 : MOK D_76 0 := ⟨tin 6 5 (by decide +kernel) rfl, by decide +kernel, by decide +kernel, by decide +kernel⟩
set_option maxRecDepth 100000 in
theorem mok_77 : MOK D_77 0 := ⟨tin 6 10 (by decide +kernel) rfl, by decide +kernel, by decide +kernel, by decide +kernel⟩
set_option maxRecDepth 100000 in
theorem mok_78 : MOK D_78 1 := ⟨tin 6 14 (by decide +kernel) rfl, by decide +kernel, by decide +kernel, by decide +kernel⟩
set_option maxRecDepth 100000 in
theorem mok_79 : MOK D_79 0 := ⟨tin 6 18 (by decide +kernel) rfl, by decide +kernel, by decide +kernel, by decide +kernel⟩
set_option maxRecDepth 100000 in
theorem mok_80 : MOK D_80 0 := ⟨tin 6 23 (by decide +kernel) rfl, by decide +kernel, by decide +kernel, by decide +kernel⟩
set_option maxRecDepth 100000 in
theorem mok_81 : MOK D_81 2 := ⟨tin 4 205 (by decide +kernel) rfl, by decide +kernel, by decide +kernel, by decide +kernel⟩
set_option maxRecDepth 100000 in
theorem mok_82 : MOK D_82 3 := ⟨tin 6 80 (by decide +kernel) rfl, by decide +kernel, by decide +kernel, by decide +kernel⟩
set_option maxRecDepth 100000 in
theorem mok_83 : MOK D_83 1 := ⟨tin 6 146 (by decide +kernel) rfl, by decide +kernel, by decide +kernel, by decide +kernel⟩
set_option maxRecDepth 100000 in
theorem mok_84 : MOK D_84 0 := ⟨tin 2 170 (by decide +kernel) rfl, by decide +kernel, by decide +kernel, by decide +kernel⟩
set_option maxRecDepth 100000 in
theorem mok_85 : MOK D_85 1 := ⟨tin 2 174 (by decide +kernel) rfl, by decide +kernel, by decide +kernel, by decide +kernel⟩
set_option maxRecDepth 100000 in
theorem mok_86 : MOK D_86 1 := ⟨tin 3 11 (by decide +kernel) rfl, by decide +kernel, by decide +kernel, by decide +kernel⟩
set_option maxRecDepth 100000 in
theorem mok_87 : MOK D_87 0 := ⟨tin 2 178 (by decide +kernel) rfl, by decide +kernel, by decide +kernel, by decide +kernel⟩
set_option maxRecDepth 100000 in
theorem mok_88 : MOK D_88 0 := ⟨tin 2 182 (by decide +kernel) rfl, by decide +kernel, by decide +kernel, by decide +kernel⟩
set_option maxRecDepth 100000 in
theorem mok_89 : MOK D_89 0 := ⟨tin 2 186 (by decide +kernel) rfl, by decide +kernel, by decide +kernel, by decide +kernel⟩
set_option maxRecDepth 100000 in
theorem mok_90 : MOK D_90 2 := ⟨tin 3 15 (by decide +kernel) rfl, by decide +kernel, by decide +kernel, by decide +kernel⟩
set_option maxRecDepth 100000 in
theorem mok_91 : MOK D_91 4 := ⟨tin 3 35 (by decide +kernel) rfl, by decide +kernel, by decide +kernel, by decide +kernel⟩
set_option maxRecDepth 100000 in
theorem mok_92 : MOK D_92 1 := ⟨tin 3 57 (by decide +kernel) rfl, by decide +kernel, by decide +kernel, by decide +kernel⟩
set_option maxRecDepth 100000 in
theorem mok_93 : MOK D_93 0 := ⟨tin 3 61 (by decide +kernel) rfl, by decide +kernel, by decide +kernel, by decide +kernel⟩
set_option maxRecDepth 100000 in
theorem mok_94 : MOK D_94 0 := ⟨tin 3 65 (by decide +kernel) rfl, by decide +kernel, by decide +kernel, by decide +kernel⟩
set_option maxRecDepth 100000 in
theorem mok_95 : MOK D_95 0 := ⟨tin 3 73 (by decide +kernel) rfl, by decide +kernel, by decide +kernel, by decide +kernel⟩
set_option maxRecDepth 100000 in
theorem mok_96 : MOK D_96 5 := ⟨tin 7 139 (by decide +kernel) rfl, by decide +kernel, by decide +kernel, by decide +kernel⟩
set_option maxRecDepth 100000 in
theorem mok_97 : MOK D_97 1 := ⟨tin 7 143 (by decide +kernel) rfl, by decide +kernel, by decide +kernel, by decide +kernel⟩
set_option maxRecDepth 100000 in
theorem mok_98 : MOK D_98 0 := ⟨tin 7 147 (by decide +kernel) rfl, by decide +kernel, by decide +kernel, by decide +kernel⟩
set_option maxRecDepth 100000 in
theorem mok_99 : MOK D_99 0 := ⟨tin 7 151 (by decide +kernel) rfl, by decide +kernel, by decide +kernel, by decide +kernel⟩
set_option maxRecDepth 100000 in
theorem mok_100 : MOK D_100 1 := ⟨tin 7 155 (by decide +kernel) rfl, by decide +kernel, by decide +kernel, by decide +kernel⟩
set_option maxRecDepth 100000 in
theorem mok_101 : MOK D_101 1 := ⟨tin 7 159 (by decide +kernel) rfl, by decide +kernel, by decide +kernel, by decide +kernel⟩
set_option maxRecDepth 100000 in
theorem mok_102 : MOK D_102 2 := ⟨tin 7 163 (by decide +kernel) rfl, by decide +kernel, by decide +kernel, by decide +kernel⟩
set_option maxRecDepth 100000 in
theorem mok_103 : MOK D_103 0 := ⟨tin 7 182 (by decide +kernel) rfl, by decide +kernel, by decide +kernel, by decide +kernel⟩
set_option maxRecDepth 100000 in
theorem mok_104 : MOK D_104 0 := ⟨tin 7 186 (by decide +kernel) rfl, by decide +kernel, by decide +kernel, by decide +kernel⟩
set_option maxRecDepth 100000 in
theorem mok_105 : MOK D_105 1 := ⟨tin 7 208 (by decide +kernel) rfl, by decide +kernel, by decide +kernel, by decide +kernel⟩
set_option maxRecDepth 100000 in
theorem mok_106 : MOK D_106 0 := ⟨tin 8 28 (by decide +kernel) rfl, by decide +kernel, by decide +kernel, by decide +kernel⟩
set_option maxRecDepth 100000 in
theorem mok_107 : MOK D_107 0 := ⟨tin 8 238 (by decide +kernel) rfl, by decide +kernel, by decide +kernel, by decide +kernel⟩
set_option maxRecDepth 100000 in
theorem mok_108 : MOK D_108 1 := ⟨tin 9 2 (by decide +kernel) rfl, by decide +kernel, by decide +kernel, by decide +kernel⟩
set_option maxRecDepth 100000 in
theorem mok_109 : MOK D_109 1 := ⟨tin 9 10 (by decide +kernel) rfl, by decide +kernel, by decide +kernel, by decide +kernel⟩
set_option maxRecDepth 100000 in
theorem mok_110 : MOK D_110 0 := ⟨tin 9 6 (by decide +kernel) rfl, by decide +kernel, by decide +kernel, by decide +kernel⟩
set_option maxRecDepth 100000 in
theorem mok_111 : MOK D_111 2 := ⟨tin 9 14 (by decide +kernel) rfl, by decide +kernel, by decide +kernel, by decide +kernel⟩
set_option maxRecDepth 100000 in
theorem mok_112 : MOK D_112 4 := ⟨tin 9 26 (by decide +kernel) rfl, by decide +kernel, by decide +kernel, by decide +kernel⟩
set_option maxRecDepth 100000 in
theorem mok_113 : MOK D_113 1 := ⟨tin 9 30 (by decide +kernel) rfl, by decide +kernel, by decide +kernel, by decide +kernel⟩
set_option maxRecDepth 100000 in
theorem mok_114 : MOK D_114 0 := ⟨tin 7 135 (by decide +kernel) rfl, by decide +kernel, by decide +kernel, by decide +kernel⟩
