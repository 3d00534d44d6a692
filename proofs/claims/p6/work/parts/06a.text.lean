/-! Contracts, by program. -/
abbrev Q_J0_coder_7d493 (h : Hp) (t nt : Nat) : Option V → Hp → Nat → Nat → Prop := RI (fun x H => h = H ∧ (x = 0))
set_option maxRecDepth 100000 in
theorem ct_J0_coder_7d493 (l : Launch) (h : Hp) (hI : Inv h) (t nt : Nat) (ht : (t, nt) ∈ strL) : Ct l D_J0_coder_7d493 0 0 [.inr (.inr t)] h (Q_J0_coder_7d493 h t nt) := by
  refine ct_of pn_J0_coder_7d493 (Nat.le_of_ble_eq_true rfl) ?_
  show To l E_J0_coder_7d493 (0, [(0, .inr (.inr t))], [], h, 0, 0) _
  have lt := str_n ht
  refine to_gst (C := "java/lang/String") (f9 := "COMPACT_STRINGS") (d9 := "Z") (List.mem_of_getElem? (i := 1) rfl) (tin 3 210 (by decide +kernel) rfl) (dat dk_J0_coder_7d493 0 rfl) ?_
  refine to_ifeq 13 (dat dk_J0_coder_7d493 1 rfl) rfl (by decide) (fun c1 => absurd c1 (by decide)) (fun c1 => ?_)
  refine to_aload_np (dat dk_J0_coder_7d493 2 rfl) (str_pos ht) rfl (to_strCod ht (tin 9 61 (by decide +kernel) rfl) (dat dk_J0_coder_7d493 3 rfl) (to_goto (dat dk_J0_coder_7d493 4 rfl) rfl ?_))
  exact to_bret rfl (dat dk_J0_coder_7d493 6 rfl) (by omega) (ri_mk (by decide) ⟨rfl, (show (0 : Int) = 0 by omega)⟩)
abbrev Q_J0_length_8abf5 (h : Hp) (t nt : Nat) : Option V → Hp → Nat → Nat → Prop := RI (fun x H => h = H ∧ (x = (nt : Int)))
set_option maxRecDepth 100000 in
theorem ct_J0_length_8abf5 (l : Launch) (h : Hp) (hI : Inv h) (t nt : Nat) (ht : (t, nt) ∈ strL) : Ct l D_J0_length_8abf5 1 20 [.inr (.inr t)] h (Q_J0_length_8abf5 h t nt) := by
  refine ct_of pn_J0_length_8abf5 (Nat.le_of_ble_eq_true rfl) ?_
  show To l E_J0_length_8abf5 (0, [(0, .inr (.inr t))], [], h, 0, 0) _
  have lt := str_n ht
  refine to_aload_np (dat dk_J0_length_8abf5 0 rfl) (str_pos ht) rfl (to_strVal ht (tin 9 60 (by decide +kernel) rfl) (dat dk_J0_length_8abf5 1 rfl) (to_strLen ht (dat dk_J0_length_8abf5 2 rfl) (to_aload_np (dat dk_J0_length_8abf5 3 rfl) (str_pos ht) rfl ?_)))
  refine to_cI ca_c20_335 (dat dk_J0_length_8abf5 4 rfl) (ct_J0_coder_7d493 l h hI t nt ht) rfl (recvS ht) rfl (fun x1 h2 rx1 p3 => ?_)
  obtain ⟨rfl, p3_0⟩ := p3
  subst p3_0
  refine to_ishr0 (dat dk_J0_length_8abf5 5 rfl) ?_
  exact to_iret rfl (dat dk_J0_length_8abf5 6 rfl) (ri_mk (by omega) ⟨rfl, (show (nt : Int) = (nt : Int) by omega)⟩)
abbrev Q_J0_isLatin1_aae02 (h : Hp) (t nt : Nat) : Option V → Hp → Nat → Nat → Prop := RI (fun x H => h = H ∧ (x = 1))
set_option maxRecDepth 100000 in
theorem ct_J0_isLatin1_aae02 (l : Launch) (h : Hp) (hI : Inv h) (t nt : Nat) (ht : (t, nt) ∈ strL) : Ct l D_J0_isLatin1_aae02 0 0 [.inr (.inr t)] h (Q_J0_isLatin1_aae02 h t nt) := by
  refine ct_of pn_J0_isLatin1_aae02 (Nat.le_of_ble_eq_true rfl) ?_
  show To l E_J0_isLatin1_aae02 (0, [(0, .inr (.inr t))], [], h, 0, 0) _
  have lt := str_n ht
  refine to_gst (C := "java/lang/String") (f9 := "COMPACT_STRINGS") (d9 := "Z") (List.mem_of_getElem? (i := 1) rfl) (tin 3 210 (by decide +kernel) rfl) (dat dk_J0_isLatin1_aae02 0 rfl) ?_
  refine to_ifeq 17 (dat dk_J0_isLatin1_aae02 1 rfl) rfl (by decide) (fun c1 => absurd c1 (by decide)) (fun c1 => ?_)
  refine to_aload_np (dat dk_J0_isLatin1_aae02 2 rfl) (str_pos ht) rfl (to_strCod ht (tin 9 61 (by decide +kernel) rfl) (dat dk_J0_isLatin1_aae02 3 rfl) ?_)
  refine to_ifne 17 (dat dk_J0_isLatin1_aae02 4 rfl) rfl (by decide) (fun c2 => absurd c2 (by decide)) (fun c2 => ?_)
  refine to_iconst (dat dk_J0_isLatin1_aae02 5 rfl) (to_goto (dat dk_J0_isLatin1_aae02 6 rfl) rfl ?_)
  exact to_zret rfl (dat dk_J0_isLatin1_aae02 8 rfl) (by decide) (ri_mk (by decide) ⟨rfl, (show (1 : Int) = 1 by omega)⟩)
abbrev Q_J3_checkIndex_8e157 (h : Hp) (i : Int) (n : Int) (f : Nat) : Option V → Hp → Nat → Nat → Prop := RI (fun x H => h = H ∧ (x = i))
set_option maxRecDepth 100000 in
theorem ct_J3_checkIndex_8e157 (l : Launch) (h : Hp) (hI : Inv h) (i : Int) (hi : I32 i) (n : Int) (hn : I32 n) (f : Nat) (g0 : 0 ≤ i ∧ i < n) : Ct l D_J3_checkIndex_8e157 0 0 [.inl i, .inl n, .inr (.inr f)] h (Q_J3_checkIndex_8e157 h i n f) := by
  refine ct_of pn_J3_checkIndex_8e157 (Nat.le_of_ble_eq_true rfl) ?_
  show To l E_J3_checkIndex_8e157 (0, [(0, .inl i), (1, .inl n), (2, .inr (.inr f))], [], h, 0, 0) _
  refine to_iload_n (dat dk_J3_checkIndex_8e157 0 rfl) rfl ?_
  refine to_iflt 9 (dat dk_J3_checkIndex_8e157 1 rfl) rfl hi (fun c1 => ?_) (fun c1 => ?_)
  · skip
    exfalso; omega
  · skip
    refine to_iload_n (dat dk_J3_checkIndex_8e157 2 rfl) rfl (to_iload_n (dat dk_J3_checkIndex_8e157 3 rfl) rfl ?_)
    refine to_ilt 16 (dat dk_J3_checkIndex_8e157 4 rfl) rfl hi hn (fun c2 => ?_) (fun c2 => ?_)
    · skip
      refine to_iload_n (dat dk_J3_checkIndex_8e157 10 rfl) rfl ?_
      exact to_iret rfl (dat dk_J3_checkIndex_8e157 11 rfl) (ri_mk hi ⟨rfl, (show i = i by omega)⟩)
    · skip
      exfalso; omega
abbrev Q_J0_checkIndex_df160 (h : Hp) (i : Int) (n : Int) : Option V → Hp → Nat → Nat → Prop := RV (fun H => h = H)
set_option maxRecDepth 100000 in
theorem ct_J0_checkIndex_df160 (l : Launch) (h : Hp) (hI : Inv h) (i : Int) (hi : I32 i) (n : Int) (hn : I32 n) (g0 : 0 ≤ i ∧ i < n) : Ct l D_J0_checkIndex_df160 1 22 [.inl i, .inl n] h (Q_J0_checkIndex_df160 h i n) := by
  refine ct_of pn_J0_checkIndex_df160 (Nat.le_of_ble_eq_true rfl) ?_
  show To l E_J0_checkIndex_df160 (0, [(0, .inl i), (1, .inl n)], [], h, 0, 0) _
  refine to_iload_n (dat dk_J0_checkIndex_df160 0 rfl) rfl (to_iload_n (dat dk_J0_checkIndex_df160 1 rfl) rfl ?_)
  refine to_gstF (tin 3 234 (by decide +kernel) rfl) (dat dk_J0_checkIndex_df160 2 rfl) ca_c20_1059 (dat dk_J0_checkIndex_df160 3 rfl) (ct_J3_checkIndex_8e157 l h hI i hi n hn 0 (show 0 ≤ i ∧ i < n by omega)) (ct_J3_checkIndex_8e157 l h hI i hi n hn 1000050 (show 0 ≤ i ∧ i < n by omega)) rfl (to_pop (dat dk_J0_checkIndex_df160 4 rfl) rfl ?_)
  exact to_vret rfl (dat dk_J0_checkIndex_df160 5 rfl) (rv_mk rfl)
abbrev Q_J1_charAt_3b067 (h : Hp) (t nt : Nat) (i : Int) : Option V → Hp → Nat → Nat → Prop := RI (fun x H => h = H ∧ (0 ≤ x ∧ x ≤ 255))
set_option maxRecDepth 100000 in
theorem ct_J1_charAt_3b067 (l : Launch) (h : Hp) (hI : Inv h) (t nt : Nat) (ht : (t, nt) ∈ strL) (i : Int) (hi : I32 i) (g0 : 0 ≤ i ∧ i < (nt : Int)) : Ct l D_J1_charAt_3b067 2 43 [.inr (.inr (t + 1)), .inl i] h (Q_J1_charAt_3b067 h t nt i) := by
  refine ct_of pn_J1_charAt_3b067 (Nat.le_of_ble_eq_true rfl) ?_
  show To l E_J1_charAt_3b067 (0, [(0, .inr (.inr (t + 1))), (1, .inl i)], [], h, 0, 0) _
  have lt := str_n ht
  refine to_iload_n (dat dk_J1_charAt_3b067 0 rfl) rfl (to_aload_np (dat dk_J1_charAt_3b067 1 rfl) (Nat.succ_pos _) rfl (to_strLen ht (dat dk_J1_charAt_3b067 2 rfl) ?_))
  refine to_cV ca_c21_9 (dat dk_J1_charAt_3b067 3 rfl) (ct_J0_checkIndex_df160 l h hI i hi (nt : Int) (by omega) (show 0 ≤ i ∧ i < (nt : Int) by omega)) rfl trivial rfl (fun h2 p3 => ?_)
  subst p3
  refine to_aload_np (dat dk_J1_charAt_3b067 4 rfl) (Nat.succ_pos _) rfl (to_iload_n (dat dk_J1_charAt_3b067 5 rfl) rfl ?_)
  refine to_strByte ht (dat dk_J1_charAt_3b067 6 rfl) (by omega) (fun x4 rx4 => ?_)
  refine to_sipush (dat dk_J1_charAt_3b067 7 rfl) (by decide) ?_
  refine to_iand 255 255 (dat dk_J1_charAt_3b067 8 rfl) (by decide) (by decide) (fun x5 rx5 mx5 => ?_)
  refine to_i2cv (by omega) (dat dk_J1_charAt_3b067 9 rfl) ?_
  exact to_cret rfl (dat dk_J1_charAt_3b067 10 rfl) (by omega) (ri_mk rx5 ⟨rfl, (show 0 ≤ x5 ∧ x5 ≤ 255 by omega)⟩)
abbrev Q_J0_charAt_5068e (h : Hp) (t nt : Nat) (i : Int) : Option V → Hp → Nat → Nat → Prop := RI (fun x H => h = H ∧ (0 ≤ x ∧ x ≤ 255))
set_option maxRecDepth 100000 in
theorem ct_J0_charAt_5068e (l : Launch) (h : Hp) (hI : Inv h) (t nt : Nat) (ht : (t, nt) ∈ strL) (i : Int) (hi : I32 i) (g0 : 0 ≤ i ∧ i < (nt : Int)) : Ct l D_J0_charAt_5068e 4 85 [.inr (.inr t), .inl i] h (Q_J0_charAt_5068e h t nt i) := by
  refine ct_of pn_J0_charAt_5068e (Nat.le_of_ble_eq_true rfl) ?_
  show To l E_J0_charAt_5068e (0, [(0, .inr (.inr t)), (1, .inl i)], [], h, 0, 0) _
  have lt := str_n ht
  refine to_aload_np (dat dk_J0_charAt_5068e 0 rfl) (str_pos ht) rfl ?_
  refine to_cI ca_c20_492 (dat dk_J0_charAt_5068e 1 rfl) (ct_J0_isLatin1_aae02 l h hI t nt ht) rfl (recvS ht) rfl (fun x1 h2 rx1 p3 => ?_)
  obtain ⟨rfl, p3_0⟩ := p3
  refine to_ifeq 16 (dat dk_J0_charAt_5068e 2 rfl) rfl rx1 (fun c4 => ?_) (fun c4 => ?_)
  · skip
    exfalso; omega
  · skip
    refine to_aload_np (dat dk_J0_charAt_5068e 3 rfl) (str_pos ht) rfl (to_strVal ht (tin 9 60 (by decide +kernel) rfl) (dat dk_J0_charAt_5068e 4 rfl) (to_iload_n (dat dk_J0_charAt_5068e 5 rfl) rfl ?_))
    refine to_cI ca_c20_495 (dat dk_J0_charAt_5068e 6 rfl) (ct_J1_charAt_3b067 l h hI t nt ht i hi (show 0 ≤ i ∧ i < (nt : Int) by omega)) rfl trivial rfl (fun x5 h6 rx5 p7 => ?_)
    obtain ⟨rfl, p7_0⟩ := p7
    exact to_cret rfl (dat dk_J0_charAt_5068e 7 rfl) (by omega) (ri_mk rx5 ⟨rfl, (show 0 ≤ x5 ∧ x5 ≤ 255 by omega)⟩)
abbrev Q_J15_checkIndex_7cf53 (h : Hp) (i : Int) (n : Int) : Option V → Hp → Nat → Nat → Prop := RI (fun x H => h = H ∧ (x = i))
set_option maxRecDepth 100000 in
theorem ct_J15_checkIndex_7cf53 (l : Launch) (h : Hp) (hI : Inv h) (i : Int) (hi : I32 i) (n : Int) (hn : I32 n) (g0 : 0 ≤ i ∧ i < n) : Ct l D_J15_checkIndex_7cf53 1 22 [.inl i, .inl n] h (Q_J15_checkIndex_7cf53 h i n) := by
  refine ct_of pn_J15_checkIndex_7cf53 (Nat.le_of_ble_eq_true rfl) ?_
  show To l E_J15_checkIndex_7cf53 (0, [(0, .inl i), (1, .inl n)], [], h, 0, 0) _
  refine to_iload_n (dat dk_J15_checkIndex_7cf53 0 rfl) rfl (to_iload_n (dat dk_J15_checkIndex_7cf53 1 rfl) rfl (to_null (dat dk_J15_checkIndex_7cf53 2 rfl) ?_))
  refine to_cI ca_c32_105 (dat dk_J15_checkIndex_7cf53 3 rfl) (ct_J3_checkIndex_8e157 l h hI i hi n hn 0 (show 0 ≤ i ∧ i < n by omega)) rfl trivial rfl (fun x1 h2 rx1 p3 => ?_)
  obtain ⟨rfl, p3_0⟩ := p3
  exact to_iret rfl (dat dk_J15_checkIndex_7cf53 4 rfl) (ri_mk rx1 ⟨rfl, (show x1 = i by omega)⟩)
