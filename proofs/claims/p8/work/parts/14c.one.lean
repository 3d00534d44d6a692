/-! Contracts, by program. -/
abbrev Q_J1_charAt_3b067_vx (h : Hp) (t nt : Nat) (i : Int) : Option V → Hp → Nat → Nat → Prop := RI (fun x H => h = H ∧ (x = (cod t).getD (Int.toNat i) 0 ∧ 0 ≤ x ∧ x ≤ 127))
set_option maxRecDepth 100000 in
theorem ct_J1_charAt_3b067_vx (l : Launch) (h : Hp) (hI : Inv h) (t nt : Nat) (ht : (t, nt) ∈ strL) (i : Int) (hi : I32 i) (g0 : 0 ≤ i ∧ i < (nt : Int)) : Ct l D_J1_charAt_3b067 2 43 [.inr (.inr (t + 1)), .inl i] h (Q_J1_charAt_3b067_vx h t nt i) := by
  refine ct_of pn_J1_charAt_3b067 (Nat.le_of_ble_eq_true rfl) ?_
  show To l E_J1_charAt_3b067 (0, [(0, .inr (.inr (t + 1))), (1, .inl i)], [], h, 0, 0) _
  have lt := str_n ht
  refine to_iload_n (dat dk_J1_charAt_3b067 0 rfl) rfl (to_aload_np (dat dk_J1_charAt_3b067 1 rfl) (Nat.succ_pos _) rfl (to_strLen ht (dat dk_J1_charAt_3b067 2 rfl) ?_))
  refine to_cV ca_c21_9 (dat dk_J1_charAt_3b067 3 rfl) (ct_J0_checkIndex_df160 l h hI i hi (nt : Int) (by omega) (show 0 ≤ i ∧ i < (nt : Int) by omega)) rfl trivial rfl (fun h2 p3 => ?_)
  subst p3
  refine to_aload_np (dat dk_J1_charAt_3b067 4 rfl) (Nat.succ_pos _) rfl (to_iload_n (dat dk_J1_charAt_3b067 5 rfl) rfl ?_)
  obtain ⟨x4, ex4⟩ : ∃ y : Int, (cod t).getD (Int.toNat i) 0 = y := ⟨_, rfl⟩
  have rx4 := cod_in ht (Int.toNat i)
  rw [ex4] at rx4
  refine to_strBytex ht ex4 (dat dk_J1_charAt_3b067 6 rfl) (by omega) ?_
  refine to_sipush (dat dk_J1_charAt_3b067 7 rfl) (by decide) (to_iand255 (dat dk_J1_charAt_3b067 8 rfl) (to_i2cv (by omega) (dat dk_J1_charAt_3b067 9 rfl) ?_))
  exact to_cret rfl (dat dk_J1_charAt_3b067 10 rfl) (by omega) (ri_mk (by omega) ⟨rfl, ⟨by rw [ex4]; omega, by omega, by omega⟩⟩)
abbrev Q_J0_charAt_5068e_vx (h : Hp) (t nt : Nat) (i : Int) : Option V → Hp → Nat → Nat → Prop := RI (fun x H => h = H ∧ (x = (cod t).getD (Int.toNat i) 0 ∧ 0 ≤ x ∧ x ≤ 127))
set_option maxRecDepth 100000 in
theorem ct_J0_charAt_5068e_vx (l : Launch) (h : Hp) (hI : Inv h) (t nt : Nat) (ht : (t, nt) ∈ strL) (i : Int) (hi : I32 i) (g0 : 0 ≤ i ∧ i < (nt : Int)) : Ct l D_J0_charAt_5068e 4 85 [.inr (.inr t), .inl i] h (Q_J0_charAt_5068e_vx h t nt i) := by
  refine ct_of pn_J0_charAt_5068e (Nat.le_of_ble_eq_true rfl) ?_
  show To l E_J0_charAt_5068e (0, [(0, .inr (.inr t)), (1, .inl i)], [], h, 0, 0) _
  have lt := str_n ht
  refine to_aload_np (dat dk_J0_charAt_5068e 0 rfl) (str_pos ht) rfl ?_
  refine to_cI ca_c20_492 (dat dk_J0_charAt_5068e 1 rfl) (ct_J0_isLatin1_aae02 l h hI t nt ht) rfl (recvS ht) rfl (fun x1 h2 rx1 p3 => ?_)
  obtain ⟨rfl, p3_0⟩ := p3
  refine to_ifeq 16 (dat dk_J0_charAt_5068e 2 rfl) rfl rx1 (fun c4 => ?_) (fun c4 => ?_)
  · skip
    exfalso; omega
  · skip
    refine to_aload_np (dat dk_J0_charAt_5068e 3 rfl) (str_pos ht) rfl (to_strVal ht (tin 9 56 (by decide +kernel) rfl) (dat dk_J0_charAt_5068e 4 rfl) (to_iload_n (dat dk_J0_charAt_5068e 5 rfl) rfl ?_))
    refine to_cI ca_c20_495 (dat dk_J0_charAt_5068e 6 rfl) (ct_J1_charAt_3b067_vx l h hI t nt ht i hi (show 0 ≤ i ∧ i < (nt : Int) by omega)) rfl trivial rfl (fun x5 h6 rx5 p7 => ?_)
    obtain ⟨rfl, p7_0⟩ := p7
    exact to_cret rfl (dat dk_J0_charAt_5068e 7 rfl) (by omega) (ri_mk rx5 ⟨rfl, p7_0⟩)
abbrev Q_X9_isBlank_vx (h : Hp) (b : Int) : Option V → Hp → Nat → Nat → Prop := RI (fun x H => h = H ∧ (x = 0 ∨ x = 1) ∧ ((x = 1 ∧ (b = 32 ∨ b = 9)) ∨ (x = 0 ∧ b ≠ 32 ∧ b ≠ 9)))
set_option maxRecDepth 100000 in
theorem ct_X9_isBlank_vx (l : Launch) (h : Hp) (hI : Inv h) (b : Int) (hb : I32 b) : Ct l D_X9_isBlank 0 0 [.inl b] h (Q_X9_isBlank_vx h b) := by
  refine ct_of pn_X9_isBlank (Nat.le_of_ble_eq_true rfl) ?_
  show To l E_X9_isBlank (0, [(0, .inl b)], [], h, 0, 0) _
  refine to_iload_n (dat dk_X9_isBlank 0 rfl) rfl (to_bipush (dat dk_X9_isBlank 1 rfl) (by decide) ?_)
  refine to_ieq 12 (dat dk_X9_isBlank 2 rfl) rfl hb (by decide) (fun c1 => ?_) (fun c1 => ?_)
  · skip
    refine to_iconst (dat dk_X9_isBlank 6 rfl) (to_goto (dat dk_X9_isBlank 7 rfl) rfl ?_)
    exact to_zret rfl (dat dk_X9_isBlank 9 rfl) (by decide) (ri_mk (by decide) ⟨rfl, (by decide), (show ((1 : Int) = 1 ∧ (b = 32 ∨ b = 9)) ∨ ((1 : Int) = 0 ∧ b ≠ 32 ∧ b ≠ 9) by omega)⟩)
  · skip
    refine to_iload_n (dat dk_X9_isBlank 3 rfl) rfl (to_bipush (dat dk_X9_isBlank 4 rfl) (by decide) ?_)
    refine to_ine 16 (dat dk_X9_isBlank 5 rfl) rfl hb (by decide) (fun c2 => ?_) (fun c2 => ?_)
    · skip
      refine to_iconst (dat dk_X9_isBlank 8 rfl) ?_
      exact to_zret rfl (dat dk_X9_isBlank 9 rfl) (by decide) (ri_mk (by decide) ⟨rfl, (by decide), (show ((0 : Int) = 1 ∧ (b = 32 ∨ b = 9)) ∨ ((0 : Int) = 0 ∧ b ≠ 32 ∧ b ≠ 9) by omega)⟩)
    · skip
      refine to_iconst (dat dk_X9_isBlank 6 rfl) (to_goto (dat dk_X9_isBlank 7 rfl) rfl ?_)
      exact to_zret rfl (dat dk_X9_isBlank 9 rfl) (by decide) (ri_mk (by decide) ⟨rfl, (by decide), (show ((1 : Int) = 1 ∧ (b = 32 ∨ b = 9)) ∨ ((1 : Int) = 0 ∧ b ≠ 32 ∧ b ≠ 9) by omega)⟩)
abbrev Q_X9_isDigit_vx (h : Hp) (b : Int) : Option V → Hp → Nat → Nat → Prop := RI (fun x H => h = H ∧ (x = 0 ∨ x = 1) ∧ ((x = 1 ∧ 48 ≤ b ∧ b ≤ 57) ∨ (x = 0 ∧ (b < 48 ∨ 57 < b))))
set_option maxRecDepth 100000 in
theorem ct_X9_isDigit_vx (l : Launch) (h : Hp) (hI : Inv h) (b : Int) (hb : I32 b) : Ct l D_X9_isDigit 0 0 [.inl b] h (Q_X9_isDigit_vx h b) := by
  refine ct_of pn_X9_isDigit (Nat.le_of_ble_eq_true rfl) ?_
  show To l E_X9_isDigit (0, [(0, .inl b)], [], h, 0, 0) _
  refine to_iload_n (dat dk_X9_isDigit 0 rfl) rfl (to_bipush (dat dk_X9_isDigit 1 rfl) (by decide) ?_)
  refine to_ilt 16 (dat dk_X9_isDigit 2 rfl) rfl hb (by decide) (fun c1 => ?_) (fun c1 => ?_)
  · skip
    refine to_iconst (dat dk_X9_isDigit 8 rfl) ?_
    exact to_zret rfl (dat dk_X9_isDigit 9 rfl) (by decide) (ri_mk (by decide) ⟨rfl, (by decide), (show ((0 : Int) = 1 ∧ 48 ≤ b ∧ b ≤ 57) ∨ ((0 : Int) = 0 ∧ (b < 48 ∨ 57 < b)) by omega)⟩)
  · skip
    refine to_iload_n (dat dk_X9_isDigit 3 rfl) rfl (to_bipush (dat dk_X9_isDigit 4 rfl) (by decide) ?_)
    refine to_igt 16 (dat dk_X9_isDigit 5 rfl) rfl hb (by decide) (fun c2 => ?_) (fun c2 => ?_)
    · skip
      refine to_iconst (dat dk_X9_isDigit 8 rfl) ?_
      exact to_zret rfl (dat dk_X9_isDigit 9 rfl) (by decide) (ri_mk (by decide) ⟨rfl, (by decide), (show ((0 : Int) = 1 ∧ 48 ≤ b ∧ b ≤ 57) ∨ ((0 : Int) = 0 ∧ (b < 48 ∨ 57 < b)) by omega)⟩)
    · skip
      refine to_iconst (dat dk_X9_isDigit 6 rfl) (to_goto (dat dk_X9_isDigit 7 rfl) rfl ?_)
      exact to_zret rfl (dat dk_X9_isDigit 9 rfl) (by decide) (ri_mk (by decide) ⟨rfl, (by decide), (show ((1 : Int) = 1 ∧ 48 ≤ b ∧ b ≤ 57) ∨ ((1 : Int) = 0 ∧ (b < 48 ∨ 57 < b)) by omega)⟩)
abbrev Q_X12_isBlank_vx (h : Hp) (b : Int) : Option V → Hp → Nat → Nat → Prop := RI (fun x H => h = H ∧ (x = 0 ∨ x = 1) ∧ ((x = 1 ∧ (b = 32 ∨ b = 9)) ∨ (x = 0 ∧ b ≠ 32 ∧ b ≠ 9)))
set_option maxRecDepth 100000 in
theorem ct_X12_isBlank_vx (l : Launch) (h : Hp) (hI : Inv h) (b : Int) (hb : I32 b) : Ct l D_X12_isBlank 0 0 [.inl b] h (Q_X12_isBlank_vx h b) := by
  refine ct_of pn_X12_isBlank (Nat.le_of_ble_eq_true rfl) ?_
  show To l E_X12_isBlank (0, [(0, .inl b)], [], h, 0, 0) _
  refine to_iload_n (dat dk_X12_isBlank 0 rfl) rfl (to_bipush (dat dk_X12_isBlank 1 rfl) (by decide) ?_)
  refine to_ieq 12 (dat dk_X12_isBlank 2 rfl) rfl hb (by decide) (fun c1 => ?_) (fun c1 => ?_)
  · skip
    refine to_iconst (dat dk_X12_isBlank 6 rfl) (to_goto (dat dk_X12_isBlank 7 rfl) rfl ?_)
    exact to_zret rfl (dat dk_X12_isBlank 9 rfl) (by decide) (ri_mk (by decide) ⟨rfl, (by decide), (show ((1 : Int) = 1 ∧ (b = 32 ∨ b = 9)) ∨ ((1 : Int) = 0 ∧ b ≠ 32 ∧ b ≠ 9) by omega)⟩)
  · skip
    refine to_iload_n (dat dk_X12_isBlank 3 rfl) rfl (to_bipush (dat dk_X12_isBlank 4 rfl) (by decide) ?_)
    refine to_ine 16 (dat dk_X12_isBlank 5 rfl) rfl hb (by decide) (fun c2 => ?_) (fun c2 => ?_)
    · skip
      refine to_iconst (dat dk_X12_isBlank 8 rfl) ?_
      exact to_zret rfl (dat dk_X12_isBlank 9 rfl) (by decide) (ri_mk (by decide) ⟨rfl, (by decide), (show ((0 : Int) = 1 ∧ (b = 32 ∨ b = 9)) ∨ ((0 : Int) = 0 ∧ b ≠ 32 ∧ b ≠ 9) by omega)⟩)
    · skip
      refine to_iconst (dat dk_X12_isBlank 6 rfl) (to_goto (dat dk_X12_isBlank 7 rfl) rfl ?_)
      exact to_zret rfl (dat dk_X12_isBlank 9 rfl) (by decide) (ri_mk (by decide) ⟨rfl, (by decide), (show ((1 : Int) = 1 ∧ (b = 32 ∨ b = 9)) ∨ ((1 : Int) = 0 ∧ b ≠ 32 ∧ b ≠ 9) by omega)⟩)
abbrev Q_X12_isDigit_vx (h : Hp) (b : Int) : Option V → Hp → Nat → Nat → Prop := RI (fun x H => h = H ∧ (x = 0 ∨ x = 1) ∧ ((x = 1 ∧ 48 ≤ b ∧ b ≤ 57) ∨ (x = 0 ∧ (b < 48 ∨ 57 < b))))
set_option maxRecDepth 100000 in
theorem ct_X12_isDigit_vx (l : Launch) (h : Hp) (hI : Inv h) (b : Int) (hb : I32 b) : Ct l D_X12_isDigit 0 0 [.inl b] h (Q_X12_isDigit_vx h b) := by
  refine ct_of pn_X12_isDigit (Nat.le_of_ble_eq_true rfl) ?_
  show To l E_X12_isDigit (0, [(0, .inl b)], [], h, 0, 0) _
  refine to_iload_n (dat dk_X12_isDigit 0 rfl) rfl (to_bipush (dat dk_X12_isDigit 1 rfl) (by decide) ?_)
  refine to_ilt 16 (dat dk_X12_isDigit 2 rfl) rfl hb (by decide) (fun c1 => ?_) (fun c1 => ?_)
  · skip
    refine to_iconst (dat dk_X12_isDigit 8 rfl) ?_
    exact to_zret rfl (dat dk_X12_isDigit 9 rfl) (by decide) (ri_mk (by decide) ⟨rfl, (by decide), (show ((0 : Int) = 1 ∧ 48 ≤ b ∧ b ≤ 57) ∨ ((0 : Int) = 0 ∧ (b < 48 ∨ 57 < b)) by omega)⟩)
  · skip
    refine to_iload_n (dat dk_X12_isDigit 3 rfl) rfl (to_bipush (dat dk_X12_isDigit 4 rfl) (by decide) ?_)
    refine to_igt 16 (dat dk_X12_isDigit 5 rfl) rfl hb (by decide) (fun c2 => ?_) (fun c2 => ?_)
    · skip
      refine to_iconst (dat dk_X12_isDigit 8 rfl) ?_
      exact to_zret rfl (dat dk_X12_isDigit 9 rfl) (by decide) (ri_mk (by decide) ⟨rfl, (by decide), (show ((0 : Int) = 1 ∧ 48 ≤ b ∧ b ≤ 57) ∨ ((0 : Int) = 0 ∧ (b < 48 ∨ 57 < b)) by omega)⟩)
    · skip
      refine to_iconst (dat dk_X12_isDigit 6 rfl) (to_goto (dat dk_X12_isDigit 7 rfl) rfl ?_)
      exact to_zret rfl (dat dk_X12_isDigit 9 rfl) (by decide) (ri_mk (by decide) ⟨rfl, (by decide), (show ((1 : Int) = 1 ∧ 48 ≤ b ∧ b ≤ 57) ∨ ((1 : Int) = 0 ∧ (b < 48 ∨ 57 < b)) by omega)⟩)
abbrev Q_X5_isSign_vx (h : Hp) (b : Int) : Option V → Hp → Nat → Nat → Prop := RI (fun x H => h = H ∧ (x = 0 ∨ x = 1) ∧ ((x = 1 ∧ (b = 32 ∨ b = 9 ∨ b = 40 ∨ b = 41 ∨ b = 34)) ∨ (x = 0 ∧ b ≠ 32 ∧ b ≠ 9 ∧ b ≠ 40 ∧ b ≠ 41 ∧ b ≠ 34)))
set_option maxRecDepth 100000 in
theorem ct_X5_isSign_vx (l : Launch) (h : Hp) (hI : Inv h) (b : Int) (hb : I32 b) : Ct l D_X5_isSign 1 20 [.inl b] h (Q_X5_isSign_vx h b) := by
  refine ct_of pn_X5_isSign (Nat.le_of_ble_eq_true rfl) ?_
  show To l E_X5_isSign (0, [(0, .inl b)], [], h, 0, 0) _
  refine to_iload_n (dat dk_X5_isSign 0 rfl) rfl ?_
  refine to_cI ca_c6_86 (dat dk_X5_isSign 1 rfl) (ct_X9_isBlank_vx l h hI b hb) rfl trivial rfl (fun x1 h2 rx1 p3 => ?_)
  obtain ⟨rfl, zx1, p3_0⟩ := p3
  refine to_ifne 25 (dat dk_X5_isSign 2 rfl) rfl rx1 (fun c4 => ?_) (fun c4 => ?_)
  · skip
    refine to_iconst (dat dk_X5_isSign 12 rfl) (to_goto (dat dk_X5_isSign 13 rfl) rfl ?_)
    exact to_zret rfl (dat dk_X5_isSign 15 rfl) (by decide) (ri_mk (by decide) ⟨rfl, (by decide), (show ((1 : Int) = 1 ∧ (b = 32 ∨ b = 9 ∨ b = 40 ∨ b = 41 ∨ b = 34)) ∨ ((1 : Int) = 0 ∧ b ≠ 32 ∧ b ≠ 9 ∧ b ≠ 40 ∧ b ≠ 41 ∧ b ≠ 34) by omega)⟩)
  · skip
    refine to_iload_n (dat dk_X5_isSign 3 rfl) rfl (to_bipush (dat dk_X5_isSign 4 rfl) (by decide) ?_)
    refine to_ieq 25 (dat dk_X5_isSign 5 rfl) rfl hb (by decide) (fun c5 => ?_) (fun c5 => ?_)
    · skip
      refine to_iconst (dat dk_X5_isSign 12 rfl) (to_goto (dat dk_X5_isSign 13 rfl) rfl ?_)
      exact to_zret rfl (dat dk_X5_isSign 15 rfl) (by decide) (ri_mk (by decide) ⟨rfl, (by decide), (show ((1 : Int) = 1 ∧ (b = 32 ∨ b = 9 ∨ b = 40 ∨ b = 41 ∨ b = 34)) ∨ ((1 : Int) = 0 ∧ b ≠ 32 ∧ b ≠ 9 ∧ b ≠ 40 ∧ b ≠ 41 ∧ b ≠ 34) by omega)⟩)
    · skip
      refine to_iload_n (dat dk_X5_isSign 6 rfl) rfl (to_bipush (dat dk_X5_isSign 7 rfl) (by decide) ?_)
      refine to_ieq 25 (dat dk_X5_isSign 8 rfl) rfl hb (by decide) (fun c6 => ?_) (fun c6 => ?_)
      · skip
        refine to_iconst (dat dk_X5_isSign 12 rfl) (to_goto (dat dk_X5_isSign 13 rfl) rfl ?_)
        exact to_zret rfl (dat dk_X5_isSign 15 rfl) (by decide) (ri_mk (by decide) ⟨rfl, (by decide), (show ((1 : Int) = 1 ∧ (b = 32 ∨ b = 9 ∨ b = 40 ∨ b = 41 ∨ b = 34)) ∨ ((1 : Int) = 0 ∧ b ≠ 32 ∧ b ≠ 9 ∧ b ≠ 40 ∧ b ≠ 41 ∧ b ≠ 34) by omega)⟩)
      · skip
        refine to_iload_n (dat dk_X5_isSign 9 rfl) rfl (to_bipush (dat dk_X5_isSign 10 rfl) (by decide) ?_)
        refine to_ine 29 (dat dk_X5_isSign 11 rfl) rfl hb (by decide) (fun c7 => ?_) (fun c7 => ?_)
        · skip
          refine to_iconst (dat dk_X5_isSign 14 rfl) ?_
          exact to_zret rfl (dat dk_X5_isSign 15 rfl) (by decide) (ri_mk (by decide) ⟨rfl, (by decide), (show ((0 : Int) = 1 ∧ (b = 32 ∨ b = 9 ∨ b = 40 ∨ b = 41 ∨ b = 34)) ∨ ((0 : Int) = 0 ∧ b ≠ 32 ∧ b ≠ 9 ∧ b ≠ 40 ∧ b ≠ 41 ∧ b ≠ 34) by omega)⟩)
        · skip
          refine to_iconst (dat dk_X5_isSign 12 rfl) (to_goto (dat dk_X5_isSign 13 rfl) rfl ?_)
          exact to_zret rfl (dat dk_X5_isSign 15 rfl) (by decide) (ri_mk (by decide) ⟨rfl, (by decide), (show ((1 : Int) = 1 ∧ (b = 32 ∨ b = 9 ∨ b = 40 ∨ b = 41 ∨ b = 34)) ∨ ((1 : Int) = 0 ∧ b ≠ 32 ∧ b ≠ 9 ∧ b ≠ 40 ∧ b ≠ 41 ∧ b ≠ 34) by omega)⟩)
