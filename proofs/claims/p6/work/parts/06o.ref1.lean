/-! Contracts, by program. -/
abbrev Q_X12_isBlank (h : Hp) (b : Int) : Option V → Hp → Nat → Nat → Prop := RI (fun x H => h = H ∧ (x = 0 ∨ x = 1))
set_option maxRecDepth 100000 in
theorem ct_X12_isBlank (l : Launch) (h : Hp) (hI : Inv h) (b : Int) (hb : I32 b) : Ct l D_X12_isBlank 0 0 [.inl b] h (Q_X12_isBlank h b) := by
  refine ct_of pn_X12_isBlank (Nat.le_of_ble_eq_true rfl) ?_
  show To l E_X12_isBlank (0, [(0, .inl b)], [], h, 0, 0) _
  refine to_iload_n (dat dk_X12_isBlank 0 rfl) rfl (to_bipush (dat dk_X12_isBlank 1 rfl) (by decide) ?_)
  refine to_ieq 12 (dat dk_X12_isBlank 2 rfl) rfl hb (by decide) (fun c1 => ?_) (fun c1 => ?_)
  · skip
    refine to_iconst (dat dk_X12_isBlank 6 rfl) (to_goto (dat dk_X12_isBlank 7 rfl) rfl ?_)
    exact to_zret rfl (dat dk_X12_isBlank 9 rfl) (by decide) (ri_mk (by decide) ⟨rfl, (by decide)⟩)
  · skip
    refine to_iload_n (dat dk_X12_isBlank 3 rfl) rfl (to_bipush (dat dk_X12_isBlank 4 rfl) (by decide) ?_)
    refine to_ine 16 (dat dk_X12_isBlank 5 rfl) rfl hb (by decide) (fun c2 => ?_) (fun c2 => ?_)
    · skip
      refine to_iconst (dat dk_X12_isBlank 8 rfl) ?_
      exact to_zret rfl (dat dk_X12_isBlank 9 rfl) (by decide) (ri_mk (by decide) ⟨rfl, (by decide)⟩)
    · skip
      refine to_iconst (dat dk_X12_isBlank 6 rfl) (to_goto (dat dk_X12_isBlank 7 rfl) rfl ?_)
      exact to_zret rfl (dat dk_X12_isBlank 9 rfl) (by decide) (ri_mk (by decide) ⟨rfl, (by decide)⟩)
abbrev Q_X12_isDigit (h : Hp) (b : Int) : Option V → Hp → Nat → Nat → Prop := RI (fun x H => h = H ∧ (x = 0 ∨ x = 1) ∧ (x = 0 ∨ (48 ≤ b ∧ b ≤ 57)))
set_option maxRecDepth 100000 in
theorem ct_X12_isDigit (l : Launch) (h : Hp) (hI : Inv h) (b : Int) (hb : I32 b) : Ct l D_X12_isDigit 0 0 [.inl b] h (Q_X12_isDigit h b) := by
  refine ct_of pn_X12_isDigit (Nat.le_of_ble_eq_true rfl) ?_
  show To l E_X12_isDigit (0, [(0, .inl b)], [], h, 0, 0) _
  refine to_iload_n (dat dk_X12_isDigit 0 rfl) rfl (to_bipush (dat dk_X12_isDigit 1 rfl) (by decide) ?_)
  refine to_ilt 16 (dat dk_X12_isDigit 2 rfl) rfl hb (by decide) (fun c1 => ?_) (fun c1 => ?_)
  · skip
    refine to_iconst (dat dk_X12_isDigit 8 rfl) ?_
    exact to_zret rfl (dat dk_X12_isDigit 9 rfl) (by decide) (ri_mk (by decide) ⟨rfl, (by decide), (show (0 : Int) = 0 ∨ (48 ≤ b ∧ b ≤ 57) by omega)⟩)
  · skip
    refine to_iload_n (dat dk_X12_isDigit 3 rfl) rfl (to_bipush (dat dk_X12_isDigit 4 rfl) (by decide) ?_)
    refine to_igt 16 (dat dk_X12_isDigit 5 rfl) rfl hb (by decide) (fun c2 => ?_) (fun c2 => ?_)
    · skip
      refine to_iconst (dat dk_X12_isDigit 8 rfl) ?_
      exact to_zret rfl (dat dk_X12_isDigit 9 rfl) (by decide) (ri_mk (by decide) ⟨rfl, (by decide), (show (0 : Int) = 0 ∨ (48 ≤ b ∧ b ≤ 57) by omega)⟩)
    · skip
      refine to_iconst (dat dk_X12_isDigit 6 rfl) (to_goto (dat dk_X12_isDigit 7 rfl) rfl ?_)
      exact to_zret rfl (dat dk_X12_isDigit 9 rfl) (by decide) (ri_mk (by decide) ⟨rfl, (by decide), (show (1 : Int) = 0 ∨ (48 ≤ b ∧ b ≤ 57) by omega)⟩)
abbrev Q_X12_small (h : Hp) (b : Int) : Option V → Hp → Nat → Nat → Prop := RI (fun x H => h = H)
set_option maxRecDepth 100000 in
theorem ct_X12_small (l : Launch) (h : Hp) (hI : Inv h) (b : Int) (hb : I32 b) : Ct l D_X12_small 0 0 [.inl b] h (Q_X12_small h b) := by
  refine ct_of pn_X12_small (Nat.le_of_ble_eq_true rfl) ?_
  show To l E_X12_small (0, [(0, .inl b)], [], h, 0, 0) _
  refine to_iload_n (dat dk_X12_small 0 rfl) rfl (to_bipush (dat dk_X12_small 1 rfl) (by decide) ?_)
  refine to_ilt 19 (dat dk_X12_small 2 rfl) rfl hb (by decide) (fun c1 => ?_) (fun c1 => ?_)
  · skip
    refine to_iload_n (dat dk_X12_small 10 rfl) rfl ?_
    exact to_iret rfl (dat dk_X12_small 11 rfl) (ri_mk hb rfl)
  · skip
    refine to_iload_n (dat dk_X12_small 3 rfl) rfl (to_bipush (dat dk_X12_small 4 rfl) (by decide) ?_)
    refine to_igt 19 (dat dk_X12_small 5 rfl) rfl hb (by decide) (fun c2 => ?_) (fun c2 => ?_)
    · skip
      refine to_iload_n (dat dk_X12_small 10 rfl) rfl ?_
      exact to_iret rfl (dat dk_X12_small 11 rfl) (ri_mk hb rfl)
    · skip
      refine to_iload_n (dat dk_X12_small 6 rfl) rfl (to_bipush (dat dk_X12_small 7 rfl) (by decide) (to_iadd (dat dk_X12_small 8 rfl) (to_goto (dat dk_X12_small 9 rfl) rfl ?_)))
      exact to_iret rfl (dat dk_X12_small 11 rfl) (ri_mk (by omega) rfl)
abbrev Q_X12_isLetter (h : Hp) (b : Int) : Option V → Hp → Nat → Nat → Prop := RI (fun x H => h = H ∧ (x = 0 ∨ x = 1))
set_option maxRecDepth 100000 in
theorem ct_X12_isLetter (l : Launch) (h : Hp) (hI : Inv h) (b : Int) (hb : I32 b) : Ct l D_X12_isLetter 1 20 [.inl b] h (Q_X12_isLetter h b) := by
  refine ct_of pn_X12_isLetter (Nat.le_of_ble_eq_true rfl) ?_
  show To l E_X12_isLetter (0, [(0, .inl b)], [], h, 0, 0) _
  refine to_iload_n (dat dk_X12_isLetter 0 rfl) rfl ?_
  refine to_cI ca_c13_157 (dat dk_X12_isLetter 1 rfl) (ct_X12_small l h hI b hb) rfl trivial rfl (fun x1 h2 rx1 p3 => ?_)
  subst p3
  refine to_bipush (dat dk_X12_isLetter 2 rfl) (by decide) ?_
  refine to_ilt 22 (dat dk_X12_isLetter 3 rfl) rfl rx1 (by decide) (fun c4 => ?_) (fun c4 => ?_)
  · skip
    refine to_iconst (dat dk_X12_isLetter 10 rfl) ?_
    exact to_zret rfl (dat dk_X12_isLetter 11 rfl) (by decide) (ri_mk (by decide) ⟨rfl, (by decide)⟩)
  · skip
    refine to_iload_n (dat dk_X12_isLetter 4 rfl) rfl ?_
    refine to_cI ca_c13_157 (dat dk_X12_isLetter 5 rfl) (ct_X12_small l h hI b hb) rfl trivial rfl (fun x5 h6 rx5 p7 => ?_)
    subst p7
    refine to_bipush (dat dk_X12_isLetter 6 rfl) (by decide) ?_
    refine to_igt 22 (dat dk_X12_isLetter 7 rfl) rfl rx5 (by decide) (fun c8 => ?_) (fun c8 => ?_)
    · skip
      refine to_iconst (dat dk_X12_isLetter 10 rfl) ?_
      exact to_zret rfl (dat dk_X12_isLetter 11 rfl) (by decide) (ri_mk (by decide) ⟨rfl, (by decide)⟩)
    · skip
      refine to_iconst (dat dk_X12_isLetter 8 rfl) (to_goto (dat dk_X12_isLetter 9 rfl) rfl ?_)
      exact to_zret rfl (dat dk_X12_isLetter 11 rfl) (by decide) (ri_mk (by decide) ⟨rfl, (by decide)⟩)
abbrev Q_X12_hexadecimal (h : Hp) (b : Int) : Option V → Hp → Nat → Nat → Prop := RI (fun x H => h = H ∧ (-1 ≤ x ∧ x ≤ 15))
set_option maxRecDepth 100000 in
theorem ct_X12_hexadecimal (l : Launch) (h : Hp) (hI : Inv h) (b : Int) (hb : I32 b) : Ct l D_X12_hexadecimal 1 20 [.inl b] h (Q_X12_hexadecimal h b) := by
  refine ct_of pn_X12_hexadecimal (Nat.le_of_ble_eq_true rfl) ?_
  show To l E_X12_hexadecimal (0, [(0, .inl b)], [], h, 0, 0) _
  refine to_iload_n (dat dk_X12_hexadecimal 0 rfl) rfl ?_
  refine to_cI ca_c13_161 (dat dk_X12_hexadecimal 1 rfl) (ct_X12_isDigit l h hI b hb) rfl trivial rfl (fun x1 h2 rx1 p3 => ?_)
  obtain ⟨rfl, zx1, p3_0⟩ := p3
  refine to_ifeq 12 (dat dk_X12_hexadecimal 2 rfl) rfl rx1 (fun c4 => ?_) (fun c4 => ?_)
  · skip
    refine to_iload_n (dat dk_X12_hexadecimal 7 rfl) rfl ?_
    refine to_cI ca_c13_157 (dat dk_X12_hexadecimal 8 rfl) (ct_X12_small l h hI b hb) rfl trivial rfl (fun x5 h6 rx5 p7 => ?_)
    subst p7
    refine to_istore_n (L' := [(0, .inl b), (1, .inl x5)]) (dat dk_X12_hexadecimal 9 rfl) (by decide) rfl (to_iload_n (dat dk_X12_hexadecimal 10 rfl) rfl (to_bipush (dat dk_X12_hexadecimal 11 rfl) (by decide) ?_))
    refine to_ilt 39 (dat dk_X12_hexadecimal 12 rfl) rfl rx5 (by decide) (fun c8 => ?_) (fun c8 => ?_)
    · skip
      refine to_iconst (dat dk_X12_hexadecimal 22 rfl) ?_
      exact to_iret rfl (dat dk_X12_hexadecimal 23 rfl) (ri_mk (by decide) ⟨rfl, (show -1 ≤ (-1 : Int) ∧ (-1 : Int) ≤ 15 by omega)⟩)
    · skip
      refine to_iload_n (dat dk_X12_hexadecimal 13 rfl) rfl (to_bipush (dat dk_X12_hexadecimal 14 rfl) (by decide) ?_)
      refine to_igt 39 (dat dk_X12_hexadecimal 15 rfl) rfl rx5 (by decide) (fun c9 => ?_) (fun c9 => ?_)
      · skip
        refine to_iconst (dat dk_X12_hexadecimal 22 rfl) ?_
        exact to_iret rfl (dat dk_X12_hexadecimal 23 rfl) (ri_mk (by decide) ⟨rfl, (show -1 ≤ (-1 : Int) ∧ (-1 : Int) ≤ 15 by omega)⟩)
      · skip
        refine to_iload_n (dat dk_X12_hexadecimal 16 rfl) rfl (to_bipush (dat dk_X12_hexadecimal 17 rfl) (by decide) (to_isub (dat dk_X12_hexadecimal 18 rfl) (to_bipush (dat dk_X12_hexadecimal 19 rfl) (by decide) (to_iadd (dat dk_X12_hexadecimal 20 rfl) (to_goto (dat dk_X12_hexadecimal 21 rfl) rfl ?_)))))
        exact to_iret rfl (dat dk_X12_hexadecimal 23 rfl) (ri_mk (by omega) ⟨rfl, (show -1 ≤ ((x5 - 97) + 10) ∧ ((x5 - 97) + 10) ≤ 15 by omega)⟩)
  · skip
    refine to_iload_n (dat dk_X12_hexadecimal 3 rfl) rfl (to_bipush (dat dk_X12_hexadecimal 4 rfl) (by decide) (to_isub (dat dk_X12_hexadecimal 5 rfl) ?_))
    exact to_iret rfl (dat dk_X12_hexadecimal 6 rfl) (ri_mk (by omega) ⟨rfl, (show -1 ≤ (b - 48) ∧ (b - 48) ≤ 15 by omega)⟩)
abbrev Q_X12_sixtyFour (h : Hp) (b : Int) : Option V → Hp → Nat → Nat → Prop := RI (fun x H => h = H ∧ (-1 ≤ x ∧ x ≤ 63))
set_option maxRecDepth 100000 in
theorem ct_X12_sixtyFour (l : Launch) (h : Hp) (hI : Inv h) (b : Int) (hb : I32 b) : Ct l D_X12_sixtyFour 1 20 [.inl b] h (Q_X12_sixtyFour h b) := by
  refine ct_of pn_X12_sixtyFour (Nat.le_of_ble_eq_true rfl) ?_
  show To l E_X12_sixtyFour (0, [(0, .inl b)], [], h, 0, 0) _
  refine to_iload_n (dat dk_X12_sixtyFour 0 rfl) rfl (to_bipush (dat dk_X12_sixtyFour 1 rfl) (by decide) ?_)
  refine to_ilt 19 (dat dk_X12_sixtyFour 2 rfl) rfl hb (by decide) (fun c1 => ?_) (fun c1 => ?_)
  · skip
    refine to_iload_n (dat dk_X12_sixtyFour 10 rfl) rfl (to_bipush (dat dk_X12_sixtyFour 11 rfl) (by decide) ?_)
    refine to_ilt 41 (dat dk_X12_sixtyFour 12 rfl) rfl hb (by decide) (fun c2 => ?_) (fun c2 => ?_)
    · skip
      refine to_iload_n (dat dk_X12_sixtyFour 22 rfl) rfl ?_
      refine to_cI ca_c13_161 (dat dk_X12_sixtyFour 23 rfl) (ct_X12_isDigit l h hI b hb) rfl trivial rfl (fun x3 h4 rx3 p5 => ?_)
      obtain ⟨rfl, zx3, p5_0⟩ := p5
      refine to_ifeq 58 (dat dk_X12_sixtyFour 24 rfl) rfl rx3 (fun c6 => ?_) (fun c6 => ?_)
      · skip
        refine to_iload_n (dat dk_X12_sixtyFour 31 rfl) rfl (to_bipush (dat dk_X12_sixtyFour 32 rfl) (by decide) ?_)
        refine to_ine 69 (dat dk_X12_sixtyFour 33 rfl) rfl hb (by decide) (fun c7 => ?_) (fun c7 => ?_)
        · skip
          refine to_iload_n (dat dk_X12_sixtyFour 36 rfl) rfl (to_bipush (dat dk_X12_sixtyFour 37 rfl) (by decide) ?_)
          refine to_ine 80 (dat dk_X12_sixtyFour 38 rfl) rfl hb (by decide) (fun c8 => ?_) (fun c8 => ?_)
          · skip
            refine to_iconst (dat dk_X12_sixtyFour 41 rfl) ?_
            exact to_iret rfl (dat dk_X12_sixtyFour 42 rfl) (ri_mk (by decide) ⟨rfl, (show -1 ≤ (-1 : Int) ∧ (-1 : Int) ≤ 63 by omega)⟩)
          · skip
            refine to_bipush (dat dk_X12_sixtyFour 39 rfl) (by decide) (to_goto (dat dk_X12_sixtyFour 40 rfl) rfl ?_)
            exact to_iret rfl (dat dk_X12_sixtyFour 42 rfl) (ri_mk (by decide) ⟨rfl, (show -1 ≤ (63 : Int) ∧ (63 : Int) ≤ 63 by omega)⟩)
        · skip
          refine to_bipush (dat dk_X12_sixtyFour 34 rfl) (by decide) (to_goto (dat dk_X12_sixtyFour 35 rfl) rfl ?_)
          exact to_iret rfl (dat dk_X12_sixtyFour 42 rfl) (ri_mk (by decide) ⟨rfl, (show -1 ≤ (62 : Int) ∧ (62 : Int) ≤ 63 by omega)⟩)
      · skip
        refine to_iload_n (dat dk_X12_sixtyFour 25 rfl) rfl (to_bipush (dat dk_X12_sixtyFour 26 rfl) (by decide) (to_isub (dat dk_X12_sixtyFour 27 rfl) (to_bipush (dat dk_X12_sixtyFour 28 rfl) (by decide) (to_iadd (dat dk_X12_sixtyFour 29 rfl) (to_goto (dat dk_X12_sixtyFour 30 rfl) rfl ?_)))))
        exact to_iret rfl (dat dk_X12_sixtyFour 42 rfl) (ri_mk (by omega) ⟨rfl, (show -1 ≤ ((b - 48) + 52) ∧ ((b - 48) + 52) ≤ 63 by omega)⟩)
    · skip
      refine to_iload_n (dat dk_X12_sixtyFour 13 rfl) rfl (to_bipush (dat dk_X12_sixtyFour 14 rfl) (by decide) ?_)
      refine to_igt 41 (dat dk_X12_sixtyFour 15 rfl) rfl hb (by decide) (fun c9 => ?_) (fun c9 => ?_)
      · skip
        refine to_iload_n (dat dk_X12_sixtyFour 22 rfl) rfl ?_
        refine to_cI ca_c13_161 (dat dk_X12_sixtyFour 23 rfl) (ct_X12_isDigit l h hI b hb) rfl trivial rfl (fun x10 h11 rx10 p12 => ?_)
        obtain ⟨rfl, zx10, p12_0⟩ := p12
        refine to_ifeq 58 (dat dk_X12_sixtyFour 24 rfl) rfl rx10 (fun c13 => ?_) (fun c13 => ?_)
        · skip
          refine to_iload_n (dat dk_X12_sixtyFour 31 rfl) rfl (to_bipush (dat dk_X12_sixtyFour 32 rfl) (by decide) ?_)
          refine to_ine 69 (dat dk_X12_sixtyFour 33 rfl) rfl hb (by decide) (fun c14 => ?_) (fun c14 => ?_)
          · skip
            refine to_iload_n (dat dk_X12_sixtyFour 36 rfl) rfl (to_bipush (dat dk_X12_sixtyFour 37 rfl) (by decide) ?_)
            refine to_ine 80 (dat dk_X12_sixtyFour 38 rfl) rfl hb (by decide) (fun c15 => ?_) (fun c15 => ?_)
            · skip
              refine to_iconst (dat dk_X12_sixtyFour 41 rfl) ?_
              exact to_iret rfl (dat dk_X12_sixtyFour 42 rfl) (ri_mk (by decide) ⟨rfl, (show -1 ≤ (-1 : Int) ∧ (-1 : Int) ≤ 63 by omega)⟩)
            · skip
              refine to_bipush (dat dk_X12_sixtyFour 39 rfl) (by decide) (to_goto (dat dk_X12_sixtyFour 40 rfl) rfl ?_)
              exact to_iret rfl (dat dk_X12_sixtyFour 42 rfl) (ri_mk (by decide) ⟨rfl, (show -1 ≤ (63 : Int) ∧ (63 : Int) ≤ 63 by omega)⟩)
          · skip
            refine to_bipush (dat dk_X12_sixtyFour 34 rfl) (by decide) (to_goto (dat dk_X12_sixtyFour 35 rfl) rfl ?_)
            exact to_iret rfl (dat dk_X12_sixtyFour 42 rfl) (ri_mk (by decide) ⟨rfl, (show -1 ≤ (62 : Int) ∧ (62 : Int) ≤ 63 by omega)⟩)
        · skip
          refine to_iload_n (dat dk_X12_sixtyFour 25 rfl) rfl (to_bipush (dat dk_X12_sixtyFour 26 rfl) (by decide) (to_isub (dat dk_X12_sixtyFour 27 rfl) (to_bipush (dat dk_X12_sixtyFour 28 rfl) (by decide) (to_iadd (dat dk_X12_sixtyFour 29 rfl) (to_goto (dat dk_X12_sixtyFour 30 rfl) rfl ?_)))))
          exact to_iret rfl (dat dk_X12_sixtyFour 42 rfl) (ri_mk (by omega) ⟨rfl, (show -1 ≤ ((b - 48) + 52) ∧ ((b - 48) + 52) ≤ 63 by omega)⟩)
      · skip
        refine to_iload_n (dat dk_X12_sixtyFour 16 rfl) rfl (to_bipush (dat dk_X12_sixtyFour 17 rfl) (by decide) (to_isub (dat dk_X12_sixtyFour 18 rfl) (to_bipush (dat dk_X12_sixtyFour 19 rfl) (by decide) (to_iadd (dat dk_X12_sixtyFour 20 rfl) (to_goto (dat dk_X12_sixtyFour 21 rfl) rfl ?_)))))
        exact to_iret rfl (dat dk_X12_sixtyFour 42 rfl) (ri_mk (by omega) ⟨rfl, (show -1 ≤ ((b - 97) + 26) ∧ ((b - 97) + 26) ≤ 63 by omega)⟩)
  · skip
    refine to_iload_n (dat dk_X12_sixtyFour 3 rfl) rfl (to_bipush (dat dk_X12_sixtyFour 4 rfl) (by decide) ?_)
    refine to_igt 19 (dat dk_X12_sixtyFour 5 rfl) rfl hb (by decide) (fun c16 => ?_) (fun c16 => ?_)
    · skip
      refine to_iload_n (dat dk_X12_sixtyFour 10 rfl) rfl (to_bipush (dat dk_X12_sixtyFour 11 rfl) (by decide) ?_)
      refine to_ilt 41 (dat dk_X12_sixtyFour 12 rfl) rfl hb (by decide) (fun c17 => ?_) (fun c17 => ?_)
      · skip
        refine to_iload_n (dat dk_X12_sixtyFour 22 rfl) rfl ?_
        refine to_cI ca_c13_161 (dat dk_X12_sixtyFour 23 rfl) (ct_X12_isDigit l h hI b hb) rfl trivial rfl (fun x18 h19 rx18 p20 => ?_)
        obtain ⟨rfl, zx18, p20_0⟩ := p20
        refine to_ifeq 58 (dat dk_X12_sixtyFour 24 rfl) rfl rx18 (fun c21 => ?_) (fun c21 => ?_)
        · skip
          refine to_iload_n (dat dk_X12_sixtyFour 31 rfl) rfl (to_bipush (dat dk_X12_sixtyFour 32 rfl) (by decide) ?_)
          refine to_ine 69 (dat dk_X12_sixtyFour 33 rfl) rfl hb (by decide) (fun c22 => ?_) (fun c22 => ?_)
          · skip
            refine to_iload_n (dat dk_X12_sixtyFour 36 rfl) rfl (to_bipush (dat dk_X12_sixtyFour 37 rfl) (by decide) ?_)
            refine to_ine 80 (dat dk_X12_sixtyFour 38 rfl) rfl hb (by decide) (fun c23 => ?_) (fun c23 => ?_)
            · skip
              refine to_iconst (dat dk_X12_sixtyFour 41 rfl) ?_
              exact to_iret rfl (dat dk_X12_sixtyFour 42 rfl) (ri_mk (by decide) ⟨rfl, (show -1 ≤ (-1 : Int) ∧ (-1 : Int) ≤ 63 by omega)⟩)
            · skip
              refine to_bipush (dat dk_X12_sixtyFour 39 rfl) (by decide) (to_goto (dat dk_X12_sixtyFour 40 rfl) rfl ?_)
              exact to_iret rfl (dat dk_X12_sixtyFour 42 rfl) (ri_mk (by decide) ⟨rfl, (show -1 ≤ (63 : Int) ∧ (63 : Int) ≤ 63 by omega)⟩)
          · skip
            refine to_bipush (dat dk_X12_sixtyFour 34 rfl) (by decide) (to_goto (dat dk_X12_sixtyFour 35 rfl) rfl ?_)
            exact to_iret rfl (dat dk_X12_sixtyFour 42 rfl) (ri_mk (by decide) ⟨rfl, (show -1 ≤ (62 : Int) ∧ (62 : Int) ≤ 63 by omega)⟩)
        · skip
          refine to_iload_n (dat dk_X12_sixtyFour 25 rfl) rfl (to_bipush (dat dk_X12_sixtyFour 26 rfl) (by decide) (to_isub (dat dk_X12_sixtyFour 27 rfl) (to_bipush (dat dk_X12_sixtyFour 28 rfl) (by decide) (to_iadd (dat dk_X12_sixtyFour 29 rfl) (to_goto (dat dk_X12_sixtyFour 30 rfl) rfl ?_)))))
          exact to_iret rfl (dat dk_X12_sixtyFour 42 rfl) (ri_mk (by omega) ⟨rfl, (show -1 ≤ ((b - 48) + 52) ∧ ((b - 48) + 52) ≤ 63 by omega)⟩)
      · skip
        refine to_iload_n (dat dk_X12_sixtyFour 13 rfl) rfl (to_bipush (dat dk_X12_sixtyFour 14 rfl) (by decide) ?_)
        refine to_igt 41 (dat dk_X12_sixtyFour 15 rfl) rfl hb (by decide) (fun c24 => ?_) (fun c24 => ?_)
        · skip
          refine to_iload_n (dat dk_X12_sixtyFour 22 rfl) rfl ?_
          refine to_cI ca_c13_161 (dat dk_X12_sixtyFour 23 rfl) (ct_X12_isDigit l h hI b hb) rfl trivial rfl (fun x25 h26 rx25 p27 => ?_)
          obtain ⟨rfl, zx25, p27_0⟩ := p27
          refine to_ifeq 58 (dat dk_X12_sixtyFour 24 rfl) rfl rx25 (fun c28 => ?_) (fun c28 => ?_)
          · skip
            refine to_iload_n (dat dk_X12_sixtyFour 31 rfl) rfl (to_bipush (dat dk_X12_sixtyFour 32 rfl) (by decide) ?_)
            refine to_ine 69 (dat dk_X12_sixtyFour 33 rfl) rfl hb (by decide) (fun c29 => ?_) (fun c29 => ?_)
            · skip
              refine to_iload_n (dat dk_X12_sixtyFour 36 rfl) rfl (to_bipush (dat dk_X12_sixtyFour 37 rfl) (by decide) ?_)
              refine to_ine 80 (dat dk_X12_sixtyFour 38 rfl) rfl hb (by decide) (fun c30 => ?_) (fun c30 => ?_)
              · skip
                refine to_iconst (dat dk_X12_sixtyFour 41 rfl) ?_
                exact to_iret rfl (dat dk_X12_sixtyFour 42 rfl) (ri_mk (by decide) ⟨rfl, (show -1 ≤ (-1 : Int) ∧ (-1 : Int) ≤ 63 by omega)⟩)
              · skip
                refine to_bipush (dat dk_X12_sixtyFour 39 rfl) (by decide) (to_goto (dat dk_X12_sixtyFour 40 rfl) rfl ?_)
                exact to_iret rfl (dat dk_X12_sixtyFour 42 rfl) (ri_mk (by decide) ⟨rfl, (show -1 ≤ (63 : Int) ∧ (63 : Int) ≤ 63 by omega)⟩)
            · skip
              refine to_bipush (dat dk_X12_sixtyFour 34 rfl) (by decide) (to_goto (dat dk_X12_sixtyFour 35 rfl) rfl ?_)
              exact to_iret rfl (dat dk_X12_sixtyFour 42 rfl) (ri_mk (by decide) ⟨rfl, (show -1 ≤ (62 : Int) ∧ (62 : Int) ≤ 63 by omega)⟩)
          · skip
            refine to_iload_n (dat dk_X12_sixtyFour 25 rfl) rfl (to_bipush (dat dk_X12_sixtyFour 26 rfl) (by decide) (to_isub (dat dk_X12_sixtyFour 27 rfl) (to_bipush (dat dk_X12_sixtyFour 28 rfl) (by decide) (to_iadd (dat dk_X12_sixtyFour 29 rfl) (to_goto (dat dk_X12_sixtyFour 30 rfl) rfl ?_)))))
            exact to_iret rfl (dat dk_X12_sixtyFour 42 rfl) (ri_mk (by omega) ⟨rfl, (show -1 ≤ ((b - 48) + 52) ∧ ((b - 48) + 52) ≤ 63 by omega)⟩)
        · skip
          refine to_iload_n (dat dk_X12_sixtyFour 16 rfl) rfl (to_bipush (dat dk_X12_sixtyFour 17 rfl) (by decide) (to_isub (dat dk_X12_sixtyFour 18 rfl) (to_bipush (dat dk_X12_sixtyFour 19 rfl) (by decide) (to_iadd (dat dk_X12_sixtyFour 20 rfl) (to_goto (dat dk_X12_sixtyFour 21 rfl) rfl ?_)))))
          exact to_iret rfl (dat dk_X12_sixtyFour 42 rfl) (ri_mk (by omega) ⟨rfl, (show -1 ≤ ((b - 97) + 26) ∧ ((b - 97) + 26) ≤ 63 by omega)⟩)
    · skip
      refine to_iload_n (dat dk_X12_sixtyFour 6 rfl) rfl (to_bipush (dat dk_X12_sixtyFour 7 rfl) (by decide) (to_isub (dat dk_X12_sixtyFour 8 rfl) (to_goto (dat dk_X12_sixtyFour 9 rfl) rfl ?_)))
      exact to_iret rfl (dat dk_X12_sixtyFour 42 rfl) (ri_mk (by omega) ⟨rfl, (show -1 ≤ (b - 65) ∧ (b - 65) ≤ 63 by omega)⟩)
abbrev Q_X12_put (h : Hp) (b : Int) : Option V → Hp → Nat → Nat → Prop := RV (fun H => Inv H ∧ Fr [76, 225] h H ∧ (H.2.2 60 25 = h.2.2 60 25 + 1))
set_option maxRecDepth 100000 in
theorem ct_X12_put (l : Launch) (h : Hp) (hI : Inv h) (b : Int) (hb : I32 b) (g0 : h.2.2 60 25 ≤ 3999) : Ct l D_X12_put 0 0 [.inr (.inr 60), .inl b] h (Q_X12_put h b) := by
  refine ct_of pn_X12_put (Nat.le_of_ble_eq_true rfl) ?_
  show To l E_X12_put (0, [(0, .inr (.inr 60)), (1, .inl b)], [], h, 0, 0) _
  obtain ⟨x1, ex1⟩ : ∃ y : Int, h.2.2 60 25 = y := ⟨_, rfl⟩
  have rx1 := hI.atR (a := 60) (j := 25) rfl
  rw [ex1] at rx1
  refine to_aload_n (dat dk_X12_put 0 rfl) rfl (to_getR 76 g_c13_63 (dat dk_X12_put 1 rfl) (hI.atS rfl) (hI.atE rfl) (to_aload_n (dat dk_X12_put 2 rfl) rfl (to_getIv (y := x1) ex1 g_c13_165 (dat dk_X12_put 3 rfl) (hI.atS rfl) (to_iload_n (dat dk_X12_put 4 rfl) rfl (to_i2b (dat dk_X12_put 5 rfl) (to_bastw (dat dk_X12_put 6 rfl) (hI.atS rfl) rfl (by decide) (by omega) ?_))))))
  intro h4 wh4
  have I2 : Inv h4 := by rw [wh4]; exact hI.put (a := 76) (j := (Int.toNat x1)) (x := (b8 (b8 b))) (-128) (127) rfl rfl (show (-128 : Int) ≤ (b8 (b8 b)) ∧ (b8 (b8 b)) ≤ 127 by have := b8_in (b8 b); omega)
  have f3 : Fr [76, 225] h h4 := by rw [wh4]; exact Fr.putF (a := 76) (j := (Int.toNat x1)) (x := (b8 (b8 b))) (Fr.rf _ _) rfl
  refine to_aload_n (dat dk_X12_put 7 rfl) rfl (to_dup (dat dk_X12_put 8 rfl) rfl (to_getIv (y := x1) (by rw [wh4]; exact ex1) g_c13_165 (dat dk_X12_put 9 rfl) (I2.atS rfl) (to_iconst (dat dk_X12_put 10 rfl) (to_iadd (dat dk_X12_put 11 rfl) (to_putIw p_c13_165 (dat dk_X12_put 12 rfl) (I2.atS rfl) ?_)))))
  intro h7 wh7
  have I5 : Inv h7 := by rw [wh7]; exact I2.put (a := 60) (j := 25) (x := (x1 + 1)) (0) (4000) rfl rfl (show (0 : Int) ≤ (x1 + 1) ∧ (x1 + 1) ≤ 4000 by omega)
  have f6 : Fr [76, 225] h h7 := by rw [wh7]; exact Fr.putF (a := 60) (j := 25) (x := (x1 + 1)) f3 rfl
  have e8 : h7.2.2 60 25 = (x1 + 1) := (by rw [wh7]; exact wr_eq)
  exact to_vret rfl (dat dk_X12_put 13 rfl) (rv_mk ⟨I5, f6, (show h7.2.2 60 25 = h.2.2 60 25 + 1 by omega)⟩)
abbrev Q_X12_same (h : Hp) (a : Nat) (f : Int) (g : Int) (t nt : Nat) (c : Int) (e : Int) : Option V → Hp → Nat → Nat → Prop := RI (fun x H => h = H ∧ (x = 0 ∨ x = 1))
set_option maxRecDepth 100000 in
theorem ct_X12_same (l : Launch) (h : Hp) (hI : Inv h) (a : Nat) (na : Nat) (ha : isA a na = true) (f : Int) (hf : I32 f) (g : Int) (hg : I32 g) (t nt : Nat) (ht : (t, nt) ∈ saL) (c : Int) (hc : I32 c) (e : Int) (he : I32 e) (g0 : 0 ≤ f ∧ f ≤ 640000) (g1 : -1 ≤ g ∧ g ≤ 640000) (g2 : 0 ≤ c ∧ c ≤ 100) (g3 : 0 ≤ e ∧ e ≤ (nt : Int)) (g4 : g ≤ (na : Int) ∨ f + (e - c) ≤ (na : Int)) : Ct l D_X12_same 1 20 [.inr (.inr a), .inl f, .inl g, .inr (.inr t), .inl c, .inl e] h (Q_X12_same h a f g t nt c e) := by
  refine ct_of pn_X12_same (Nat.le_of_ble_eq_true rfl) ?_
  show To l E_X12_same (0, [(0, .inr (.inr a)), (1, .inl f), (2, .inl g), (3, .inr (.inr t)), (4, .inl c), (5, .inl e)], [], h, 0, 0) _
  have la := isA_le ha
  have lt := sa_n ht
  refine to_iload_n (dat dk_X12_same 0 rfl) rfl (to_iload_n (dat dk_X12_same 1 rfl) rfl (to_isub (dat dk_X12_same 2 rfl) (to_iload (dat dk_X12_same 3 rfl) rfl (to_iload (dat dk_X12_same 4 rfl) rfl (to_isub (dat dk_X12_same 5 rfl) ?_)))))
  refine to_ieq 13 (dat dk_X12_same 6 rfl) rfl (by omega) (by omega) (fun c1 => ?_) (fun c1 => ?_)
  · skip
    refine to_iconst (dat dk_X12_same 9 rfl) (to_istore (L' := [(0, .inr (.inr a)), (1, .inl f), (2, .inl g), (3, .inr (.inr t)), (4, .inl c), (5, .inl e), (6, .inl 0)]) (dat dk_X12_same 10 rfl) (by decide) rfl ?_)
    have lp16_n4 : ∀ (n4 : Nat) (y2 : Int), (I32 y2) → (0 ≤ y2) → (g - f - y2 ≤ (n4 : Int)) → To l E_X12_same (16, [(0, .inr (.inr a)), (1, .inl f), (2, .inl g), (3, .inr (.inr t)), (4, .inl c), (5, .inl e), (6, .inl y2)], [], h, 0, 0) (Q_X12_same h a f g t nt c e) := by
      intro n4
      induction n4 using Nat.strongRecOn with
      | _ n4 ihn4 =>
      intro y2 ry2 c3 c5
      refine to_iload (dat dk_X12_same 11 rfl) rfl (to_iload_n (dat dk_X12_same 12 rfl) rfl (to_iload_n (dat dk_X12_same 13 rfl) rfl (to_isub (dat dk_X12_same 14 rfl) ?_)))
      refine to_ige 51 (dat dk_X12_same 15 rfl) rfl ry2 (by omega) (fun c6 => ?_) (fun c6 => ?_)
      · skip
        refine to_iconst (dat dk_X12_same 32 rfl) ?_
        exact to_zret rfl (dat dk_X12_same 33 rfl) (by decide) (ri_mk (by decide) ⟨rfl, (by decide)⟩)
      · skip
        refine to_aload_np (dat dk_X12_same 16 rfl) (hI.posN (hI.aT ha)) rfl (to_iload_n (dat dk_X12_same 17 rfl) rfl (to_iload (dat dk_X12_same 18 rfl) rfl (to_iadd (dat dk_X12_same 19 rfl) ?_)))
        obtain ⟨x7, ex7⟩ : ∃ y : Int, h.2.2 a (Int.toNat (f + y2)) = y := ⟨_, rfl⟩
        have rx7 := hI.aC (j := Int.toNat (f + y2)) ha
        rw [ex7] at rx7
        refine to_baldv (q := 1) ex7 (dat dk_X12_same 20 rfl) (by decide) (hI.aT ha) rfl (isA_n ha) (by omega) ?_
        refine to_cI ca_c13_157 (dat dk_X12_same 21 rfl) (ct_X12_small l h hI x7 (by omega)) rfl trivial rfl (fun x8 h9 rx8 p10 => ?_)
        subst p10
        refine to_aload_np (dat dk_X12_same 22 rfl) (sa_pos ht) rfl (to_iload (dat dk_X12_same 23 rfl) rfl (to_iload (dat dk_X12_same 24 rfl) rfl (to_iadd (dat dk_X12_same 25 rfl) ?_)))
        refine to_saInt ht (dat dk_X12_same 26 rfl) (by omega) (fun x11 rx11 => ?_)
        refine to_ieq 45 (dat dk_X12_same 27 rfl) rfl rx8 (by omega) (fun c12 => ?_) (fun c12 => ?_)
        · skip
          refine to_iinc (L' := [(0, .inr (.inr a)), (1, .inl f), (2, .inl g), (3, .inr (.inr t)), (4, .inl c), (5, .inl e), (6, .inl (y2 + 1))]) (dat dk_X12_same 30 rfl) rfl (by decide) rfl (to_goto (dat dk_X12_same 31 rfl) rfl ?_)
          exact ihn4 (n4 - 1) (by omega) (y2 + 1) (by omega) (show 0 ≤ (y2 + 1) by omega) (show g - f - (y2 + 1) ≤ ((n4 - 1 : Nat) : Int) by omega)
        · skip
          refine to_iconst (dat dk_X12_same 28 rfl) ?_
          exact to_zret rfl (dat dk_X12_same 29 rfl) (by decide) (ri_mk (by decide) ⟨rfl, (by decide)⟩)
    exact lp16_n4 (g - f - (0 : Int)).toNat 0 (by decide) (show 0 ≤ (0 : Int) by omega) (by omega)
  · skip
    refine to_iconst (dat dk_X12_same 7 rfl) ?_
    exact to_zret rfl (dat dk_X12_same 8 rfl) (by decide) (ri_mk (by decide) ⟨rfl, (by decide)⟩)
abbrev Q_X12_lineEnd (h : Hp) (a : Nat) (f : Int) (g : Int) : Option V → Hp → Nat → Nat → Prop := RI (fun x H => h = H ∧ (f ≤ x) ∧ (x = f ∨ x ≤ g))
set_option maxRecDepth 100000 in
theorem ct_X12_lineEnd (l : Launch) (h : Hp) (hI : Inv h) (a : Nat) (na : Nat) (ha : isA a na = true) (f : Int) (hf : I32 f) (g : Int) (hg : I32 g) (g0 : 0 ≤ f) (g1 : g ≤ (na : Int)) : Ct l D_X12_lineEnd 0 0 [.inr (.inr a), .inl f, .inl g] h (Q_X12_lineEnd h a f g) := by
  refine ct_of pn_X12_lineEnd (Nat.le_of_ble_eq_true rfl) ?_
  show To l E_X12_lineEnd (0, [(0, .inr (.inr a)), (1, .inl f), (2, .inl g)], [], h, 0, 0) _
  have la := isA_le ha
  refine to_iload_n (dat dk_X12_lineEnd 0 rfl) rfl (to_istore_n (L' := [(0, .inr (.inr a)), (1, .inl f), (2, .inl g), (3, .inl f)]) (dat dk_X12_lineEnd 1 rfl) (by decide) rfl ?_)
  have lp2_n4 : ∀ (n4 : Nat) (y1 : Int), (I32 y1) → (f ≤ y1) → (y1 = f ∨ y1 ≤ g) → (g - y1 ≤ (n4 : Int)) → To l E_X12_lineEnd (2, [(0, .inr (.inr a)), (1, .inl f), (2, .inl g), (3, .inl y1)], [], h, 0, 0) (Q_X12_lineEnd h a f g) := by
    intro n4
    induction n4 using Nat.strongRecOn with
    | _ n4 ihn4 =>
    intro y1 ry1 c2 c3 c5
    refine to_iload_n (dat dk_X12_lineEnd 2 rfl) rfl (to_iload_n (dat dk_X12_lineEnd 3 rfl) rfl ?_)
    refine to_ige 21 (dat dk_X12_lineEnd 4 rfl) rfl ry1 hg (fun c6 => ?_) (fun c6 => ?_)
    · skip
      refine to_iload_n (dat dk_X12_lineEnd 12 rfl) rfl ?_
      exact to_iret rfl (dat dk_X12_lineEnd 13 rfl) (ri_mk ry1 ⟨rfl, (show f ≤ y1 by omega), (show y1 = f ∨ y1 ≤ g by omega)⟩)
    · skip
      refine to_aload_np (dat dk_X12_lineEnd 5 rfl) (hI.posN (hI.aT ha)) rfl (to_iload_n (dat dk_X12_lineEnd 6 rfl) rfl ?_)
      obtain ⟨x7, ex7⟩ : ∃ y : Int, h.2.2 a (Int.toNat y1) = y := ⟨_, rfl⟩
      have rx7 := hI.aC (j := Int.toNat y1) ha
      rw [ex7] at rx7
      refine to_baldv (q := 1) ex7 (dat dk_X12_lineEnd 7 rfl) (by decide) (hI.aT ha) rfl (isA_n ha) (by omega) (to_bipush (dat dk_X12_lineEnd 8 rfl) (by decide) ?_)
      refine to_ieq 21 (dat dk_X12_lineEnd 9 rfl) rfl (by omega) (by decide) (fun c8 => ?_) (fun c8 => ?_)
      · skip
        refine to_iload_n (dat dk_X12_lineEnd 12 rfl) rfl ?_
        exact to_iret rfl (dat dk_X12_lineEnd 13 rfl) (ri_mk ry1 ⟨rfl, (show f ≤ y1 by omega), (show y1 = f ∨ y1 ≤ g by omega)⟩)
      · skip
        refine to_iinc (L' := [(0, .inr (.inr a)), (1, .inl f), (2, .inl g), (3, .inl (y1 + 1))]) (dat dk_X12_lineEnd 10 rfl) rfl (by decide) rfl (to_goto (dat dk_X12_lineEnd 11 rfl) rfl ?_)
        exact ihn4 (n4 - 1) (by omega) (y1 + 1) (by omega) (show f ≤ (y1 + 1) by omega) (show (y1 + 1) = f ∨ (y1 + 1) ≤ g by omega) (show g - (y1 + 1) ≤ ((n4 - 1 : Nat) : Int) by omega)
  exact lp2_n4 (g - f).toNat f hf (show f ≤ f by omega) (show f = f ∨ f ≤ g by omega) (by omega)
abbrev Q_X12_textEnd (h : Hp) (a : Nat) (f : Int) (e : Int) (g : Int) : Option V → Hp → Nat → Nat → Prop := RI (fun x H => h = H ∧ (x ≤ e) ∧ (x = e ∨ f ≤ x))
set_option maxRecDepth 100000 in
theorem ct_X12_textEnd (l : Launch) (h : Hp) (hI : Inv h) (a : Nat) (na : Nat) (ha : isA a na = true) (f : Int) (hf : I32 f) (e : Int) (he : I32 e) (g : Int) (hg : I32 g) (g0 : 0 ≤ f) (g1 : g ≤ (na : Int)) : Ct l D_X12_textEnd 0 0 [.inr (.inr a), .inl f, .inl e, .inl g] h (Q_X12_textEnd h a f e g) := by
  refine ct_of pn_X12_textEnd (Nat.le_of_ble_eq_true rfl) ?_
  show To l E_X12_textEnd (0, [(0, .inr (.inr a)), (1, .inl f), (2, .inl e), (3, .inl g)], [], h, 0, 0) _
  have la := isA_le ha
  refine to_iload_n (dat dk_X12_textEnd 0 rfl) rfl (to_iload_n (dat dk_X12_textEnd 1 rfl) rfl ?_)
  refine to_ige 26 (dat dk_X12_textEnd 2 rfl) rfl he hg (fun c1 => ?_) (fun c1 => ?_)
  · skip
    refine to_iload_n (dat dk_X12_textEnd 17 rfl) rfl ?_
    exact to_iret rfl (dat dk_X12_textEnd 18 rfl) (ri_mk he ⟨rfl, (show e ≤ e by omega), (show e = e ∨ f ≤ e by omega)⟩)
  · skip
    refine to_iload_n (dat dk_X12_textEnd 3 rfl) rfl (to_iload_n (dat dk_X12_textEnd 4 rfl) rfl ?_)
    refine to_ile 26 (dat dk_X12_textEnd 5 rfl) rfl he hf (fun c2 => ?_) (fun c2 => ?_)
    · skip
      refine to_iload_n (dat dk_X12_textEnd 17 rfl) rfl ?_
      exact to_iret rfl (dat dk_X12_textEnd 18 rfl) (ri_mk he ⟨rfl, (show e ≤ e by omega), (show e = e ∨ f ≤ e by omega)⟩)
    · skip
      refine to_aload_np (dat dk_X12_textEnd 6 rfl) (hI.posN (hI.aT ha)) rfl (to_iload_n (dat dk_X12_textEnd 7 rfl) rfl (to_iconst (dat dk_X12_textEnd 8 rfl) (to_isub (dat dk_X12_textEnd 9 rfl) ?_)))
      obtain ⟨x3, ex3⟩ : ∃ y : Int, h.2.2 a (Int.toNat (e - 1)) = y := ⟨_, rfl⟩
      have rx3 := hI.aC (j := Int.toNat (e - 1)) ha
      rw [ex3] at rx3
      refine to_baldv (q := 1) ex3 (dat dk_X12_textEnd 10 rfl) (by decide) (hI.aT ha) rfl (isA_n ha) (by omega) (to_bipush (dat dk_X12_textEnd 11 rfl) (by decide) ?_)
      refine to_ine 26 (dat dk_X12_textEnd 12 rfl) rfl (by omega) (by decide) (fun c4 => ?_) (fun c4 => ?_)
      · skip
        refine to_iload_n (dat dk_X12_textEnd 17 rfl) rfl ?_
        exact to_iret rfl (dat dk_X12_textEnd 18 rfl) (ri_mk he ⟨rfl, (show e ≤ e by omega), (show e = e ∨ f ≤ e by omega)⟩)
      · skip
        refine to_iload_n (dat dk_X12_textEnd 13 rfl) rfl (to_iconst (dat dk_X12_textEnd 14 rfl) (to_isub (dat dk_X12_textEnd 15 rfl) (to_goto (dat dk_X12_textEnd 16 rfl) rfl ?_)))
        exact to_iret rfl (dat dk_X12_textEnd 18 rfl) (ri_mk (by omega) ⟨rfl, (show (e - 1) ≤ e by omega), (show (e - 1) = e ∨ f ≤ (e - 1) by omega)⟩)
abbrev Q_X12_nameEnd (h : Hp) (a : Nat) (f : Int) (g : Int) : Option V → Hp → Nat → Nat → Prop := RI (fun x H => h = H ∧ (x = -1 ∨ (f < x ∧ x < g)))
set_option maxRecDepth 100000 in
theorem ct_X12_nameEnd (l : Launch) (h : Hp) (hI : Inv h) (a : Nat) (na : Nat) (ha : isA a na = true) (f : Int) (hf : I32 f) (g : Int) (hg : I32 g) (g0 : 0 ≤ f) (g1 : g ≤ (na : Int)) : Ct l D_X12_nameEnd 2 40 [.inr (.inr a), .inl f, .inl g] h (Q_X12_nameEnd h a f g) := by
  refine ct_of pn_X12_nameEnd (Nat.le_of_ble_eq_true rfl) ?_
  show To l E_X12_nameEnd (0, [(0, .inr (.inr a)), (1, .inl f), (2, .inl g)], [], h, 0, 0) _
  have la := isA_le ha
  refine to_iload_n (dat dk_X12_nameEnd 0 rfl) rfl (to_istore_n (L' := [(0, .inr (.inr a)), (1, .inl f), (2, .inl g), (3, .inl f)]) (dat dk_X12_nameEnd 1 rfl) (by decide) rfl ?_)
  have lp2_n4 : ∀ (n4 : Nat) (y1 : Int), (I32 y1) → (f ≤ y1) → (y1 = f ∨ y1 ≤ g) → (g - y1 ≤ (n4 : Int)) → To l E_X12_nameEnd (2, [(0, .inr (.inr a)), (1, .inl f), (2, .inl g), (3, .inl y1)], [], h, 0, 0) (Q_X12_nameEnd h a f g) := by
    intro n4
    induction n4 using Nat.strongRecOn with
    | _ n4 ihn4 =>
    intro y1 ry1 c2 c3 c5
    refine to_iload_n (dat dk_X12_nameEnd 2 rfl) rfl (to_iload_n (dat dk_X12_nameEnd 3 rfl) rfl ?_)
    refine to_ige 39 (dat dk_X12_nameEnd 4 rfl) rfl ry1 hg (fun c6 => ?_) (fun c6 => ?_)
    · skip
      refine to_iload_n (dat dk_X12_nameEnd 22 rfl) rfl (to_iload_n (dat dk_X12_nameEnd 23 rfl) rfl ?_)
      refine to_ile 61 (dat dk_X12_nameEnd 24 rfl) rfl ry1 hf (fun c7 => ?_) (fun c7 => ?_)
      · skip
        refine to_iconst (dat dk_X12_nameEnd 35 rfl) ?_
        exact to_iret rfl (dat dk_X12_nameEnd 36 rfl) (ri_mk (by decide) ⟨rfl, (show (-1 : Int) = -1 ∨ (f < (-1 : Int) ∧ (-1 : Int) < g) by omega)⟩)
      · skip
        refine to_iload_n (dat dk_X12_nameEnd 25 rfl) rfl (to_iload_n (dat dk_X12_nameEnd 26 rfl) rfl ?_)
        refine to_ige 61 (dat dk_X12_nameEnd 27 rfl) rfl ry1 hg (fun c8 => ?_) (fun c8 => ?_)
        · skip
          refine to_iconst (dat dk_X12_nameEnd 35 rfl) ?_
          exact to_iret rfl (dat dk_X12_nameEnd 36 rfl) (ri_mk (by decide) ⟨rfl, (show (-1 : Int) = -1 ∨ (f < (-1 : Int) ∧ (-1 : Int) < g) by omega)⟩)
        · skip
          refine to_aload_np (dat dk_X12_nameEnd 28 rfl) (hI.posN (hI.aT ha)) rfl (to_iload_n (dat dk_X12_nameEnd 29 rfl) rfl ?_)
          obtain ⟨x9, ex9⟩ : ∃ y : Int, h.2.2 a (Int.toNat y1) = y := ⟨_, rfl⟩
          have rx9 := hI.aC (j := Int.toNat y1) ha
          rw [ex9] at rx9
          refine to_baldv (q := 1) ex9 (dat dk_X12_nameEnd 30 rfl) (by decide) (hI.aT ha) rfl (isA_n ha) (by omega) (to_bipush (dat dk_X12_nameEnd 31 rfl) (by decide) ?_)
          refine to_ine 61 (dat dk_X12_nameEnd 32 rfl) rfl (by omega) (by decide) (fun c10 => ?_) (fun c10 => ?_)
          · skip
            refine to_iconst (dat dk_X12_nameEnd 35 rfl) ?_
            exact to_iret rfl (dat dk_X12_nameEnd 36 rfl) (ri_mk (by decide) ⟨rfl, (show (-1 : Int) = -1 ∨ (f < (-1 : Int) ∧ (-1 : Int) < g) by omega)⟩)
          · skip
            refine to_iload_n (dat dk_X12_nameEnd 33 rfl) rfl (to_goto (dat dk_X12_nameEnd 34 rfl) rfl ?_)
            exact to_iret rfl (dat dk_X12_nameEnd 36 rfl) (ri_mk ry1 ⟨rfl, (show y1 = -1 ∨ (f < y1 ∧ y1 < g) by omega)⟩)
    · skip
      refine to_aload_np (dat dk_X12_nameEnd 5 rfl) (hI.posN (hI.aT ha)) rfl (to_iload_n (dat dk_X12_nameEnd 6 rfl) rfl ?_)
      obtain ⟨x11, ex11⟩ : ∃ y : Int, h.2.2 a (Int.toNat y1) = y := ⟨_, rfl⟩
      have rx11 := hI.aC (j := Int.toNat y1) ha
      rw [ex11] at rx11
      refine to_baldv (q := 1) ex11 (dat dk_X12_nameEnd 7 rfl) (by decide) (hI.aT ha) rfl (isA_n ha) (by omega) ?_
      refine to_cI ca_c13_168 (dat dk_X12_nameEnd 8 rfl) (ct_X12_isLetter l h hI x11 (by omega)) rfl trivial rfl (fun x12 h13 rx12 p14 => ?_)
      obtain ⟨rfl, zx12⟩ := p14
      refine to_ifne 33 (dat dk_X12_nameEnd 9 rfl) rfl rx12 (fun c15 => ?_) (fun c15 => ?_)
      · skip
        refine to_iinc (L' := [(0, .inr (.inr a)), (1, .inl f), (2, .inl g), (3, .inl (y1 + 1))]) (dat dk_X12_nameEnd 20 rfl) rfl (by decide) rfl (to_goto (dat dk_X12_nameEnd 21 rfl) rfl ?_)
        exact ihn4 (n4 - 1) (by omega) (y1 + 1) (by omega) (show f ≤ (y1 + 1) by omega) (show (y1 + 1) = f ∨ (y1 + 1) ≤ g by omega) (show g - (y1 + 1) ≤ ((n4 - 1 : Nat) : Int) by omega)
      · skip
        refine to_aload_np (dat dk_X12_nameEnd 10 rfl) (hI.posN (hI.aT ha)) rfl (to_iload_n (dat dk_X12_nameEnd 11 rfl) rfl ?_)
        obtain ⟨x16, ex16⟩ : ∃ y : Int, h.2.2 a (Int.toNat y1) = y := ⟨_, rfl⟩
        have rx16 := hI.aC (j := Int.toNat y1) ha
        rw [ex16] at rx16
        refine to_baldv (q := 1) ex16 (dat dk_X12_nameEnd 12 rfl) (by decide) (hI.aT ha) rfl (isA_n ha) (by omega) ?_
        refine to_cI ca_c13_161 (dat dk_X12_nameEnd 13 rfl) (ct_X12_isDigit l h hI x16 (by omega)) rfl trivial rfl (fun x17 h18 rx17 p19 => ?_)
        obtain ⟨rfl, zx17, p19_0⟩ := p19
        refine to_ifne 33 (dat dk_X12_nameEnd 14 rfl) rfl rx17 (fun c20 => ?_) (fun c20 => ?_)
        · skip
          refine to_iinc (L' := [(0, .inr (.inr a)), (1, .inl f), (2, .inl g), (3, .inl (y1 + 1))]) (dat dk_X12_nameEnd 20 rfl) rfl (by decide) rfl (to_goto (dat dk_X12_nameEnd 21 rfl) rfl ?_)
          exact ihn4 (n4 - 1) (by omega) (y1 + 1) (by omega) (show f ≤ (y1 + 1) by omega) (show (y1 + 1) = f ∨ (y1 + 1) ≤ g by omega) (show g - (y1 + 1) ≤ ((n4 - 1 : Nat) : Int) by omega)
        · skip
          refine to_aload_np (dat dk_X12_nameEnd 15 rfl) (hI.posN (hI.aT ha)) rfl (to_iload_n (dat dk_X12_nameEnd 16 rfl) rfl ?_)
          obtain ⟨x21, ex21⟩ : ∃ y : Int, h.2.2 a (Int.toNat y1) = y := ⟨_, rfl⟩
          have rx21 := hI.aC (j := Int.toNat y1) ha
          rw [ex21] at rx21
          refine to_baldv (q := 1) ex21 (dat dk_X12_nameEnd 17 rfl) (by decide) (hI.aT ha) rfl (isA_n ha) (by omega) (to_bipush (dat dk_X12_nameEnd 18 rfl) (by decide) ?_)
          refine to_ine 39 (dat dk_X12_nameEnd 19 rfl) rfl (by omega) (by decide) (fun c22 => ?_) (fun c22 => ?_)
          · skip
            refine to_iload_n (dat dk_X12_nameEnd 22 rfl) rfl (to_iload_n (dat dk_X12_nameEnd 23 rfl) rfl ?_)
            refine to_ile 61 (dat dk_X12_nameEnd 24 rfl) rfl ry1 hf (fun c23 => ?_) (fun c23 => ?_)
            · skip
              refine to_iconst (dat dk_X12_nameEnd 35 rfl) ?_
              exact to_iret rfl (dat dk_X12_nameEnd 36 rfl) (ri_mk (by decide) ⟨rfl, (show (-1 : Int) = -1 ∨ (f < (-1 : Int) ∧ (-1 : Int) < g) by omega)⟩)
            · skip
              refine to_iload_n (dat dk_X12_nameEnd 25 rfl) rfl (to_iload_n (dat dk_X12_nameEnd 26 rfl) rfl ?_)
              refine to_ige 61 (dat dk_X12_nameEnd 27 rfl) rfl ry1 hg (fun c24 => ?_) (fun c24 => ?_)
              · skip
                refine to_iconst (dat dk_X12_nameEnd 35 rfl) ?_
                exact to_iret rfl (dat dk_X12_nameEnd 36 rfl) (ri_mk (by decide) ⟨rfl, (show (-1 : Int) = -1 ∨ (f < (-1 : Int) ∧ (-1 : Int) < g) by omega)⟩)
              · skip
                refine to_aload_np (dat dk_X12_nameEnd 28 rfl) (hI.posN (hI.aT ha)) rfl (to_iload_n (dat dk_X12_nameEnd 29 rfl) rfl ?_)
                obtain ⟨x25, ex25⟩ : ∃ y : Int, h.2.2 a (Int.toNat y1) = y := ⟨_, rfl⟩
                have rx25 := hI.aC (j := Int.toNat y1) ha
                rw [ex25] at rx25
                refine to_baldv (q := 1) ex25 (dat dk_X12_nameEnd 30 rfl) (by decide) (hI.aT ha) rfl (isA_n ha) (by omega) (to_bipush (dat dk_X12_nameEnd 31 rfl) (by decide) ?_)
                refine to_ine 61 (dat dk_X12_nameEnd 32 rfl) rfl (by omega) (by decide) (fun c26 => ?_) (fun c26 => ?_)
                · skip
                  refine to_iconst (dat dk_X12_nameEnd 35 rfl) ?_
                  exact to_iret rfl (dat dk_X12_nameEnd 36 rfl) (ri_mk (by decide) ⟨rfl, (show (-1 : Int) = -1 ∨ (f < (-1 : Int) ∧ (-1 : Int) < g) by omega)⟩)
                · skip
                  refine to_iload_n (dat dk_X12_nameEnd 33 rfl) rfl (to_goto (dat dk_X12_nameEnd 34 rfl) rfl ?_)
                  exact to_iret rfl (dat dk_X12_nameEnd 36 rfl) (ri_mk ry1 ⟨rfl, (show y1 = -1 ∨ (f < y1 ∧ y1 < g) by omega)⟩)
          · skip
            refine to_iinc (L' := [(0, .inr (.inr a)), (1, .inl f), (2, .inl g), (3, .inl (y1 + 1))]) (dat dk_X12_nameEnd 20 rfl) rfl (by decide) rfl (to_goto (dat dk_X12_nameEnd 21 rfl) rfl ?_)
            exact ihn4 (n4 - 1) (by omega) (y1 + 1) (by omega) (show f ≤ (y1 + 1) by omega) (show (y1 + 1) = f ∨ (y1 + 1) ≤ g by omega) (show g - (y1 + 1) ≤ ((n4 - 1 : Nat) : Int) by omega)
  exact lp2_n4 (g - f).toNat f hf (show f ≤ f by omega) (show f = f ∨ f ≤ g by omega) (by omega)
abbrev Q_X12_addValue (h : Hp) (a : Nat) (f : Int) (g : Int) : Option V → Hp → Nat → Nat → Prop := RV (fun H => Inv H ∧ Fr [75, 223] h H ∧ ((g ≤ f ∧ H.2.2 60 23 = h.2.2 60 23) ∨ (f ≤ g ∧ H.2.2 60 23 = h.2.2 60 23 + (g - f))))
set_option maxRecDepth 100000 in
theorem ct_X12_addValue (l : Launch) (h : Hp) (hI : Inv h) (a : Nat) (na : Nat) (ha : isA a na = true) (f : Int) (hf : I32 f) (g : Int) (hg : I32 g) (g0 : 0 ≤ f) (g1 : g ≤ (na : Int)) (g2 : h.2.2 60 23 + (g - f) ≤ 1300) : Ct l D_X12_addValue 0 0 [.inr (.inr 60), .inr (.inr a), .inl f, .inl g] h (Q_X12_addValue h a f g) := by
  refine ct_of pn_X12_addValue (Nat.le_of_ble_eq_true rfl) ?_
  show To l E_X12_addValue (0, [(0, .inr (.inr 60)), (1, .inr (.inr a)), (2, .inl f), (3, .inl g)], [], h, 0, 0) _
  have la := isA_le ha
  obtain ⟨x1, ex1⟩ : ∃ y : Int, h.2.2 60 23 = y := ⟨_, rfl⟩
  have rx1 := hI.atR (a := 60) (j := 23) rfl
  rw [ex1] at rx1
  refine to_iload_n (dat dk_X12_addValue 0 rfl) rfl (to_istore (L' := [(0, .inr (.inr 60)), (1, .inr (.inr a)), (2, .inl f), (3, .inl g), (4, .inl f)]) (dat dk_X12_addValue 1 rfl) (by decide) rfl ?_)
  have lp3_n7 : ∀ (n7 : Nat) (y2 : Int) (h3 : Hp), (I32 y2) → (Inv h3) → (Fr [75, 223] h h3) → (f ≤ y2) → (y2 = f ∨ y2 ≤ g) → (h3.2.2 60 23 = h.2.2 60 23 + (y2 - f)) → (g - y2 ≤ (n7 : Int)) → To l E_X12_addValue (3, [(0, .inr (.inr 60)), (1, .inr (.inr a)), (2, .inl f), (3, .inl g), (4, .inl y2)], [], h3, 0, 0) (Q_X12_addValue h a f g) := by
    intro n7
    induction n7 using Nat.strongRecOn with
    | _ n7 ihn7 =>
    intro y2 h3 ry2 Ih3 fh3 c4 c5 c6 c8
    obtain ⟨x9, ex9⟩ : ∃ y : Int, h3.2.2 60 23 = y := ⟨_, rfl⟩
    have rx9 := Ih3.atR (a := 60) (j := 23) rfl
    rw [ex9] at rx9
    refine to_iload (dat dk_X12_addValue 2 rfl) rfl (to_iload_n (dat dk_X12_addValue 3 rfl) rfl ?_)
    refine to_ige 38 (dat dk_X12_addValue 4 rfl) rfl ry2 hg (fun c10 => ?_) (fun c10 => ?_)
    · skip
      exact to_vret rfl (dat dk_X12_addValue 21 rfl) (rv_mk ⟨Ih3, fh3, (show (g ≤ f ∧ h3.2.2 60 23 = h.2.2 60 23) ∨ (f ≤ g ∧ h3.2.2 60 23 = h.2.2 60 23 + (g - f)) by omega)⟩)
    · skip
      refine to_aload_n (dat dk_X12_addValue 5 rfl) rfl (to_getR 75 g_c13_60 (dat dk_X12_addValue 6 rfl) (Ih3.atS rfl) (Ih3.atE rfl) (to_aload_n (dat dk_X12_addValue 7 rfl) rfl (to_getIv (y := x9) ex9 g_c13_171 (dat dk_X12_addValue 8 rfl) (Ih3.atS rfl) (to_aload_np (dat dk_X12_addValue 9 rfl) (Ih3.posN (Ih3.aT ha)) rfl (to_iload (dat dk_X12_addValue 10 rfl) rfl ?_)))))
      obtain ⟨x11, ex11⟩ : ∃ y : Int, h3.2.2 a (Int.toNat y2) = y := ⟨_, rfl⟩
      have rx11 := Ih3.aC (j := Int.toNat y2) ha
      rw [ex11] at rx11
      refine to_baldv (q := 1) ex11 (dat dk_X12_addValue 11 rfl) (by decide) (Ih3.aT ha) rfl (isA_n ha) (by omega) (to_bastw (dat dk_X12_addValue 12 rfl) (Ih3.atS rfl) rfl (by decide) (by omega) ?_)
      intro h14 wh14
      have I12 : Inv h14 := by rw [wh14]; exact Ih3.put (a := 75) (j := (Int.toNat x9)) (x := (b8 x11)) (-128) (127) rfl rfl (show (-128 : Int) ≤ (b8 x11) ∧ (b8 x11) ≤ 127 by have := b8_in x11; omega)
      have f13 : Fr [75, 223] h h14 := by rw [wh14]; exact Fr.putF (a := 75) (j := (Int.toNat x9)) (x := (b8 x11)) fh3 rfl
      refine to_aload_n (dat dk_X12_addValue 13 rfl) rfl (to_dup (dat dk_X12_addValue 14 rfl) rfl (to_getIv (y := x9) (by rw [wh14]; exact ex9) g_c13_171 (dat dk_X12_addValue 15 rfl) (I12.atS rfl) (to_iconst (dat dk_X12_addValue 16 rfl) (to_iadd (dat dk_X12_addValue 17 rfl) (to_putIw p_c13_171 (dat dk_X12_addValue 18 rfl) (I12.atS rfl) ?_)))))
      intro h17 wh17
      have I15 : Inv h17 := by rw [wh17]; exact I12.put (a := 60) (j := 23) (x := (x9 + 1)) (0) (1300) rfl rfl (show (0 : Int) ≤ (x9 + 1) ∧ (x9 + 1) ≤ 1300 by omega)
      have f16 : Fr [75, 223] h h17 := by rw [wh17]; exact Fr.putF (a := 60) (j := 23) (x := (x9 + 1)) f13 rfl
      refine to_iinc (L' := [(0, .inr (.inr 60)), (1, .inr (.inr a)), (2, .inl f), (3, .inl g), (4, .inl (y2 + 1))]) (dat dk_X12_addValue 19 rfl) rfl (by decide) rfl (to_goto (dat dk_X12_addValue 20 rfl) rfl ?_)
      have e18 : h17.2.2 60 23 = (x9 + 1) := (by rw [wh17]; exact wr_eq)
      exact ihn7 (n7 - 1) (by omega) (y2 + 1) h17 (by omega) I15 f16 (show f ≤ (y2 + 1) by omega) (show (y2 + 1) = f ∨ (y2 + 1) ≤ g by omega) (show h17.2.2 60 23 = h.2.2 60 23 + ((y2 + 1) - f) by omega) (show g - (y2 + 1) ≤ ((n7 - 1 : Nat) : Int) by omega)
  exact lp3_n7 (g - f).toNat f h hf hI (Fr.rf _ _) (show f ≤ f by omega) (show f = f ∨ f ≤ g by omega) (show h.2.2 60 23 = h.2.2 60 23 + (f - f) by omega) (by omega)
abbrev Q_X12_trim (h : Hp) : Option V → Hp → Nat → Nat → Prop := RV (fun H => Inv H ∧ Fr [75, 223] h H ∧ (H.2.2 60 23 ≤ h.2.2 60 23))
set_option maxRecDepth 100000 in
theorem ct_X12_trim (l : Launch) (h : Hp) (hI : Inv h)  : Ct l D_X12_trim 1 20 [.inr (.inr 60)] h (Q_X12_trim h) := by
  refine ct_of pn_X12_trim (Nat.le_of_ble_eq_true rfl) ?_
  show To l E_X12_trim (0, [(0, .inr (.inr 60))], [], h, 0, 0) _
  obtain ⟨x1, ex1⟩ : ∃ y : Int, h.2.2 60 23 = y := ⟨_, rfl⟩
  have rx1 := hI.atR (a := 60) (j := 23) rfl
  rw [ex1] at rx1
  have lp0_n4 : ∀ (n4 : Nat) (h2 : Hp), (Inv h2) → (Fr [75, 223] h h2) → (h2.2.2 60 23 ≤ h.2.2 60 23) → (h2.2.2 60 23 ≤ (n4 : Int)) → To l E_X12_trim (0, [(0, .inr (.inr 60))], [], h2, 0, 0) (Q_X12_trim h) := by
    intro n4
    induction n4 using Nat.strongRecOn with
    | _ n4 ihn4 =>
    intro h2 Ih2 fh2 c3 c5
    obtain ⟨x6, ex6⟩ : ∃ y : Int, h2.2.2 60 23 = y := ⟨_, rfl⟩
    have rx6 := Ih2.atR (a := 60) (j := 23) rfl
    rw [ex6] at rx6
    refine to_aload_n (dat dk_X12_trim 0 rfl) rfl (to_getIv (y := x6) ex6 g_c13_171 (dat dk_X12_trim 1 rfl) (Ih2.atS rfl) ?_)
    refine to_ifle 37 (dat dk_X12_trim 2 rfl) rfl (by omega) (fun c7 => ?_) (fun c7 => ?_)
    · skip
      refine to_iconst (dat dk_X12_trim 19 rfl) (to_istore_n (L' := [(0, .inr (.inr 60)), (1, .inl 0)]) (dat dk_X12_trim 20 rfl) (by decide) rfl ?_)
      have lp39_n11 : ∀ (n11 : Nat) (y8 : Int), (I32 y8) → (0 ≤ y8 ∧ y8 ≤ h2.2.2 60 23) → (h2.2.2 60 23 ≤ h.2.2 60 23) → (h2.2.2 60 23 - y8 ≤ (n11 : Int)) → To l E_X12_trim (39, [(0, .inr (.inr 60)), (1, .inl y8)], [], h2, 0, 0) (Q_X12_trim h) := by
        intro n11
        induction n11 using Nat.strongRecOn with
        | _ n11 ihn11 =>
        intro y8 ry8 c9 c10 c12
        refine to_iload_n (dat dk_X12_trim 21 rfl) rfl (to_aload_n (dat dk_X12_trim 22 rfl) rfl (to_getIv (y := x6) ex6 g_c13_171 (dat dk_X12_trim 23 rfl) (Ih2.atS rfl) ?_))
        refine to_ige 65 (dat dk_X12_trim 24 rfl) rfl ry8 (by omega) (fun c13 => ?_) (fun c13 => ?_)
        · skip
          refine to_iload_n (dat dk_X12_trim 33 rfl) rfl (to_istore_n (L' := [(0, .inr (.inr 60)), (1, .inl y8), (2, .inl y8)]) (dat dk_X12_trim 34 rfl) (by decide) rfl ?_)
          have lp67_n19 : ∀ (n19 : Nat) (y14 : Int) (h15 : Hp), (I32 y14) → (Inv h15) → (Fr [75, 223] h h15) → (0 ≤ y8 ∧ y8 ≤ h15.2.2 60 23) → (y8 ≤ y14) → (h15.2.2 60 23 ≤ h.2.2 60 23) → (h15.2.2 60 23 - y14 ≤ (n19 : Int)) → To l E_X12_trim (67, [(0, .inr (.inr 60)), (1, .inl y8), (2, .inl y14)], [], h15, 0, 0) (Q_X12_trim h) := by
            intro n19
            induction n19 using Nat.strongRecOn with
            | _ n19 ihn19 =>
            intro y14 h15 ry14 Ih15 fh15 c16 c17 c18 c20
            obtain ⟨x21, ex21⟩ : ∃ y : Int, h15.2.2 60 23 = y := ⟨_, rfl⟩
            have rx21 := Ih15.atR (a := 60) (j := 23) rfl
            rw [ex21] at rx21
            refine to_iload_n (dat dk_X12_trim 35 rfl) rfl (to_aload_n (dat dk_X12_trim 36 rfl) rfl (to_getIv (y := x21) ex21 g_c13_171 (dat dk_X12_trim 37 rfl) (Ih15.atS rfl) ?_))
            refine to_ige 95 (dat dk_X12_trim 38 rfl) rfl ry14 (by omega) (fun c22 => ?_) (fun c22 => ?_)
            · skip
              refine to_aload_n (dat dk_X12_trim 51 rfl) rfl (to_dup (dat dk_X12_trim 52 rfl) rfl (to_getIv (y := x21) ex21 g_c13_171 (dat dk_X12_trim 53 rfl) (Ih15.atS rfl) (to_iload_n (dat dk_X12_trim 54 rfl) rfl (to_isub (dat dk_X12_trim 55 rfl) (to_putIw p_c13_171 (dat dk_X12_trim 56 rfl) (Ih15.atS rfl) ?_)))))
              intro h25 wh25
              have I23 : Inv h25 := by rw [wh25]; exact Ih15.put (a := 60) (j := 23) (x := (x21 - y8)) (0) (1300) rfl rfl (show (0 : Int) ≤ (x21 - y8) ∧ (x21 - y8) ≤ 1300 by omega)
              have f24 : Fr [75, 223] h h25 := by rw [wh25]; exact Fr.putF (a := 60) (j := 23) (x := (x21 - y8)) fh15 rfl
              have e26 : h25.2.2 60 23 = (x21 - y8) := (by rw [wh25]; exact wr_eq)
              exact to_vret rfl (dat dk_X12_trim 57 rfl) (rv_mk ⟨I23, f24, (show h25.2.2 60 23 ≤ h.2.2 60 23 by omega)⟩)
            · skip
              refine to_aload_n (dat dk_X12_trim 39 rfl) rfl (to_getR 75 g_c13_60 (dat dk_X12_trim 40 rfl) (Ih15.atS rfl) (Ih15.atE rfl) (to_iload_n (dat dk_X12_trim 41 rfl) rfl (to_iload_n (dat dk_X12_trim 42 rfl) rfl (to_isub (dat dk_X12_trim 43 rfl) (to_aload_n (dat dk_X12_trim 44 rfl) rfl (to_getR 75 g_c13_60 (dat dk_X12_trim 45 rfl) (Ih15.atS rfl) (Ih15.atE rfl) (to_iload_n (dat dk_X12_trim 46 rfl) rfl ?_)))))))
              obtain ⟨x27, ex27⟩ : ∃ y : Int, h15.2.2 75 (Int.toNat y14) = y := ⟨_, rfl⟩
              have rx27 := Ih15.atR (a := 75) (j := Int.toNat y14) rfl
              rw [ex27] at rx27
              refine to_baldv (q := 1) ex27 (dat dk_X12_trim 47 rfl) (by decide) (Ih15.atS rfl) rfl (by decide) (by omega) (to_bastw (dat dk_X12_trim 48 rfl) (Ih15.atS rfl) rfl (by decide) (by omega) ?_)
              intro h30 wh30
              have I28 : Inv h30 := by rw [wh30]; exact Ih15.put (a := 75) (j := (Int.toNat (y14 - y8))) (x := (b8 x27)) (-128) (127) rfl rfl (show (-128 : Int) ≤ (b8 x27) ∧ (b8 x27) ≤ 127 by have := b8_in x27; omega)
              have f29 : Fr [75, 223] h h30 := by rw [wh30]; exact Fr.putF (a := 75) (j := (Int.toNat (y14 - y8))) (x := (b8 x27)) fh15 rfl
              refine to_iinc (L' := [(0, .inr (.inr 60)), (1, .inl y8), (2, .inl (y14 + 1))]) (dat dk_X12_trim 49 rfl) rfl (by decide) rfl (to_goto (dat dk_X12_trim 50 rfl) rfl ?_)
              have e31 : h30.2.2 60 23 = x21 := (by rw [wh30]; exact ex21)
              exact ihn19 (n19 - 1) (by omega) (y14 + 1) h30 (by omega) I28 f29 (show 0 ≤ y8 ∧ y8 ≤ h30.2.2 60 23 by omega) (show y8 ≤ (y14 + 1) by omega) (show h30.2.2 60 23 ≤ h.2.2 60 23 by omega) (show h30.2.2 60 23 - (y14 + 1) ≤ ((n19 - 1 : Nat) : Int) by omega)
          exact lp67_n19 (h2.2.2 60 23 - y8).toNat y8 h2 ry8 Ih2 fh2 (show 0 ≤ y8 ∧ y8 ≤ h2.2.2 60 23 by omega) (show y8 ≤ y8 by omega) (show h2.2.2 60 23 ≤ h.2.2 60 23 by omega) (by omega)
        · skip
          refine to_aload_n (dat dk_X12_trim 25 rfl) rfl (to_getR 75 g_c13_60 (dat dk_X12_trim 26 rfl) (Ih2.atS rfl) (Ih2.atE rfl) (to_iload_n (dat dk_X12_trim 27 rfl) rfl ?_))
          obtain ⟨x32, ex32⟩ : ∃ y : Int, h2.2.2 75 (Int.toNat y8) = y := ⟨_, rfl⟩
          have rx32 := Ih2.atR (a := 75) (j := Int.toNat y8) rfl
          rw [ex32] at rx32
          refine to_baldv (q := 1) ex32 (dat dk_X12_trim 28 rfl) (by decide) (Ih2.atS rfl) rfl (by decide) (by omega) ?_
          refine to_cI ca_c13_182 (dat dk_X12_trim 29 rfl) (ct_X12_isBlank l h2 Ih2 x32 (by omega)) rfl trivial rfl (fun x33 h34 rx33 p35 => ?_)
          obtain ⟨rfl, zx33⟩ := p35
          refine to_ifeq 65 (dat dk_X12_trim 30 rfl) rfl rx33 (fun c36 => ?_) (fun c36 => ?_)
          · skip
            refine to_iload_n (dat dk_X12_trim 33 rfl) rfl (to_istore_n (L' := [(0, .inr (.inr 60)), (1, .inl y8), (2, .inl y8)]) (dat dk_X12_trim 34 rfl) (by decide) rfl ?_)
            have lp67_n42 : ∀ (n42 : Nat) (y37 : Int) (h38 : Hp), (I32 y37) → (Inv h38) → (Fr [75, 223] h h38) → (0 ≤ y8 ∧ y8 ≤ h38.2.2 60 23) → (y8 ≤ y37) → (h38.2.2 60 23 ≤ h.2.2 60 23) → (h38.2.2 60 23 - y37 ≤ (n42 : Int)) → To l E_X12_trim (67, [(0, .inr (.inr 60)), (1, .inl y8), (2, .inl y37)], [], h38, 0, 0) (Q_X12_trim h) := by
              intro n42
              induction n42 using Nat.strongRecOn with
              | _ n42 ihn42 =>
              intro y37 h38 ry37 Ih38 fh38 c39 c40 c41 c43
              obtain ⟨x44, ex44⟩ : ∃ y : Int, h38.2.2 60 23 = y := ⟨_, rfl⟩
              have rx44 := Ih38.atR (a := 60) (j := 23) rfl
              rw [ex44] at rx44
              refine to_iload_n (dat dk_X12_trim 35 rfl) rfl (to_aload_n (dat dk_X12_trim 36 rfl) rfl (to_getIv (y := x44) ex44 g_c13_171 (dat dk_X12_trim 37 rfl) (Ih38.atS rfl) ?_))
              refine to_ige 95 (dat dk_X12_trim 38 rfl) rfl ry37 (by omega) (fun c45 => ?_) (fun c45 => ?_)
              · skip
                refine to_aload_n (dat dk_X12_trim 51 rfl) rfl (to_dup (dat dk_X12_trim 52 rfl) rfl (to_getIv (y := x44) ex44 g_c13_171 (dat dk_X12_trim 53 rfl) (Ih38.atS rfl) (to_iload_n (dat dk_X12_trim 54 rfl) rfl (to_isub (dat dk_X12_trim 55 rfl) (to_putIw p_c13_171 (dat dk_X12_trim 56 rfl) (Ih38.atS rfl) ?_)))))
                intro h48 wh48
                have I46 : Inv h48 := by rw [wh48]; exact Ih38.put (a := 60) (j := 23) (x := (x44 - y8)) (0) (1300) rfl rfl (show (0 : Int) ≤ (x44 - y8) ∧ (x44 - y8) ≤ 1300 by omega)
                have f47 : Fr [75, 223] h h48 := by rw [wh48]; exact Fr.putF (a := 60) (j := 23) (x := (x44 - y8)) fh38 rfl
                have e49 : h48.2.2 60 23 = (x44 - y8) := (by rw [wh48]; exact wr_eq)
                exact to_vret rfl (dat dk_X12_trim 57 rfl) (rv_mk ⟨I46, f47, (show h48.2.2 60 23 ≤ h.2.2 60 23 by omega)⟩)
              · skip
                refine to_aload_n (dat dk_X12_trim 39 rfl) rfl (to_getR 75 g_c13_60 (dat dk_X12_trim 40 rfl) (Ih38.atS rfl) (Ih38.atE rfl) (to_iload_n (dat dk_X12_trim 41 rfl) rfl (to_iload_n (dat dk_X12_trim 42 rfl) rfl (to_isub (dat dk_X12_trim 43 rfl) (to_aload_n (dat dk_X12_trim 44 rfl) rfl (to_getR 75 g_c13_60 (dat dk_X12_trim 45 rfl) (Ih38.atS rfl) (Ih38.atE rfl) (to_iload_n (dat dk_X12_trim 46 rfl) rfl ?_)))))))
                obtain ⟨x50, ex50⟩ : ∃ y : Int, h38.2.2 75 (Int.toNat y37) = y := ⟨_, rfl⟩
                have rx50 := Ih38.atR (a := 75) (j := Int.toNat y37) rfl
                rw [ex50] at rx50
                refine to_baldv (q := 1) ex50 (dat dk_X12_trim 47 rfl) (by decide) (Ih38.atS rfl) rfl (by decide) (by omega) (to_bastw (dat dk_X12_trim 48 rfl) (Ih38.atS rfl) rfl (by decide) (by omega) ?_)
                intro h53 wh53
                have I51 : Inv h53 := by rw [wh53]; exact Ih38.put (a := 75) (j := (Int.toNat (y37 - y8))) (x := (b8 x50)) (-128) (127) rfl rfl (show (-128 : Int) ≤ (b8 x50) ∧ (b8 x50) ≤ 127 by have := b8_in x50; omega)
                have f52 : Fr [75, 223] h h53 := by rw [wh53]; exact Fr.putF (a := 75) (j := (Int.toNat (y37 - y8))) (x := (b8 x50)) fh38 rfl
                refine to_iinc (L' := [(0, .inr (.inr 60)), (1, .inl y8), (2, .inl (y37 + 1))]) (dat dk_X12_trim 49 rfl) rfl (by decide) rfl (to_goto (dat dk_X12_trim 50 rfl) rfl ?_)
                have e54 : h53.2.2 60 23 = x44 := (by rw [wh53]; exact ex44)
                exact ihn42 (n42 - 1) (by omega) (y37 + 1) h53 (by omega) I51 f52 (show 0 ≤ y8 ∧ y8 ≤ h53.2.2 60 23 by omega) (show y8 ≤ (y37 + 1) by omega) (show h53.2.2 60 23 ≤ h.2.2 60 23 by omega) (show h53.2.2 60 23 - (y37 + 1) ≤ ((n42 - 1 : Nat) : Int) by omega)
            exact lp67_n42 (h2.2.2 60 23 - y8).toNat y8 h2 ry8 Ih2 fh2 (show 0 ≤ y8 ∧ y8 ≤ h2.2.2 60 23 by omega) (show y8 ≤ y8 by omega) (show h2.2.2 60 23 ≤ h.2.2 60 23 by omega) (by omega)
          · skip
            refine to_iinc (L' := [(0, .inr (.inr 60)), (1, .inl (y8 + 1))]) (dat dk_X12_trim 31 rfl) rfl (by decide) rfl (to_goto (dat dk_X12_trim 32 rfl) rfl ?_)
            exact ihn11 (n11 - 1) (by omega) (y8 + 1) (by omega) (show 0 ≤ (y8 + 1) ∧ (y8 + 1) ≤ h2.2.2 60 23 by omega) (show h2.2.2 60 23 ≤ h.2.2 60 23 by omega) (show h2.2.2 60 23 - (y8 + 1) ≤ ((n11 - 1 : Nat) : Int) by omega)
      exact lp39_n11 (h2.2.2 60 23 - (0 : Int)).toNat 0 (by decide) (show 0 ≤ (0 : Int) ∧ (0 : Int) ≤ h2.2.2 60 23 by omega) (show h2.2.2 60 23 ≤ h.2.2 60 23 by omega) (by omega)
    · skip
      refine to_aload_n (dat dk_X12_trim 3 rfl) rfl (to_getR 75 g_c13_60 (dat dk_X12_trim 4 rfl) (Ih2.atS rfl) (Ih2.atE rfl) (to_aload_n (dat dk_X12_trim 5 rfl) rfl (to_getIv (y := x6) ex6 g_c13_171 (dat dk_X12_trim 6 rfl) (Ih2.atS rfl) (to_iconst (dat dk_X12_trim 7 rfl) (to_isub (dat dk_X12_trim 8 rfl) ?_)))))
      obtain ⟨x55, ex55⟩ : ∃ y : Int, h2.2.2 75 (Int.toNat (x6 - 1)) = y := ⟨_, rfl⟩
      have rx55 := Ih2.atR (a := 75) (j := Int.toNat (x6 - 1)) rfl
      rw [ex55] at rx55
      refine to_baldv (q := 1) ex55 (dat dk_X12_trim 9 rfl) (by decide) (Ih2.atS rfl) rfl (by decide) (by omega) ?_
      refine to_cI ca_c13_182 (dat dk_X12_trim 10 rfl) (ct_X12_isBlank l h2 Ih2 x55 (by omega)) rfl trivial rfl (fun x56 h57 rx56 p58 => ?_)
      obtain ⟨rfl, zx56⟩ := p58
      refine to_ifeq 37 (dat dk_X12_trim 11 rfl) rfl rx56 (fun c59 => ?_) (fun c59 => ?_)
      · skip
        refine to_iconst (dat dk_X12_trim 19 rfl) (to_istore_n (L' := [(0, .inr (.inr 60)), (1, .inl 0)]) (dat dk_X12_trim 20 rfl) (by decide) rfl ?_)
        have lp39_n63 : ∀ (n63 : Nat) (y60 : Int), (I32 y60) → (0 ≤ y60 ∧ y60 ≤ h2.2.2 60 23) → (h2.2.2 60 23 ≤ h.2.2 60 23) → (h2.2.2 60 23 - y60 ≤ (n63 : Int)) → To l E_X12_trim (39, [(0, .inr (.inr 60)), (1, .inl y60)], [], h2, 0, 0) (Q_X12_trim h) := by
          intro n63
          induction n63 using Nat.strongRecOn with
          | _ n63 ihn63 =>
          intro y60 ry60 c61 c62 c64
          refine to_iload_n (dat dk_X12_trim 21 rfl) rfl (to_aload_n (dat dk_X12_trim 22 rfl) rfl (to_getIv (y := x6) ex6 g_c13_171 (dat dk_X12_trim 23 rfl) (Ih2.atS rfl) ?_))
          refine to_ige 65 (dat dk_X12_trim 24 rfl) rfl ry60 (by omega) (fun c65 => ?_) (fun c65 => ?_)
          · skip
            refine to_iload_n (dat dk_X12_trim 33 rfl) rfl (to_istore_n (L' := [(0, .inr (.inr 60)), (1, .inl y60), (2, .inl y60)]) (dat dk_X12_trim 34 rfl) (by decide) rfl ?_)
            have lp67_n71 : ∀ (n71 : Nat) (y66 : Int) (h67 : Hp), (I32 y66) → (Inv h67) → (Fr [75, 223] h h67) → (0 ≤ y60 ∧ y60 ≤ h67.2.2 60 23) → (y60 ≤ y66) → (h67.2.2 60 23 ≤ h.2.2 60 23) → (h67.2.2 60 23 - y66 ≤ (n71 : Int)) → To l E_X12_trim (67, [(0, .inr (.inr 60)), (1, .inl y60), (2, .inl y66)], [], h67, 0, 0) (Q_X12_trim h) := by
              intro n71
              induction n71 using Nat.strongRecOn with
              | _ n71 ihn71 =>
              intro y66 h67 ry66 Ih67 fh67 c68 c69 c70 c72
              obtain ⟨x73, ex73⟩ : ∃ y : Int, h67.2.2 60 23 = y := ⟨_, rfl⟩
              have rx73 := Ih67.atR (a := 60) (j := 23) rfl
              rw [ex73] at rx73
              refine to_iload_n (dat dk_X12_trim 35 rfl) rfl (to_aload_n (dat dk_X12_trim 36 rfl) rfl (to_getIv (y := x73) ex73 g_c13_171 (dat dk_X12_trim 37 rfl) (Ih67.atS rfl) ?_))
              refine to_ige 95 (dat dk_X12_trim 38 rfl) rfl ry66 (by omega) (fun c74 => ?_) (fun c74 => ?_)
              · skip
                refine to_aload_n (dat dk_X12_trim 51 rfl) rfl (to_dup (dat dk_X12_trim 52 rfl) rfl (to_getIv (y := x73) ex73 g_c13_171 (dat dk_X12_trim 53 rfl) (Ih67.atS rfl) (to_iload_n (dat dk_X12_trim 54 rfl) rfl (to_isub (dat dk_X12_trim 55 rfl) (to_putIw p_c13_171 (dat dk_X12_trim 56 rfl) (Ih67.atS rfl) ?_)))))
                intro h77 wh77
                have I75 : Inv h77 := by rw [wh77]; exact Ih67.put (a := 60) (j := 23) (x := (x73 - y60)) (0) (1300) rfl rfl (show (0 : Int) ≤ (x73 - y60) ∧ (x73 - y60) ≤ 1300 by omega)
                have f76 : Fr [75, 223] h h77 := by rw [wh77]; exact Fr.putF (a := 60) (j := 23) (x := (x73 - y60)) fh67 rfl
                have e78 : h77.2.2 60 23 = (x73 - y60) := (by rw [wh77]; exact wr_eq)
                exact to_vret rfl (dat dk_X12_trim 57 rfl) (rv_mk ⟨I75, f76, (show h77.2.2 60 23 ≤ h.2.2 60 23 by omega)⟩)
              · skip
                refine to_aload_n (dat dk_X12_trim 39 rfl) rfl (to_getR 75 g_c13_60 (dat dk_X12_trim 40 rfl) (Ih67.atS rfl) (Ih67.atE rfl) (to_iload_n (dat dk_X12_trim 41 rfl) rfl (to_iload_n (dat dk_X12_trim 42 rfl) rfl (to_isub (dat dk_X12_trim 43 rfl) (to_aload_n (dat dk_X12_trim 44 rfl) rfl (to_getR 75 g_c13_60 (dat dk_X12_trim 45 rfl) (Ih67.atS rfl) (Ih67.atE rfl) (to_iload_n (dat dk_X12_trim 46 rfl) rfl ?_)))))))
                obtain ⟨x79, ex79⟩ : ∃ y : Int, h67.2.2 75 (Int.toNat y66) = y := ⟨_, rfl⟩
                have rx79 := Ih67.atR (a := 75) (j := Int.toNat y66) rfl
                rw [ex79] at rx79
                refine to_baldv (q := 1) ex79 (dat dk_X12_trim 47 rfl) (by decide) (Ih67.atS rfl) rfl (by decide) (by omega) (to_bastw (dat dk_X12_trim 48 rfl) (Ih67.atS rfl) rfl (by decide) (by omega) ?_)
                intro h82 wh82
                have I80 : Inv h82 := by rw [wh82]; exact Ih67.put (a := 75) (j := (Int.toNat (y66 - y60))) (x := (b8 x79)) (-128) (127) rfl rfl (show (-128 : Int) ≤ (b8 x79) ∧ (b8 x79) ≤ 127 by have := b8_in x79; omega)
                have f81 : Fr [75, 223] h h82 := by rw [wh82]; exact Fr.putF (a := 75) (j := (Int.toNat (y66 - y60))) (x := (b8 x79)) fh67 rfl
                refine to_iinc (L' := [(0, .inr (.inr 60)), (1, .inl y60), (2, .inl (y66 + 1))]) (dat dk_X12_trim 49 rfl) rfl (by decide) rfl (to_goto (dat dk_X12_trim 50 rfl) rfl ?_)
                have e83 : h82.2.2 60 23 = x73 := (by rw [wh82]; exact ex73)
                exact ihn71 (n71 - 1) (by omega) (y66 + 1) h82 (by omega) I80 f81 (show 0 ≤ y60 ∧ y60 ≤ h82.2.2 60 23 by omega) (show y60 ≤ (y66 + 1) by omega) (show h82.2.2 60 23 ≤ h.2.2 60 23 by omega) (show h82.2.2 60 23 - (y66 + 1) ≤ ((n71 - 1 : Nat) : Int) by omega)
            exact lp67_n71 (h2.2.2 60 23 - y60).toNat y60 h2 ry60 Ih2 fh2 (show 0 ≤ y60 ∧ y60 ≤ h2.2.2 60 23 by omega) (show y60 ≤ y60 by omega) (show h2.2.2 60 23 ≤ h.2.2 60 23 by omega) (by omega)
          · skip
            refine to_aload_n (dat dk_X12_trim 25 rfl) rfl (to_getR 75 g_c13_60 (dat dk_X12_trim 26 rfl) (Ih2.atS rfl) (Ih2.atE rfl) (to_iload_n (dat dk_X12_trim 27 rfl) rfl ?_))
            obtain ⟨x84, ex84⟩ : ∃ y : Int, h2.2.2 75 (Int.toNat y60) = y := ⟨_, rfl⟩
            have rx84 := Ih2.atR (a := 75) (j := Int.toNat y60) rfl
            rw [ex84] at rx84
            refine to_baldv (q := 1) ex84 (dat dk_X12_trim 28 rfl) (by decide) (Ih2.atS rfl) rfl (by decide) (by omega) ?_
            refine to_cI ca_c13_182 (dat dk_X12_trim 29 rfl) (ct_X12_isBlank l h2 Ih2 x84 (by omega)) rfl trivial rfl (fun x85 h86 rx85 p87 => ?_)
            obtain ⟨rfl, zx85⟩ := p87
            refine to_ifeq 65 (dat dk_X12_trim 30 rfl) rfl rx85 (fun c88 => ?_) (fun c88 => ?_)
            · skip
              refine to_iload_n (dat dk_X12_trim 33 rfl) rfl (to_istore_n (L' := [(0, .inr (.inr 60)), (1, .inl y60), (2, .inl y60)]) (dat dk_X12_trim 34 rfl) (by decide) rfl ?_)
              have lp67_n94 : ∀ (n94 : Nat) (y89 : Int) (h90 : Hp), (I32 y89) → (Inv h90) → (Fr [75, 223] h h90) → (0 ≤ y60 ∧ y60 ≤ h90.2.2 60 23) → (y60 ≤ y89) → (h90.2.2 60 23 ≤ h.2.2 60 23) → (h90.2.2 60 23 - y89 ≤ (n94 : Int)) → To l E_X12_trim (67, [(0, .inr (.inr 60)), (1, .inl y60), (2, .inl y89)], [], h90, 0, 0) (Q_X12_trim h) := by
                intro n94
                induction n94 using Nat.strongRecOn with
                | _ n94 ihn94 =>
                intro y89 h90 ry89 Ih90 fh90 c91 c92 c93 c95
                obtain ⟨x96, ex96⟩ : ∃ y : Int, h90.2.2 60 23 = y := ⟨_, rfl⟩
                have rx96 := Ih90.atR (a := 60) (j := 23) rfl
                rw [ex96] at rx96
                refine to_iload_n (dat dk_X12_trim 35 rfl) rfl (to_aload_n (dat dk_X12_trim 36 rfl) rfl (to_getIv (y := x96) ex96 g_c13_171 (dat dk_X12_trim 37 rfl) (Ih90.atS rfl) ?_))
                refine to_ige 95 (dat dk_X12_trim 38 rfl) rfl ry89 (by omega) (fun c97 => ?_) (fun c97 => ?_)
                · skip
                  refine to_aload_n (dat dk_X12_trim 51 rfl) rfl (to_dup (dat dk_X12_trim 52 rfl) rfl (to_getIv (y := x96) ex96 g_c13_171 (dat dk_X12_trim 53 rfl) (Ih90.atS rfl) (to_iload_n (dat dk_X12_trim 54 rfl) rfl (to_isub (dat dk_X12_trim 55 rfl) (to_putIw p_c13_171 (dat dk_X12_trim 56 rfl) (Ih90.atS rfl) ?_)))))
                  intro h100 wh100
                  have I98 : Inv h100 := by rw [wh100]; exact Ih90.put (a := 60) (j := 23) (x := (x96 - y60)) (0) (1300) rfl rfl (show (0 : Int) ≤ (x96 - y60) ∧ (x96 - y60) ≤ 1300 by omega)
                  have f99 : Fr [75, 223] h h100 := by rw [wh100]; exact Fr.putF (a := 60) (j := 23) (x := (x96 - y60)) fh90 rfl
                  have e101 : h100.2.2 60 23 = (x96 - y60) := (by rw [wh100]; exact wr_eq)
                  exact to_vret rfl (dat dk_X12_trim 57 rfl) (rv_mk ⟨I98, f99, (show h100.2.2 60 23 ≤ h.2.2 60 23 by omega)⟩)
                · skip
                  refine to_aload_n (dat dk_X12_trim 39 rfl) rfl (to_getR 75 g_c13_60 (dat dk_X12_trim 40 rfl) (Ih90.atS rfl) (Ih90.atE rfl) (to_iload_n (dat dk_X12_trim 41 rfl) rfl (to_iload_n (dat dk_X12_trim 42 rfl) rfl (to_isub (dat dk_X12_trim 43 rfl) (to_aload_n (dat dk_X12_trim 44 rfl) rfl (to_getR 75 g_c13_60 (dat dk_X12_trim 45 rfl) (Ih90.atS rfl) (Ih90.atE rfl) (to_iload_n (dat dk_X12_trim 46 rfl) rfl ?_)))))))
                  obtain ⟨x102, ex102⟩ : ∃ y : Int, h90.2.2 75 (Int.toNat y89) = y := ⟨_, rfl⟩
                  have rx102 := Ih90.atR (a := 75) (j := Int.toNat y89) rfl
                  rw [ex102] at rx102
                  refine to_baldv (q := 1) ex102 (dat dk_X12_trim 47 rfl) (by decide) (Ih90.atS rfl) rfl (by decide) (by omega) (to_bastw (dat dk_X12_trim 48 rfl) (Ih90.atS rfl) rfl (by decide) (by omega) ?_)
                  intro h105 wh105
                  have I103 : Inv h105 := by rw [wh105]; exact Ih90.put (a := 75) (j := (Int.toNat (y89 - y60))) (x := (b8 x102)) (-128) (127) rfl rfl (show (-128 : Int) ≤ (b8 x102) ∧ (b8 x102) ≤ 127 by have := b8_in x102; omega)
                  have f104 : Fr [75, 223] h h105 := by rw [wh105]; exact Fr.putF (a := 75) (j := (Int.toNat (y89 - y60))) (x := (b8 x102)) fh90 rfl
                  refine to_iinc (L' := [(0, .inr (.inr 60)), (1, .inl y60), (2, .inl (y89 + 1))]) (dat dk_X12_trim 49 rfl) rfl (by decide) rfl (to_goto (dat dk_X12_trim 50 rfl) rfl ?_)
                  have e106 : h105.2.2 60 23 = x96 := (by rw [wh105]; exact ex96)
                  exact ihn94 (n94 - 1) (by omega) (y89 + 1) h105 (by omega) I103 f104 (show 0 ≤ y60 ∧ y60 ≤ h105.2.2 60 23 by omega) (show y60 ≤ (y89 + 1) by omega) (show h105.2.2 60 23 ≤ h.2.2 60 23 by omega) (show h105.2.2 60 23 - (y89 + 1) ≤ ((n94 - 1 : Nat) : Int) by omega)
              exact lp67_n94 (h2.2.2 60 23 - y60).toNat y60 h2 ry60 Ih2 fh2 (show 0 ≤ y60 ∧ y60 ≤ h2.2.2 60 23 by omega) (show y60 ≤ y60 by omega) (show h2.2.2 60 23 ≤ h.2.2 60 23 by omega) (by omega)
            · skip
              refine to_iinc (L' := [(0, .inr (.inr 60)), (1, .inl (y60 + 1))]) (dat dk_X12_trim 31 rfl) rfl (by decide) rfl (to_goto (dat dk_X12_trim 32 rfl) rfl ?_)
              exact ihn63 (n63 - 1) (by omega) (y60 + 1) (by omega) (show 0 ≤ (y60 + 1) ∧ (y60 + 1) ≤ h2.2.2 60 23 by omega) (show h2.2.2 60 23 ≤ h.2.2 60 23 by omega) (show h2.2.2 60 23 - (y60 + 1) ≤ ((n63 - 1 : Nat) : Int) by omega)
        exact lp39_n63 (h2.2.2 60 23 - (0 : Int)).toNat 0 (by decide) (show 0 ≤ (0 : Int) ∧ (0 : Int) ≤ h2.2.2 60 23 by omega) (show h2.2.2 60 23 ≤ h.2.2 60 23 by omega) (by omega)
      · skip
        refine to_aload_n (dat dk_X12_trim 12 rfl) rfl (to_dup (dat dk_X12_trim 13 rfl) rfl (to_getIv (y := x6) ex6 g_c13_171 (dat dk_X12_trim 14 rfl) (Ih2.atS rfl) (to_iconst (dat dk_X12_trim 15 rfl) (to_isub (dat dk_X12_trim 16 rfl) (to_putIw p_c13_171 (dat dk_X12_trim 17 rfl) (Ih2.atS rfl) ?_)))))
        intro h109 wh109
        have I107 : Inv h109 := by rw [wh109]; exact Ih2.put (a := 60) (j := 23) (x := (x6 - 1)) (0) (1300) rfl rfl (show (0 : Int) ≤ (x6 - 1) ∧ (x6 - 1) ≤ 1300 by omega)
        have f108 : Fr [75, 223] h h109 := by rw [wh109]; exact Fr.putF (a := 60) (j := 23) (x := (x6 - 1)) fh2 rfl
        refine to_goto (dat dk_X12_trim 18 rfl) rfl ?_
        have e110 : h109.2.2 60 23 = (x6 - 1) := (by rw [wh109]; exact wr_eq)
        exact ihn4 (n4 - 1) (by omega) h109 I107 f108 (show h109.2.2 60 23 ≤ h.2.2 60 23 by omega) (show h109.2.2 60 23 ≤ ((n4 - 1 : Nat) : Int) by omega)
  exact lp0_n4 (h.2.2 60 23).toNat h hI (Fr.rf _ _) (show h.2.2 60 23 ≤ h.2.2 60 23 by omega) (by omega)
