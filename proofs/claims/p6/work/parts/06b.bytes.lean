/-! Contracts, by program. -/
abbrev Q_X9_isBlank (h : Hp) (b : Int) : Option V → Hp → Nat → Nat → Prop := RI (fun x H => h = H ∧ (x = 0 ∨ x = 1))
set_option maxRecDepth 100000 in
theorem ct_X9_isBlank (l : Launch) (h : Hp) (hI : Inv h) (b : Int) (hb : I32 b) : Ct l D_X9_isBlank 0 0 [.inl b] h (Q_X9_isBlank h b) := by
  refine ct_of pn_X9_isBlank (Nat.le_of_ble_eq_true rfl) ?_
  show To l E_X9_isBlank (0, [(0, .inl b)], [], h, 0, 0) _
  refine to_iload_n (dat dk_X9_isBlank 0 rfl) rfl (to_bipush (dat dk_X9_isBlank 1 rfl) (by decide) ?_)
  refine to_ieq 12 (dat dk_X9_isBlank 2 rfl) rfl hb (by decide) (fun c1 => ?_) (fun c1 => ?_)
  · skip
    refine to_iconst (dat dk_X9_isBlank 6 rfl) (to_goto (dat dk_X9_isBlank 7 rfl) rfl ?_)
    exact to_zret rfl (dat dk_X9_isBlank 9 rfl) (by decide) (ri_mk (by decide) ⟨rfl, (by decide)⟩)
  · skip
    refine to_iload_n (dat dk_X9_isBlank 3 rfl) rfl (to_bipush (dat dk_X9_isBlank 4 rfl) (by decide) ?_)
    refine to_ine 16 (dat dk_X9_isBlank 5 rfl) rfl hb (by decide) (fun c2 => ?_) (fun c2 => ?_)
    · skip
      refine to_iconst (dat dk_X9_isBlank 8 rfl) ?_
      exact to_zret rfl (dat dk_X9_isBlank 9 rfl) (by decide) (ri_mk (by decide) ⟨rfl, (by decide)⟩)
    · skip
      refine to_iconst (dat dk_X9_isBlank 6 rfl) (to_goto (dat dk_X9_isBlank 7 rfl) rfl ?_)
      exact to_zret rfl (dat dk_X9_isBlank 9 rfl) (by decide) (ri_mk (by decide) ⟨rfl, (by decide)⟩)
abbrev Q_X9_isDigit (h : Hp) (b : Int) : Option V → Hp → Nat → Nat → Prop := RI (fun x H => h = H ∧ (x = 0 ∨ x = 1))
set_option maxRecDepth 100000 in
theorem ct_X9_isDigit (l : Launch) (h : Hp) (hI : Inv h) (b : Int) (hb : I32 b) : Ct l D_X9_isDigit 0 0 [.inl b] h (Q_X9_isDigit h b) := by
  refine ct_of pn_X9_isDigit (Nat.le_of_ble_eq_true rfl) ?_
  show To l E_X9_isDigit (0, [(0, .inl b)], [], h, 0, 0) _
  refine to_iload_n (dat dk_X9_isDigit 0 rfl) rfl (to_bipush (dat dk_X9_isDigit 1 rfl) (by decide) ?_)
  refine to_ilt 16 (dat dk_X9_isDigit 2 rfl) rfl hb (by decide) (fun c1 => ?_) (fun c1 => ?_)
  · skip
    refine to_iconst (dat dk_X9_isDigit 8 rfl) ?_
    exact to_zret rfl (dat dk_X9_isDigit 9 rfl) (by decide) (ri_mk (by decide) ⟨rfl, (by decide)⟩)
  · skip
    refine to_iload_n (dat dk_X9_isDigit 3 rfl) rfl (to_bipush (dat dk_X9_isDigit 4 rfl) (by decide) ?_)
    refine to_igt 16 (dat dk_X9_isDigit 5 rfl) rfl hb (by decide) (fun c2 => ?_) (fun c2 => ?_)
    · skip
      refine to_iconst (dat dk_X9_isDigit 8 rfl) ?_
      exact to_zret rfl (dat dk_X9_isDigit 9 rfl) (by decide) (ri_mk (by decide) ⟨rfl, (by decide)⟩)
    · skip
      refine to_iconst (dat dk_X9_isDigit 6 rfl) (to_goto (dat dk_X9_isDigit 7 rfl) rfl ?_)
      exact to_zret rfl (dat dk_X9_isDigit 9 rfl) (by decide) (ri_mk (by decide) ⟨rfl, (by decide)⟩)
abbrev Q_X9_isLetter (h : Hp) (b : Int) : Option V → Hp → Nat → Nat → Prop := RI (fun x H => h = H ∧ (x = 0 ∨ x = 1))
set_option maxRecDepth 100000 in
theorem ct_X9_isLetter (l : Launch) (h : Hp) (hI : Inv h) (b : Int) (hb : I32 b) : Ct l D_X9_isLetter 0 0 [.inl b] h (Q_X9_isLetter h b) := by
  refine ct_of pn_X9_isLetter (Nat.le_of_ble_eq_true rfl) ?_
  show To l E_X9_isLetter (0, [(0, .inl b)], [], h, 0, 0) _
  refine to_iload_n (dat dk_X9_isLetter 0 rfl) rfl (to_bipush (dat dk_X9_isLetter 1 rfl) (by decide) ?_)
  refine to_ilt 12 (dat dk_X9_isLetter 2 rfl) rfl hb (by decide) (fun c1 => ?_) (fun c1 => ?_)
  · skip
    refine to_iload_n (dat dk_X9_isLetter 6 rfl) rfl (to_bipush (dat dk_X9_isLetter 7 rfl) (by decide) ?_)
    refine to_ilt 28 (dat dk_X9_isLetter 8 rfl) rfl hb (by decide) (fun c2 => ?_) (fun c2 => ?_)
    · skip
      refine to_iconst (dat dk_X9_isLetter 14 rfl) ?_
      exact to_zret rfl (dat dk_X9_isLetter 15 rfl) (by decide) (ri_mk (by decide) ⟨rfl, (by decide)⟩)
    · skip
      refine to_iload_n (dat dk_X9_isLetter 9 rfl) rfl (to_bipush (dat dk_X9_isLetter 10 rfl) (by decide) ?_)
      refine to_igt 28 (dat dk_X9_isLetter 11 rfl) rfl hb (by decide) (fun c3 => ?_) (fun c3 => ?_)
      · skip
        refine to_iconst (dat dk_X9_isLetter 14 rfl) ?_
        exact to_zret rfl (dat dk_X9_isLetter 15 rfl) (by decide) (ri_mk (by decide) ⟨rfl, (by decide)⟩)
      · skip
        refine to_iconst (dat dk_X9_isLetter 12 rfl) (to_goto (dat dk_X9_isLetter 13 rfl) rfl ?_)
        exact to_zret rfl (dat dk_X9_isLetter 15 rfl) (by decide) (ri_mk (by decide) ⟨rfl, (by decide)⟩)
  · skip
    refine to_iload_n (dat dk_X9_isLetter 3 rfl) rfl (to_bipush (dat dk_X9_isLetter 4 rfl) (by decide) ?_)
    refine to_ile 24 (dat dk_X9_isLetter 5 rfl) rfl hb (by decide) (fun c4 => ?_) (fun c4 => ?_)
    · skip
      refine to_iconst (dat dk_X9_isLetter 12 rfl) (to_goto (dat dk_X9_isLetter 13 rfl) rfl ?_)
      exact to_zret rfl (dat dk_X9_isLetter 15 rfl) (by decide) (ri_mk (by decide) ⟨rfl, (by decide)⟩)
    · skip
      refine to_iload_n (dat dk_X9_isLetter 6 rfl) rfl (to_bipush (dat dk_X9_isLetter 7 rfl) (by decide) ?_)
      refine to_ilt 28 (dat dk_X9_isLetter 8 rfl) rfl hb (by decide) (fun c5 => ?_) (fun c5 => ?_)
      · skip
        refine to_iconst (dat dk_X9_isLetter 14 rfl) ?_
        exact to_zret rfl (dat dk_X9_isLetter 15 rfl) (by decide) (ri_mk (by decide) ⟨rfl, (by decide)⟩)
      · skip
        refine to_iload_n (dat dk_X9_isLetter 9 rfl) rfl (to_bipush (dat dk_X9_isLetter 10 rfl) (by decide) ?_)
        refine to_igt 28 (dat dk_X9_isLetter 11 rfl) rfl hb (by decide) (fun c6 => ?_) (fun c6 => ?_)
        · skip
          refine to_iconst (dat dk_X9_isLetter 14 rfl) ?_
          exact to_zret rfl (dat dk_X9_isLetter 15 rfl) (by decide) (ri_mk (by decide) ⟨rfl, (by decide)⟩)
        · skip
          refine to_iconst (dat dk_X9_isLetter 12 rfl) (to_goto (dat dk_X9_isLetter 13 rfl) rfl ?_)
          exact to_zret rfl (dat dk_X9_isLetter 15 rfl) (by decide) (ri_mk (by decide) ⟨rfl, (by decide)⟩)
abbrev Q_X9_isOfWord (h : Hp) (b : Int) : Option V → Hp → Nat → Nat → Prop := RI (fun x H => h = H ∧ (x = 0 ∨ x = 1))
set_option maxRecDepth 100000 in
theorem ct_X9_isOfWord (l : Launch) (h : Hp) (hI : Inv h) (b : Int) (hb : I32 b) : Ct l D_X9_isOfWord 1 20 [.inl b] h (Q_X9_isOfWord h b) := by
  refine ct_of pn_X9_isOfWord (Nat.le_of_ble_eq_true rfl) ?_
  show To l E_X9_isOfWord (0, [(0, .inl b)], [], h, 0, 0) _
  refine to_iload_n (dat dk_X9_isOfWord 0 rfl) rfl ?_
  refine to_cI ca_c10_9 (dat dk_X9_isOfWord 1 rfl) (ct_X9_isLetter l h hI b hb) rfl trivial rfl (fun x1 h2 rx1 p3 => ?_)
  obtain ⟨rfl, zx1⟩ := p3
  refine to_ifne 21 (dat dk_X9_isOfWord 2 rfl) rfl rx1 (fun c4 => ?_) (fun c4 => ?_)
  · skip
    refine to_iconst (dat dk_X9_isOfWord 9 rfl) (to_goto (dat dk_X9_isOfWord 10 rfl) rfl ?_)
    exact to_zret rfl (dat dk_X9_isOfWord 12 rfl) (by decide) (ri_mk (by decide) ⟨rfl, (by decide)⟩)
  · skip
    refine to_iload_n (dat dk_X9_isOfWord 3 rfl) rfl ?_
    refine to_cI ca_c10_15 (dat dk_X9_isOfWord 4 rfl) (ct_X9_isDigit l h hI b hb) rfl trivial rfl (fun x5 h6 rx5 p7 => ?_)
    obtain ⟨rfl, zx5⟩ := p7
    refine to_ifne 21 (dat dk_X9_isOfWord 5 rfl) rfl rx5 (fun c8 => ?_) (fun c8 => ?_)
    · skip
      refine to_iconst (dat dk_X9_isOfWord 9 rfl) (to_goto (dat dk_X9_isOfWord 10 rfl) rfl ?_)
      exact to_zret rfl (dat dk_X9_isOfWord 12 rfl) (by decide) (ri_mk (by decide) ⟨rfl, (by decide)⟩)
    · skip
      refine to_iload_n (dat dk_X9_isOfWord 6 rfl) rfl (to_sipush (dat dk_X9_isOfWord 7 rfl) (by decide) ?_)
      refine to_ilt 25 (dat dk_X9_isOfWord 8 rfl) rfl hb (by decide) (fun c9 => ?_) (fun c9 => ?_)
      · skip
        refine to_iconst (dat dk_X9_isOfWord 11 rfl) ?_
        exact to_zret rfl (dat dk_X9_isOfWord 12 rfl) (by decide) (ri_mk (by decide) ⟨rfl, (by decide)⟩)
      · skip
        refine to_iconst (dat dk_X9_isOfWord 9 rfl) (to_goto (dat dk_X9_isOfWord 10 rfl) rfl ?_)
        exact to_zret rfl (dat dk_X9_isOfWord 12 rfl) (by decide) (ri_mk (by decide) ⟨rfl, (by decide)⟩)
abbrev Q_X9_isOfName (h : Hp) (b : Int) : Option V → Hp → Nat → Nat → Prop := RI (fun x H => h = H ∧ (x = 0 ∨ x = 1))
set_option maxRecDepth 100000 in
theorem ct_X9_isOfName (l : Launch) (h : Hp) (hI : Inv h) (b : Int) (hb : I32 b) : Ct l D_X9_isOfName 1 20 [.inl b] h (Q_X9_isOfName h b) := by
  refine ct_of pn_X9_isOfName (Nat.le_of_ble_eq_true rfl) ?_
  show To l E_X9_isOfName (0, [(0, .inl b)], [], h, 0, 0) _
  refine to_iload_n (dat dk_X9_isOfName 0 rfl) rfl ?_
  refine to_cI ca_c10_9 (dat dk_X9_isOfName 1 rfl) (ct_X9_isLetter l h hI b hb) rfl trivial rfl (fun x1 h2 rx1 p3 => ?_)
  obtain ⟨rfl, zx1⟩ := p3
  refine to_ifne 20 (dat dk_X9_isOfName 2 rfl) rfl rx1 (fun c4 => ?_) (fun c4 => ?_)
  · skip
    refine to_iconst (dat dk_X9_isOfName 9 rfl) (to_goto (dat dk_X9_isOfName 10 rfl) rfl ?_)
    exact to_zret rfl (dat dk_X9_isOfName 12 rfl) (by decide) (ri_mk (by decide) ⟨rfl, (by decide)⟩)
  · skip
    refine to_iload_n (dat dk_X9_isOfName 3 rfl) rfl ?_
    refine to_cI ca_c10_15 (dat dk_X9_isOfName 4 rfl) (ct_X9_isDigit l h hI b hb) rfl trivial rfl (fun x5 h6 rx5 p7 => ?_)
    obtain ⟨rfl, zx5⟩ := p7
    refine to_ifne 20 (dat dk_X9_isOfName 5 rfl) rfl rx5 (fun c8 => ?_) (fun c8 => ?_)
    · skip
      refine to_iconst (dat dk_X9_isOfName 9 rfl) (to_goto (dat dk_X9_isOfName 10 rfl) rfl ?_)
      exact to_zret rfl (dat dk_X9_isOfName 12 rfl) (by decide) (ri_mk (by decide) ⟨rfl, (by decide)⟩)
    · skip
      refine to_iload_n (dat dk_X9_isOfName 6 rfl) rfl (to_bipush (dat dk_X9_isOfName 7 rfl) (by decide) ?_)
      refine to_ine 24 (dat dk_X9_isOfName 8 rfl) rfl hb (by decide) (fun c9 => ?_) (fun c9 => ?_)
      · skip
        refine to_iconst (dat dk_X9_isOfName 11 rfl) ?_
        exact to_zret rfl (dat dk_X9_isOfName 12 rfl) (by decide) (ri_mk (by decide) ⟨rfl, (by decide)⟩)
      · skip
        refine to_iconst (dat dk_X9_isOfName 9 rfl) (to_goto (dat dk_X9_isOfName 10 rfl) rfl ?_)
        exact to_zret rfl (dat dk_X9_isOfName 12 rfl) (by decide) (ri_mk (by decide) ⟨rfl, (by decide)⟩)
abbrev Q_X9_small (h : Hp) (b : Int) : Option V → Hp → Nat → Nat → Prop := RI (fun x H => h = H)
set_option maxRecDepth 100000 in
theorem ct_X9_small (l : Launch) (h : Hp) (hI : Inv h) (b : Int) (hb : I32 b) : Ct l D_X9_small 0 0 [.inl b] h (Q_X9_small h b) := by
  refine ct_of pn_X9_small (Nat.le_of_ble_eq_true rfl) ?_
  show To l E_X9_small (0, [(0, .inl b)], [], h, 0, 0) _
  refine to_iload_n (dat dk_X9_small 0 rfl) rfl (to_bipush (dat dk_X9_small 1 rfl) (by decide) ?_)
  refine to_ilt 19 (dat dk_X9_small 2 rfl) rfl hb (by decide) (fun c1 => ?_) (fun c1 => ?_)
  · skip
    refine to_iload_n (dat dk_X9_small 10 rfl) rfl ?_
    exact to_iret rfl (dat dk_X9_small 11 rfl) (ri_mk hb rfl)
  · skip
    refine to_iload_n (dat dk_X9_small 3 rfl) rfl (to_bipush (dat dk_X9_small 4 rfl) (by decide) ?_)
    refine to_igt 19 (dat dk_X9_small 5 rfl) rfl hb (by decide) (fun c2 => ?_) (fun c2 => ?_)
    · skip
      refine to_iload_n (dat dk_X9_small 10 rfl) rfl ?_
      exact to_iret rfl (dat dk_X9_small 11 rfl) (ri_mk hb rfl)
    · skip
      refine to_iload_n (dat dk_X9_small 6 rfl) rfl (to_bipush (dat dk_X9_small 7 rfl) (by decide) (to_iadd (dat dk_X9_small 8 rfl) (to_goto (dat dk_X9_small 9 rfl) rfl ?_)))
      exact to_iret rfl (dat dk_X9_small 11 rfl) (ri_mk (by omega) rfl)
abbrev Q_X9_hexDigit (h : Hp) (b : Int) : Option V → Hp → Nat → Nat → Prop := RI (fun x H => h = H ∧ (b = -1 → x = -1) ∧ (-1 ≤ x ∧ x ≤ 15))
set_option maxRecDepth 100000 in
theorem ct_X9_hexDigit (l : Launch) (h : Hp) (hI : Inv h) (b : Int) (hb : I32 b) : Ct l D_X9_hexDigit 0 0 [.inl b] h (Q_X9_hexDigit h b) := by
  refine ct_of pn_X9_hexDigit (Nat.le_of_ble_eq_true rfl) ?_
  show To l E_X9_hexDigit (0, [(0, .inl b)], [], h, 0, 0) _
  refine to_iload_n (dat dk_X9_hexDigit 0 rfl) rfl (to_bipush (dat dk_X9_hexDigit 1 rfl) (by decide) ?_)
  refine to_ilt 17 (dat dk_X9_hexDigit 2 rfl) rfl hb (by decide) (fun c1 => ?_) (fun c1 => ?_)
  · skip
    refine to_iload_n (dat dk_X9_hexDigit 10 rfl) rfl (to_bipush (dat dk_X9_hexDigit 11 rfl) (by decide) ?_)
    refine to_ilt 37 (dat dk_X9_hexDigit 12 rfl) rfl hb (by decide) (fun c2 => ?_) (fun c2 => ?_)
    · skip
      refine to_iload_n (dat dk_X9_hexDigit 22 rfl) rfl (to_bipush (dat dk_X9_hexDigit 23 rfl) (by decide) ?_)
      refine to_ilt 59 (dat dk_X9_hexDigit 24 rfl) rfl hb (by decide) (fun c3 => ?_) (fun c3 => ?_)
      · skip
        refine to_iconst (dat dk_X9_hexDigit 34 rfl) ?_
        exact to_iret rfl (dat dk_X9_hexDigit 35 rfl) (ri_mk (by decide) ⟨rfl, (show b = -1 → (-1 : Int) = -1 by omega), (show -1 ≤ (-1 : Int) ∧ (-1 : Int) ≤ 15 by omega)⟩)
      · skip
        refine to_iload_n (dat dk_X9_hexDigit 25 rfl) rfl (to_bipush (dat dk_X9_hexDigit 26 rfl) (by decide) ?_)
        refine to_igt 59 (dat dk_X9_hexDigit 27 rfl) rfl hb (by decide) (fun c4 => ?_) (fun c4 => ?_)
        · skip
          refine to_iconst (dat dk_X9_hexDigit 34 rfl) ?_
          exact to_iret rfl (dat dk_X9_hexDigit 35 rfl) (ri_mk (by decide) ⟨rfl, (show b = -1 → (-1 : Int) = -1 by omega), (show -1 ≤ (-1 : Int) ∧ (-1 : Int) ≤ 15 by omega)⟩)
        · skip
          refine to_iload_n (dat dk_X9_hexDigit 28 rfl) rfl (to_bipush (dat dk_X9_hexDigit 29 rfl) (by decide) (to_isub (dat dk_X9_hexDigit 30 rfl) (to_bipush (dat dk_X9_hexDigit 31 rfl) (by decide) (to_iadd (dat dk_X9_hexDigit 32 rfl) (to_goto (dat dk_X9_hexDigit 33 rfl) rfl ?_)))))
          exact to_iret rfl (dat dk_X9_hexDigit 35 rfl) (ri_mk (by omega) ⟨rfl, (show b = -1 → ((b - 97) + 10) = -1 by omega), (show -1 ≤ ((b - 97) + 10) ∧ ((b - 97) + 10) ≤ 15 by omega)⟩)
    · skip
      refine to_iload_n (dat dk_X9_hexDigit 13 rfl) rfl (to_bipush (dat dk_X9_hexDigit 14 rfl) (by decide) ?_)
      refine to_igt 37 (dat dk_X9_hexDigit 15 rfl) rfl hb (by decide) (fun c5 => ?_) (fun c5 => ?_)
      · skip
        refine to_iload_n (dat dk_X9_hexDigit 22 rfl) rfl (to_bipush (dat dk_X9_hexDigit 23 rfl) (by decide) ?_)
        refine to_ilt 59 (dat dk_X9_hexDigit 24 rfl) rfl hb (by decide) (fun c6 => ?_) (fun c6 => ?_)
        · skip
          refine to_iconst (dat dk_X9_hexDigit 34 rfl) ?_
          exact to_iret rfl (dat dk_X9_hexDigit 35 rfl) (ri_mk (by decide) ⟨rfl, (show b = -1 → (-1 : Int) = -1 by omega), (show -1 ≤ (-1 : Int) ∧ (-1 : Int) ≤ 15 by omega)⟩)
        · skip
          refine to_iload_n (dat dk_X9_hexDigit 25 rfl) rfl (to_bipush (dat dk_X9_hexDigit 26 rfl) (by decide) ?_)
          refine to_igt 59 (dat dk_X9_hexDigit 27 rfl) rfl hb (by decide) (fun c7 => ?_) (fun c7 => ?_)
          · skip
            refine to_iconst (dat dk_X9_hexDigit 34 rfl) ?_
            exact to_iret rfl (dat dk_X9_hexDigit 35 rfl) (ri_mk (by decide) ⟨rfl, (show b = -1 → (-1 : Int) = -1 by omega), (show -1 ≤ (-1 : Int) ∧ (-1 : Int) ≤ 15 by omega)⟩)
          · skip
            refine to_iload_n (dat dk_X9_hexDigit 28 rfl) rfl (to_bipush (dat dk_X9_hexDigit 29 rfl) (by decide) (to_isub (dat dk_X9_hexDigit 30 rfl) (to_bipush (dat dk_X9_hexDigit 31 rfl) (by decide) (to_iadd (dat dk_X9_hexDigit 32 rfl) (to_goto (dat dk_X9_hexDigit 33 rfl) rfl ?_)))))
            exact to_iret rfl (dat dk_X9_hexDigit 35 rfl) (ri_mk (by omega) ⟨rfl, (show b = -1 → ((b - 97) + 10) = -1 by omega), (show -1 ≤ ((b - 97) + 10) ∧ ((b - 97) + 10) ≤ 15 by omega)⟩)
      · skip
        refine to_iload_n (dat dk_X9_hexDigit 16 rfl) rfl (to_bipush (dat dk_X9_hexDigit 17 rfl) (by decide) (to_isub (dat dk_X9_hexDigit 18 rfl) (to_bipush (dat dk_X9_hexDigit 19 rfl) (by decide) (to_iadd (dat dk_X9_hexDigit 20 rfl) ?_))))
        exact to_iret rfl (dat dk_X9_hexDigit 21 rfl) (ri_mk (by omega) ⟨rfl, (show b = -1 → ((b - 65) + 10) = -1 by omega), (show -1 ≤ ((b - 65) + 10) ∧ ((b - 65) + 10) ≤ 15 by omega)⟩)
  · skip
    refine to_iload_n (dat dk_X9_hexDigit 3 rfl) rfl (to_bipush (dat dk_X9_hexDigit 4 rfl) (by decide) ?_)
    refine to_igt 17 (dat dk_X9_hexDigit 5 rfl) rfl hb (by decide) (fun c8 => ?_) (fun c8 => ?_)
    · skip
      refine to_iload_n (dat dk_X9_hexDigit 10 rfl) rfl (to_bipush (dat dk_X9_hexDigit 11 rfl) (by decide) ?_)
      refine to_ilt 37 (dat dk_X9_hexDigit 12 rfl) rfl hb (by decide) (fun c9 => ?_) (fun c9 => ?_)
      · skip
        refine to_iload_n (dat dk_X9_hexDigit 22 rfl) rfl (to_bipush (dat dk_X9_hexDigit 23 rfl) (by decide) ?_)
        refine to_ilt 59 (dat dk_X9_hexDigit 24 rfl) rfl hb (by decide) (fun c10 => ?_) (fun c10 => ?_)
        · skip
          refine to_iconst (dat dk_X9_hexDigit 34 rfl) ?_
          exact to_iret rfl (dat dk_X9_hexDigit 35 rfl) (ri_mk (by decide) ⟨rfl, (show b = -1 → (-1 : Int) = -1 by omega), (show -1 ≤ (-1 : Int) ∧ (-1 : Int) ≤ 15 by omega)⟩)
        · skip
          refine to_iload_n (dat dk_X9_hexDigit 25 rfl) rfl (to_bipush (dat dk_X9_hexDigit 26 rfl) (by decide) ?_)
          refine to_igt 59 (dat dk_X9_hexDigit 27 rfl) rfl hb (by decide) (fun c11 => ?_) (fun c11 => ?_)
          · skip
            refine to_iconst (dat dk_X9_hexDigit 34 rfl) ?_
            exact to_iret rfl (dat dk_X9_hexDigit 35 rfl) (ri_mk (by decide) ⟨rfl, (show b = -1 → (-1 : Int) = -1 by omega), (show -1 ≤ (-1 : Int) ∧ (-1 : Int) ≤ 15 by omega)⟩)
          · skip
            refine to_iload_n (dat dk_X9_hexDigit 28 rfl) rfl (to_bipush (dat dk_X9_hexDigit 29 rfl) (by decide) (to_isub (dat dk_X9_hexDigit 30 rfl) (to_bipush (dat dk_X9_hexDigit 31 rfl) (by decide) (to_iadd (dat dk_X9_hexDigit 32 rfl) (to_goto (dat dk_X9_hexDigit 33 rfl) rfl ?_)))))
            exact to_iret rfl (dat dk_X9_hexDigit 35 rfl) (ri_mk (by omega) ⟨rfl, (show b = -1 → ((b - 97) + 10) = -1 by omega), (show -1 ≤ ((b - 97) + 10) ∧ ((b - 97) + 10) ≤ 15 by omega)⟩)
      · skip
        refine to_iload_n (dat dk_X9_hexDigit 13 rfl) rfl (to_bipush (dat dk_X9_hexDigit 14 rfl) (by decide) ?_)
        refine to_igt 37 (dat dk_X9_hexDigit 15 rfl) rfl hb (by decide) (fun c12 => ?_) (fun c12 => ?_)
        · skip
          refine to_iload_n (dat dk_X9_hexDigit 22 rfl) rfl (to_bipush (dat dk_X9_hexDigit 23 rfl) (by decide) ?_)
          refine to_ilt 59 (dat dk_X9_hexDigit 24 rfl) rfl hb (by decide) (fun c13 => ?_) (fun c13 => ?_)
          · skip
            refine to_iconst (dat dk_X9_hexDigit 34 rfl) ?_
            exact to_iret rfl (dat dk_X9_hexDigit 35 rfl) (ri_mk (by decide) ⟨rfl, (show b = -1 → (-1 : Int) = -1 by omega), (show -1 ≤ (-1 : Int) ∧ (-1 : Int) ≤ 15 by omega)⟩)
          · skip
            refine to_iload_n (dat dk_X9_hexDigit 25 rfl) rfl (to_bipush (dat dk_X9_hexDigit 26 rfl) (by decide) ?_)
            refine to_igt 59 (dat dk_X9_hexDigit 27 rfl) rfl hb (by decide) (fun c14 => ?_) (fun c14 => ?_)
            · skip
              refine to_iconst (dat dk_X9_hexDigit 34 rfl) ?_
              exact to_iret rfl (dat dk_X9_hexDigit 35 rfl) (ri_mk (by decide) ⟨rfl, (show b = -1 → (-1 : Int) = -1 by omega), (show -1 ≤ (-1 : Int) ∧ (-1 : Int) ≤ 15 by omega)⟩)
            · skip
              refine to_iload_n (dat dk_X9_hexDigit 28 rfl) rfl (to_bipush (dat dk_X9_hexDigit 29 rfl) (by decide) (to_isub (dat dk_X9_hexDigit 30 rfl) (to_bipush (dat dk_X9_hexDigit 31 rfl) (by decide) (to_iadd (dat dk_X9_hexDigit 32 rfl) (to_goto (dat dk_X9_hexDigit 33 rfl) rfl ?_)))))
              exact to_iret rfl (dat dk_X9_hexDigit 35 rfl) (ri_mk (by omega) ⟨rfl, (show b = -1 → ((b - 97) + 10) = -1 by omega), (show -1 ≤ ((b - 97) + 10) ∧ ((b - 97) + 10) ≤ 15 by omega)⟩)
        · skip
          refine to_iload_n (dat dk_X9_hexDigit 16 rfl) rfl (to_bipush (dat dk_X9_hexDigit 17 rfl) (by decide) (to_isub (dat dk_X9_hexDigit 18 rfl) (to_bipush (dat dk_X9_hexDigit 19 rfl) (by decide) (to_iadd (dat dk_X9_hexDigit 20 rfl) ?_))))
          exact to_iret rfl (dat dk_X9_hexDigit 21 rfl) (ri_mk (by omega) ⟨rfl, (show b = -1 → ((b - 65) + 10) = -1 by omega), (show -1 ≤ ((b - 65) + 10) ∧ ((b - 65) + 10) ≤ 15 by omega)⟩)
    · skip
      refine to_iload_n (dat dk_X9_hexDigit 6 rfl) rfl (to_bipush (dat dk_X9_hexDigit 7 rfl) (by decide) (to_isub (dat dk_X9_hexDigit 8 rfl) ?_))
      exact to_iret rfl (dat dk_X9_hexDigit 9 rfl) (ri_mk (by omega) ⟨rfl, (show b = -1 → (b - 48) = -1 by omega), (show -1 ≤ (b - 48) ∧ (b - 48) ≤ 15 by omega)⟩)
abbrev Q_X9_base64Digit (h : Hp) (b : Int) : Option V → Hp → Nat → Nat → Prop := RI (fun x H => h = H)
set_option maxRecDepth 100000 in
theorem ct_X9_base64Digit (l : Launch) (h : Hp) (hI : Inv h) (b : Int) (hb : I32 b) : Ct l D_X9_base64Digit 1 20 [.inl b] h (Q_X9_base64Digit h b) := by
  refine ct_of pn_X9_base64Digit (Nat.le_of_ble_eq_true rfl) ?_
  show To l E_X9_base64Digit (0, [(0, .inl b)], [], h, 0, 0) _
  refine to_iload_n (dat dk_X9_base64Digit 0 rfl) rfl ?_
  refine to_cI ca_c10_9 (dat dk_X9_base64Digit 1 rfl) (ct_X9_isLetter l h hI b hb) rfl trivial rfl (fun x1 h2 rx1 p3 => ?_)
  obtain ⟨rfl, zx1⟩ := p3
  refine to_ifeq 28 (dat dk_X9_base64Digit 2 rfl) rfl rx1 (fun c4 => ?_) (fun c4 => ?_)
  · skip
    refine to_iload_n (dat dk_X9_base64Digit 16 rfl) rfl ?_
    refine to_cI ca_c10_15 (dat dk_X9_base64Digit 17 rfl) (ct_X9_isDigit l h hI b hb) rfl trivial rfl (fun x5 h6 rx5 p7 => ?_)
    obtain ⟨rfl, zx5⟩ := p7
    refine to_ifeq 43 (dat dk_X9_base64Digit 18 rfl) rfl rx5 (fun c8 => ?_) (fun c8 => ?_)
    · skip
      refine to_iload_n (dat dk_X9_base64Digit 25 rfl) rfl (to_bipush (dat dk_X9_base64Digit 26 rfl) (by decide) ?_)
      refine to_ine 54 (dat dk_X9_base64Digit 27 rfl) rfl hb (by decide) (fun c9 => ?_) (fun c9 => ?_)
      · skip
        refine to_iload_n (dat dk_X9_base64Digit 30 rfl) rfl (to_bipush (dat dk_X9_base64Digit 31 rfl) (by decide) ?_)
        refine to_ine 65 (dat dk_X9_base64Digit 32 rfl) rfl hb (by decide) (fun c10 => ?_) (fun c10 => ?_)
        · skip
          refine to_iconst (dat dk_X9_base64Digit 35 rfl) ?_
          exact to_iret rfl (dat dk_X9_base64Digit 36 rfl) (ri_mk (by decide) rfl)
        · skip
          refine to_bipush (dat dk_X9_base64Digit 33 rfl) (by decide) (to_goto (dat dk_X9_base64Digit 34 rfl) rfl ?_)
          exact to_iret rfl (dat dk_X9_base64Digit 36 rfl) (ri_mk (by decide) rfl)
      · skip
        refine to_bipush (dat dk_X9_base64Digit 28 rfl) (by decide) (to_goto (dat dk_X9_base64Digit 29 rfl) rfl ?_)
        exact to_iret rfl (dat dk_X9_base64Digit 36 rfl) (ri_mk (by decide) rfl)
    · skip
      refine to_iload_n (dat dk_X9_base64Digit 19 rfl) rfl (to_bipush (dat dk_X9_base64Digit 20 rfl) (by decide) ?_)
      refine to_isubA (dat dk_X9_base64Digit 21 rfl) (fun x11 rx11 => ?_)
      refine to_bipush (dat dk_X9_base64Digit 22 rfl) (by decide) ?_
      refine to_iaddA (dat dk_X9_base64Digit 23 rfl) (fun x12 rx12 => ?_)
      exact to_iret rfl (dat dk_X9_base64Digit 24 rfl) (ri_mk rx12 rfl)
  · skip
    refine to_iload_n (dat dk_X9_base64Digit 3 rfl) rfl (to_bipush (dat dk_X9_base64Digit 4 rfl) (by decide) ?_)
    refine to_igt 20 (dat dk_X9_base64Digit 5 rfl) rfl hb (by decide) (fun c13 => ?_) (fun c13 => ?_)
    · skip
      refine to_iload_n (dat dk_X9_base64Digit 10 rfl) rfl (to_bipush (dat dk_X9_base64Digit 11 rfl) (by decide) ?_)
      refine to_isubA (dat dk_X9_base64Digit 12 rfl) (fun x14 rx14 => ?_)
      refine to_bipush (dat dk_X9_base64Digit 13 rfl) (by decide) ?_
      refine to_iaddA (dat dk_X9_base64Digit 14 rfl) (fun x15 rx15 => ?_)
      exact to_iret rfl (dat dk_X9_base64Digit 15 rfl) (ri_mk rx15 rfl)
    · skip
      refine to_iload_n (dat dk_X9_base64Digit 6 rfl) rfl (to_bipush (dat dk_X9_base64Digit 7 rfl) (by decide) ?_)
      refine to_isubA (dat dk_X9_base64Digit 8 rfl) (fun x16 rx16 => ?_)
      refine to_goto (dat dk_X9_base64Digit 9 rfl) rfl ?_
      exact to_iret rfl (dat dk_X9_base64Digit 15 rfl) (ri_mk rx16 rfl)
abbrev Q_X1_size (h : Hp) (a : Nat) : Option V → Hp → Nat → Nat → Prop := RI (fun x H => h = H ∧ (x = H.2.2 a 1))
set_option maxRecDepth 100000 in
theorem ct_X1_size (l : Launch) (h : Hp) (hI : Inv h) (a : Nat) (ha : isB a = true) : Ct l D_X1_size 0 0 [.inr (.inr a)] h (Q_X1_size h a) := by
  refine ct_of pn_X1_size (Nat.le_of_ble_eq_true rfl) ?_
  show To l E_X1_size (0, [(0, .inr (.inr a))], [], h, 0, 0) _
  refine to_aload_np (dat dk_X1_size 0 rfl) (hI.1.2.2.2 _ _ (hI.bty ha)).1 rfl ?_
  obtain ⟨x1, ex1⟩ : ∃ y : Int, h.2.2 a 1 = y := ⟨_, rfl⟩
  have rx1 := hI.blen ha
  rw [ex1] at rx1
  refine to_getIv (y := x1) ex1 g_c2_15 (dat dk_X1_size 1 rfl) (hI.bty ha) ?_
  exact to_iret rfl (dat dk_X1_size 2 rfl) (ri_mk (by omega) ⟨rfl, (show x1 = h.2.2 a 1 by omega)⟩)
abbrev Q_X1_byteAt (h : Hp) (a : Nat) (i : Int) : Option V → Hp → Nat → Nat → Prop := RI (fun x H => h = H ∧ (x = -1 ∨ (0 ≤ i ∧ i < H.2.2 a 1 ∧ 0 ≤ x ∧ x ≤ 255)))
set_option maxRecDepth 100000 in
theorem ct_X1_byteAt (l : Launch) (h : Hp) (hI : Inv h) (a : Nat) (ha : isB a = true) (i : Int) (hi : I32 i) : Ct l D_X1_byteAt 0 0 [.inr (.inr a), .inl i] h (Q_X1_byteAt h a i) := by
  refine ct_of pn_X1_byteAt (Nat.le_of_ble_eq_true rfl) ?_
  show To l E_X1_byteAt (0, [(0, .inr (.inr a)), (1, .inl i)], [], h, 0, 0) _
  refine to_iload_n (dat dk_X1_byteAt 0 rfl) rfl ?_
  refine to_iflt 34 (dat dk_X1_byteAt 1 rfl) rfl hi (fun c1 => ?_) (fun c1 => ?_)
  · skip
    refine to_iconst (dat dk_X1_byteAt 18 rfl) ?_
    exact to_iret rfl (dat dk_X1_byteAt 19 rfl) (ri_mk (by decide) ⟨rfl, (show (-1 : Int) = -1 ∨ (0 ≤ i ∧ i < h.2.2 a 1 ∧ 0 ≤ (-1 : Int) ∧ (-1 : Int) ≤ 255) by omega)⟩)
  · skip
    refine to_iload_n (dat dk_X1_byteAt 2 rfl) rfl (to_aload_np (dat dk_X1_byteAt 3 rfl) (hI.1.2.2.2 _ _ (hI.bty ha)).1 rfl ?_)
    obtain ⟨x2, ex2⟩ : ∃ y : Int, h.2.2 a 1 = y := ⟨_, rfl⟩
    have rx2 := hI.blen ha
    rw [ex2] at rx2
    refine to_getIv (y := x2) ex2 g_c2_15 (dat dk_X1_byteAt 4 rfl) (hI.bty ha) ?_
    refine to_ige 34 (dat dk_X1_byteAt 5 rfl) rfl hi (by omega) (fun c3 => ?_) (fun c3 => ?_)
    · skip
      refine to_iconst (dat dk_X1_byteAt 18 rfl) ?_
      exact to_iret rfl (dat dk_X1_byteAt 19 rfl) (ri_mk (by decide) ⟨rfl, (show (-1 : Int) = -1 ∨ (0 ≤ i ∧ i < h.2.2 a 1 ∧ 0 ≤ (-1 : Int) ∧ (-1 : Int) ≤ 255) by omega)⟩)
    · skip
      refine to_iload_n (dat dk_X1_byteAt 6 rfl) rfl (to_aload_np (dat dk_X1_byteAt 7 rfl) (hI.1.2.2.2 _ _ (hI.bty ha)).1 rfl (to_getR (a + 1) g_c2_9 (dat dk_X1_byteAt 8 rfl) (hI.bty ha) (hI.brow ha) (to_alen (dat dk_X1_byteAt 9 rfl) (hI.brt ha) (by decide) ?_)))
      refine to_ige 34 (dat dk_X1_byteAt 10 rfl) rfl hi (by omega) (fun c4 => ?_) (fun c4 => ?_)
      · skip
        refine to_iconst (dat dk_X1_byteAt 18 rfl) ?_
        exact to_iret rfl (dat dk_X1_byteAt 19 rfl) (ri_mk (by decide) ⟨rfl, (show (-1 : Int) = -1 ∨ (0 ≤ i ∧ i < h.2.2 a 1 ∧ 0 ≤ (-1 : Int) ∧ (-1 : Int) ≤ 255) by omega)⟩)
      · skip
        refine to_aload_np (dat dk_X1_byteAt 11 rfl) (hI.1.2.2.2 _ _ (hI.bty ha)).1 rfl (to_getR (a + 1) g_c2_9 (dat dk_X1_byteAt 12 rfl) (hI.bty ha) (hI.brow ha) (to_iload_n (dat dk_X1_byteAt 13 rfl) rfl ?_))
        obtain ⟨x5, ex5⟩ : ∃ y : Int, h.2.2 (a + 1) (Int.toNat i) = y := ⟨_, rfl⟩
        have rx5 := hI.bcon (j := Int.toNat i) ha
        rw [ex5] at rx5
        refine to_baldv (q := 1) ex5 (dat dk_X1_byteAt 14 rfl) (by decide) (hI.brt ha) rfl (bcap_n a) (by omega) (to_sipush (dat dk_X1_byteAt 15 rfl) (by decide) ?_)
        refine to_iand 255 255 (dat dk_X1_byteAt 16 rfl) (by decide) (by decide) (fun x6 rx6 mx6 => ?_)
        refine to_goto (dat dk_X1_byteAt 17 rfl) rfl ?_
        exact to_iret rfl (dat dk_X1_byteAt 19 rfl) (ri_mk rx6 ⟨rfl, (show x6 = -1 ∨ (0 ≤ i ∧ i < h.2.2 a 1 ∧ 0 ≤ x6 ∧ x6 ≤ 255) by omega)⟩)
abbrev Q_X1_clear (h : Hp) (a : Nat) : Option V → Hp → Nat → Nat → Prop := RV (fun H => Inv H ∧ Fr [a] h H ∧ (H.2.2 a 1 = 0))
set_option maxRecDepth 100000 in
theorem ct_X1_clear (l : Launch) (h : Hp) (hI : Inv h) (a : Nat) (ha : isB a = true) : Ct l D_X1_clear 0 0 [.inr (.inr a)] h (Q_X1_clear h a) := by
  refine ct_of pn_X1_clear (Nat.le_of_ble_eq_true rfl) ?_
  show To l E_X1_clear (0, [(0, .inr (.inr a))], [], h, 0, 0) _
  refine to_aload_np (dat dk_X1_clear 0 rfl) (hI.1.2.2.2 _ _ (hI.bty ha)).1 rfl (to_iconst (dat dk_X1_clear 1 rfl) (to_putIw p_c2_15 (dat dk_X1_clear 2 rfl) (hI.bty ha) ?_))
  intro h3 wh3
  have I1 : Inv h3 := by rw [wh3]; exact hI.putB (x := 0) ha (by omega)
  have f2 : Fr [a] h h3 := by rw [wh3]; exact Fr.putB (j := 1) (x := 0) (Fr.rf _ _) ha (contains1 _)
  have e4 : h3.2.2 a 1 = (0 : Int) := (by rw [wh3]; exact wr_eq)
  exact to_vret rfl (dat dk_X1_clear 3 rfl) (rv_mk ⟨I1, f2, (show h3.2.2 a 1 = 0 by omega)⟩)
abbrev Q_X1_put (h : Hp) (a : Nat) (b : Int) : Option V → Hp → Nat → Nat → Prop := RV (fun H => Inv H ∧ Fr [a] h H ∧ (H.2.2 a 1 ≤ h.2.2 a 1 + 1))
set_option maxRecDepth 100000 in
theorem ct_X1_put (l : Launch) (h : Hp) (hI : Inv h) (a : Nat) (ha : isB a = true) (b : Int) (hb : I32 b) : Ct l D_X1_put 0 0 [.inr (.inr a), .inl b] h (Q_X1_put h a b) := by
  refine ct_of pn_X1_put (Nat.le_of_ble_eq_true rfl) ?_
  show To l E_X1_put (0, [(0, .inr (.inr a)), (1, .inl b)], [], h, 0, 0) _
  refine to_aload_np (dat dk_X1_put 0 rfl) (hI.1.2.2.2 _ _ (hI.bty ha)).1 rfl ?_
  obtain ⟨x1, ex1⟩ : ∃ y : Int, h.2.2 a 1 = y := ⟨_, rfl⟩
  have rx1 := hI.blen ha
  rw [ex1] at rx1
  refine to_getIv (y := x1) ex1 g_c2_15 (dat dk_X1_put 1 rfl) (hI.bty ha) ?_
  refine to_iflt 40 (dat dk_X1_put 2 rfl) rfl (by omega) (fun c2 => ?_) (fun c2 => ?_)
  · skip
    exact to_vret rfl (dat dk_X1_put 22 rfl) (rv_mk ⟨hI, (Fr.rf _ _), (show h.2.2 a 1 ≤ h.2.2 a 1 + 1 by omega)⟩)
  · skip
    refine to_aload_np (dat dk_X1_put 3 rfl) (hI.1.2.2.2 _ _ (hI.bty ha)).1 rfl (to_getIv (y := x1) ex1 g_c2_15 (dat dk_X1_put 4 rfl) (hI.bty ha) (to_aload_np (dat dk_X1_put 5 rfl) (hI.1.2.2.2 _ _ (hI.bty ha)).1 rfl (to_getR (a + 1) g_c2_9 (dat dk_X1_put 6 rfl) (hI.bty ha) (hI.brow ha) (to_alen (dat dk_X1_put 7 rfl) (hI.brt ha) (by decide) ?_))))
    refine to_ige 40 (dat dk_X1_put 8 rfl) rfl (by omega) (by omega) (fun c3 => ?_) (fun c3 => ?_)
    · skip
      exact to_vret rfl (dat dk_X1_put 22 rfl) (rv_mk ⟨hI, (Fr.rf _ _), (show h.2.2 a 1 ≤ h.2.2 a 1 + 1 by omega)⟩)
    · skip
      refine to_aload_np (dat dk_X1_put 9 rfl) (hI.1.2.2.2 _ _ (hI.bty ha)).1 rfl (to_getR (a + 1) g_c2_9 (dat dk_X1_put 10 rfl) (hI.bty ha) (hI.brow ha) (to_aload_np (dat dk_X1_put 11 rfl) (hI.1.2.2.2 _ _ (hI.bty ha)).1 rfl (to_getIv (y := x1) ex1 g_c2_15 (dat dk_X1_put 12 rfl) (hI.bty ha) (to_iload_n (dat dk_X1_put 13 rfl) rfl (to_i2b (dat dk_X1_put 14 rfl) (to_bastw (dat dk_X1_put 15 rfl) (hI.brt ha) rfl (bcap_n a) (by omega) ?_))))))
      intro h6 wh6
      have I4 : Inv h6 := by rw [wh6]; exact hI.putBr (j := (Int.toNat x1)) (x := (b8 (b8 b))) ha (by have := b8_in (b8 b); omega)
      have f5 : Fr [a] h h6 := by rw [wh6]; exact Fr.putBr (j := (Int.toNat x1)) (x := (b8 (b8 b))) (Fr.rf _ _) ha (contains1 _)
      refine to_aload_np (dat dk_X1_put 16 rfl) (I4.1.2.2.2 _ _ (I4.bty ha)).1 rfl (to_dup (dat dk_X1_put 17 rfl) rfl (to_getIv (y := x1) (by rw [wh6]; exact (wr_ne (by omega)).trans ex1) g_c2_15 (dat dk_X1_put 18 rfl) (I4.bty ha) (to_iconst (dat dk_X1_put 19 rfl) (to_iadd (dat dk_X1_put 20 rfl) (to_putIw p_c2_15 (dat dk_X1_put 21 rfl) (I4.bty ha) ?_)))))
      intro h9 wh9
      have I7 : Inv h9 := by rw [wh9]; exact I4.putB (x := (x1 + 1)) ha (by omega)
      have f8 : Fr [a] h h9 := by rw [wh9]; exact Fr.putB (j := 1) (x := (x1 + 1)) f5 ha (contains1 _)
      have e10 : h9.2.2 a 1 = (x1 + 1) := (by rw [wh9]; exact wr_eq)
      exact to_vret rfl (dat dk_X1_put 22 rfl) (rv_mk ⟨I7, f8, (show h9.2.2 a 1 ≤ h.2.2 a 1 + 1 by omega)⟩)
abbrev Q_X1_putNumber (h : Hp) (a : Nat) (b : Int) : Option V → Hp → Nat → Nat → Prop := RV (fun H => Inv H ∧ Fr [a] h H)
set_option maxRecDepth 100000 in
theorem ct_X1_putNumber (l : Launch) (h : Hp) (hI : Inv h) (a : Nat) (ha : isB a = true) (b : Int) (hb : I32 b) : Ct l D_X1_putNumber 1 21 [.inr (.inr a), .inl b] h (Q_X1_putNumber h a b) := by
  refine ct_of pn_X1_putNumber (Nat.le_of_ble_eq_true rfl) ?_
  show To l E_X1_putNumber (0, [(0, .inr (.inr a)), (1, .inl b)], [], h, 0, 0) _
  refine to_aload_np (dat dk_X1_putNumber 0 rfl) (hI.1.2.2.2 _ _ (hI.bty ha)).1 rfl (to_iload_n (dat dk_X1_putNumber 1 rfl) rfl (to_bipush (dat dk_X1_putNumber 2 rfl) (by decide) ?_))
  refine to_ishr (dat dk_X1_putNumber 3 rfl) (fun x1 rx1 => ?_)
  obtain ⟨x2, ex2⟩ : ∃ y : Int, h.2.2 a 1 = y := ⟨_, rfl⟩
  have rx2 := hI.blen ha
  rw [ex2] at rx2
  refine to_cV ca_c2_19 (dat dk_X1_putNumber 4 rfl) (ct_X1_put l h hI a ha x1 rx1) rfl ⟨_, _, rfl, (hI.bty ha)⟩ rfl (fun h4 p5 => ?_)
  obtain ⟨Ih4, fh4, p5_0⟩ := p5
  have f6 : Fr [a] h h4 := Fr.sub (Fr.rf _ _) fh4 (sub_self _)
  refine to_aload_np (dat dk_X1_putNumber 5 rfl) (Ih4.1.2.2.2 _ _ (Ih4.bty ha)).1 rfl (to_iload_n (dat dk_X1_putNumber 6 rfl) rfl (to_bipush (dat dk_X1_putNumber 7 rfl) (by decide) ?_))
  refine to_ishr (dat dk_X1_putNumber 8 rfl) (fun x7 rx7 => ?_)
  obtain ⟨x8, ex8⟩ : ∃ y : Int, h4.2.2 a 1 = y := ⟨_, rfl⟩
  have rx8 := Ih4.blen ha
  rw [ex8] at rx8
  refine to_cV ca_c2_19 (dat dk_X1_putNumber 9 rfl) (ct_X1_put l h4 Ih4 a ha x7 rx7) rfl ⟨_, _, rfl, (Ih4.bty ha)⟩ rfl (fun h10 p11 => ?_)
  obtain ⟨Ih10, fh10, p11_0⟩ := p11
  have f12 : Fr [a] h h10 := Fr.sub f6 fh10 (sub_self _)
  refine to_aload_np (dat dk_X1_putNumber 10 rfl) (Ih10.1.2.2.2 _ _ (Ih10.bty ha)).1 rfl (to_iload_n (dat dk_X1_putNumber 11 rfl) rfl (to_bipush (dat dk_X1_putNumber 12 rfl) (by decide) ?_))
  refine to_ishr (dat dk_X1_putNumber 13 rfl) (fun x13 rx13 => ?_)
  obtain ⟨x14, ex14⟩ : ∃ y : Int, h10.2.2 a 1 = y := ⟨_, rfl⟩
  have rx14 := Ih10.blen ha
  rw [ex14] at rx14
  refine to_cV ca_c2_19 (dat dk_X1_putNumber 14 rfl) (ct_X1_put l h10 Ih10 a ha x13 rx13) rfl ⟨_, _, rfl, (Ih10.bty ha)⟩ rfl (fun h16 p17 => ?_)
  obtain ⟨Ih16, fh16, p17_0⟩ := p17
  have f18 : Fr [a] h h16 := Fr.sub f12 fh16 (sub_self _)
  refine to_aload_np (dat dk_X1_putNumber 15 rfl) (Ih16.1.2.2.2 _ _ (Ih16.bty ha)).1 rfl (to_iload_n (dat dk_X1_putNumber 16 rfl) rfl ?_)
  obtain ⟨x19, ex19⟩ : ∃ y : Int, h16.2.2 a 1 = y := ⟨_, rfl⟩
  have rx19 := Ih16.blen ha
  rw [ex19] at rx19
  refine to_cV ca_c2_19 (dat dk_X1_putNumber 17 rfl) (ct_X1_put l h16 Ih16 a ha b hb) rfl ⟨_, _, rfl, (Ih16.bty ha)⟩ rfl (fun h21 p22 => ?_)
  obtain ⟨Ih21, fh21, p22_0⟩ := p22
  have f23 : Fr [a] h h21 := Fr.sub f18 fh21 (sub_self _)
  exact to_vret rfl (dat dk_X1_putNumber 18 rfl) (rv_mk ⟨Ih21, f23⟩)
abbrev Q_X1_putAll (h : Hp) (a : Nat) (o : Nat) (f : Int) (t : Int) : Option V → Hp → Nat → Nat → Prop := RV (fun H => Inv H ∧ Fr [a] h H)
set_option maxRecDepth 100000 in
theorem ct_X1_putAll (l : Launch) (h : Hp) (hI : Inv h) (a : Nat) (ha : isB a = true) (o : Nat) (ho : isB o = true) (f : Int) (hf : I32 f) (t : Int) (ht : I32 t) : Ct l D_X1_putAll 1 21 [.inr (.inr a), .inr (.inr o), .inl f, .inl t] h (Q_X1_putAll h a o f t) := by
  refine ct_of pn_X1_putAll (Nat.le_of_ble_eq_true rfl) ?_
  show To l E_X1_putAll (0, [(0, .inr (.inr a)), (1, .inr (.inr o)), (2, .inl f), (3, .inl t)], [], h, 0, 0) _
  refine to_iload_n (dat dk_X1_putAll 0 rfl) rfl (to_istore (L' := [(0, .inr (.inr a)), (1, .inr (.inr o)), (2, .inl f), (3, .inl t), (4, .inl f)]) (dat dk_X1_putAll 1 rfl) (by decide) rfl ?_)
  have lp3_n3 : ∀ (n3 : Nat) (y1 : Int) (h2 : Hp), (I32 y1) → (Inv h2) → (Fr [a] h h2) → (t - y1 ≤ (n3 : Int)) → To l E_X1_putAll (3, [(0, .inr (.inr a)), (1, .inr (.inr o)), (2, .inl f), (3, .inl t), (4, .inl y1)], [], h2, 0, 0) (Q_X1_putAll h a o f t) := by
    intro n3
    induction n3 using Nat.strongRecOn with
    | _ n3 ihn3 =>
    intro y1 h2 ry1 Ih2 fh2 c4
    refine to_iload (dat dk_X1_putAll 2 rfl) rfl (to_iload_n (dat dk_X1_putAll 3 rfl) rfl ?_)
    refine to_ige 25 (dat dk_X1_putAll 4 rfl) rfl ry1 ht (fun c5 => ?_) (fun c5 => ?_)
    · skip
      exact to_vret rfl (dat dk_X1_putAll 12 rfl) (rv_mk ⟨Ih2, fh2⟩)
    · skip
      refine to_aload_np (dat dk_X1_putAll 5 rfl) (Ih2.1.2.2.2 _ _ (Ih2.bty ha)).1 rfl (to_aload_np (dat dk_X1_putAll 6 rfl) (Ih2.1.2.2.2 _ _ (Ih2.bty ho)).1 rfl (to_iload (dat dk_X1_putAll 7 rfl) rfl ?_))
      obtain ⟨x6, ex6⟩ : ∃ y : Int, h2.2.2 o 1 = y := ⟨_, rfl⟩
      have rx6 := Ih2.blen ho
      rw [ex6] at rx6
      refine to_cI ca_c2_23 (dat dk_X1_putAll 8 rfl) (ct_X1_byteAt l h2 Ih2 o ho y1 ry1) rfl ⟨_, _, rfl, (Ih2.bty ho)⟩ rfl (fun x7 h8 rx7 p9 => ?_)
      obtain ⟨rfl, p9_0⟩ := p9
      obtain ⟨x10, ex10⟩ : ∃ y : Int, h2.2.2 a 1 = y := ⟨_, rfl⟩
      have rx10 := Ih2.blen ha
      rw [ex10] at rx10
      refine to_cV ca_c2_19 (dat dk_X1_putAll 9 rfl) (ct_X1_put l h2 Ih2 a ha x7 rx7) rfl ⟨_, _, rfl, (Ih2.bty ha)⟩ rfl (fun h12 p13 => ?_)
      obtain ⟨Ih12, fh12, p13_0⟩ := p13
      have f14 : Fr [a] h h12 := Fr.sub fh2 fh12 (sub_self _)
      refine to_iinc (L' := [(0, .inr (.inr a)), (1, .inr (.inr o)), (2, .inl f), (3, .inl t), (4, .inl (y1 + 1))]) (dat dk_X1_putAll 10 rfl) rfl (by decide) rfl (to_goto (dat dk_X1_putAll 11 rfl) rfl ?_)
      exact ihn3 (n3 - 1) (by omega) (y1 + 1) h12 (by omega) Ih12 f14 (show t - (y1 + 1) ≤ ((n3 - 1 : Nat) : Int) by omega)
  exact lp3_n3 (t - f).toNat f h hf hI (Fr.rf _ _) (by omega)
abbrev Q_X1_cutBlanksAtEnd (h : Hp) (a : Nat) : Option V → Hp → Nat → Nat → Prop := RV (fun H => Inv H ∧ Fr [a] h H)
set_option maxRecDepth 100000 in
theorem ct_X1_cutBlanksAtEnd (l : Launch) (h : Hp) (hI : Inv h) (a : Nat) (ha : isB a = true) : Ct l D_X1_cutBlanksAtEnd 1 21 [.inr (.inr a)] h (Q_X1_cutBlanksAtEnd h a) := by
  refine ct_of pn_X1_cutBlanksAtEnd (Nat.le_of_ble_eq_true rfl) ?_
  show To l E_X1_cutBlanksAtEnd (0, [(0, .inr (.inr a))], [], h, 0, 0) _
  have lp0_n2 : ∀ (n2 : Nat) (h1 : Hp), (Inv h1) → (Fr [a] h h1) → (h1.2.2 a 1 ≤ (n2 : Int)) → To l E_X1_cutBlanksAtEnd (0, [(0, .inr (.inr a))], [], h1, 0, 0) (Q_X1_cutBlanksAtEnd h a) := by
    intro n2
    induction n2 using Nat.strongRecOn with
    | _ n2 ihn2 =>
    intro h1 Ih1 fh1 c3
    refine to_aload_np (dat dk_X1_cutBlanksAtEnd 0 rfl) (Ih1.1.2.2.2 _ _ (Ih1.bty ha)).1 rfl ?_
    obtain ⟨x4, ex4⟩ : ∃ y : Int, h1.2.2 a 1 = y := ⟨_, rfl⟩
    have rx4 := Ih1.blen ha
    rw [ex4] at rx4
    refine to_getIv (y := x4) ex4 g_c2_15 (dat dk_X1_cutBlanksAtEnd 1 rfl) (Ih1.bty ha) ?_
    refine to_ifle 36 (dat dk_X1_cutBlanksAtEnd 2 rfl) rfl (by omega) (fun c5 => ?_) (fun c5 => ?_)
    · skip
      exact to_vret rfl (dat dk_X1_cutBlanksAtEnd 18 rfl) (rv_mk ⟨Ih1, fh1⟩)
    · skip
      refine to_aload_np (dat dk_X1_cutBlanksAtEnd 3 rfl) (Ih1.1.2.2.2 _ _ (Ih1.bty ha)).1 rfl (to_aload_np (dat dk_X1_cutBlanksAtEnd 4 rfl) (Ih1.1.2.2.2 _ _ (Ih1.bty ha)).1 rfl (to_getIv (y := x4) ex4 g_c2_15 (dat dk_X1_cutBlanksAtEnd 5 rfl) (Ih1.bty ha) (to_iconst (dat dk_X1_cutBlanksAtEnd 6 rfl) (to_isub (dat dk_X1_cutBlanksAtEnd 7 rfl) ?_))))
      refine to_cI ca_c2_23 (dat dk_X1_cutBlanksAtEnd 8 rfl) (ct_X1_byteAt l h1 Ih1 a ha (x4 - 1) (by omega)) rfl ⟨_, _, rfl, (Ih1.bty ha)⟩ rfl (fun x6 h7 rx6 p8 => ?_)
      obtain ⟨rfl, p8_0⟩ := p8
      refine to_cI ca_c2_27 (dat dk_X1_cutBlanksAtEnd 9 rfl) (ct_X9_isBlank l h1 Ih1 x6 rx6) rfl trivial rfl (fun x9 h10 rx9 p11 => ?_)
      obtain ⟨rfl, zx9⟩ := p11
      refine to_ifeq 36 (dat dk_X1_cutBlanksAtEnd 10 rfl) rfl rx9 (fun c12 => ?_) (fun c12 => ?_)
      · skip
        exact to_vret rfl (dat dk_X1_cutBlanksAtEnd 18 rfl) (rv_mk ⟨Ih1, fh1⟩)
      · skip
        refine to_aload_np (dat dk_X1_cutBlanksAtEnd 11 rfl) (Ih1.1.2.2.2 _ _ (Ih1.bty ha)).1 rfl (to_dup (dat dk_X1_cutBlanksAtEnd 12 rfl) rfl (to_getIv (y := x4) ex4 g_c2_15 (dat dk_X1_cutBlanksAtEnd 13 rfl) (Ih1.bty ha) (to_iconst (dat dk_X1_cutBlanksAtEnd 14 rfl) (to_isub (dat dk_X1_cutBlanksAtEnd 15 rfl) (to_putIw p_c2_15 (dat dk_X1_cutBlanksAtEnd 16 rfl) (Ih1.bty ha) ?_)))))
        intro h15 wh15
        have I13 : Inv h15 := by rw [wh15]; exact Ih1.putB (x := (x4 - 1)) ha (by omega)
        have f14 : Fr [a] h h15 := by rw [wh15]; exact Fr.putB (j := 1) (x := (x4 - 1)) fh1 ha (contains1 _)
        refine to_goto (dat dk_X1_cutBlanksAtEnd 17 rfl) rfl ?_
        have e16 : h15.2.2 a 1 = (x4 - 1) := (by rw [wh15]; exact wr_eq)
        exact ihn2 (n2 - 1) (by omega) h15 I13 f14 (show h15.2.2 a 1 ≤ ((n2 - 1 : Nat) : Int) by omega)
  exact lp0_n2 (h.2.2 a 1).toNat h hI (Fr.rf _ _) (by omega)
abbrev Q_X1_blanksBack (h : Hp) (a : Nat) (f : Int) (t : Int) : Option V → Hp → Nat → Nat → Prop := RI (fun x H => h = H ∧ (x ≤ t) ∧ (x = t ∨ f ≤ x))
set_option maxRecDepth 100000 in
theorem ct_X1_blanksBack (l : Launch) (h : Hp) (hI : Inv h) (a : Nat) (ha : isB a = true) (f : Int) (hf : I32 f) (t : Int) (ht : I32 t) : Ct l D_X1_blanksBack 1 21 [.inr (.inr a), .inl f, .inl t] h (Q_X1_blanksBack h a f t) := by
  refine ct_of pn_X1_blanksBack (Nat.le_of_ble_eq_true rfl) ?_
  show To l E_X1_blanksBack (0, [(0, .inr (.inr a)), (1, .inl f), (2, .inl t)], [], h, 0, 0) _
  refine to_iload_n (dat dk_X1_blanksBack 0 rfl) rfl (to_istore_n (L' := [(0, .inr (.inr a)), (1, .inl f), (2, .inl t), (3, .inl t)]) (dat dk_X1_blanksBack 1 rfl) (by decide) rfl ?_)
  have lp2_n4 : ∀ (n4 : Nat) (y1 : Int), (I32 y1) → (y1 ≤ t) → (y1 = t ∨ f ≤ y1) → (y1 - f ≤ (n4 : Int)) → To l E_X1_blanksBack (2, [(0, .inr (.inr a)), (1, .inl f), (2, .inl t), (3, .inl y1)], [], h, 0, 0) (Q_X1_blanksBack h a f t) := by
    intro n4
    induction n4 using Nat.strongRecOn with
    | _ n4 ihn4 =>
    intro y1 ry1 c2 c3 c5
    refine to_iload_n (dat dk_X1_blanksBack 2 rfl) rfl (to_iload_n (dat dk_X1_blanksBack 3 rfl) rfl ?_)
    refine to_ile 26 (dat dk_X1_blanksBack 4 rfl) rfl ry1 hf (fun c6 => ?_) (fun c6 => ?_)
    · skip
      refine to_iload_n (dat dk_X1_blanksBack 14 rfl) rfl ?_
      exact to_iret rfl (dat dk_X1_blanksBack 15 rfl) (ri_mk ry1 ⟨rfl, (show y1 ≤ t by omega), (show y1 = t ∨ f ≤ y1 by omega)⟩)
    · skip
      refine to_aload_np (dat dk_X1_blanksBack 5 rfl) (hI.1.2.2.2 _ _ (hI.bty ha)).1 rfl (to_iload_n (dat dk_X1_blanksBack 6 rfl) rfl (to_iconst (dat dk_X1_blanksBack 7 rfl) (to_isub (dat dk_X1_blanksBack 8 rfl) ?_)))
      obtain ⟨x7, ex7⟩ : ∃ y : Int, h.2.2 a 1 = y := ⟨_, rfl⟩
      have rx7 := hI.blen ha
      rw [ex7] at rx7
      refine to_cI ca_c2_23 (dat dk_X1_blanksBack 9 rfl) (ct_X1_byteAt l h hI a ha (y1 - 1) (by omega)) rfl ⟨_, _, rfl, (hI.bty ha)⟩ rfl (fun x8 h9 rx8 p10 => ?_)
      obtain ⟨rfl, p10_0⟩ := p10
      refine to_cI ca_c2_27 (dat dk_X1_blanksBack 10 rfl) (ct_X9_isBlank l h hI x8 rx8) rfl trivial rfl (fun x11 h12 rx11 p13 => ?_)
      obtain ⟨rfl, zx11⟩ := p13
      refine to_ifeq 26 (dat dk_X1_blanksBack 11 rfl) rfl rx11 (fun c14 => ?_) (fun c14 => ?_)
      · skip
        refine to_iload_n (dat dk_X1_blanksBack 14 rfl) rfl ?_
        exact to_iret rfl (dat dk_X1_blanksBack 15 rfl) (ri_mk ry1 ⟨rfl, (show y1 ≤ t by omega), (show y1 = t ∨ f ≤ y1 by omega)⟩)
      · skip
        refine to_iinc (L' := [(0, .inr (.inr a)), (1, .inl f), (2, .inl t), (3, .inl (y1 + (-1)))]) (dat dk_X1_blanksBack 12 rfl) rfl (by decide) rfl (to_goto (dat dk_X1_blanksBack 13 rfl) rfl ?_)
        exact ihn4 (n4 - 1) (by omega) (y1 + (-1)) (by omega) (show (y1 + (-1)) ≤ t by omega) (show (y1 + (-1)) = t ∨ f ≤ (y1 + (-1)) by omega) (show (y1 + (-1)) - f ≤ ((n4 - 1 : Nat) : Int) by omega)
  exact lp2_n4 (t - f).toNat t ht (show t ≤ t by omega) (show t = t ∨ f ≤ t by omega) (by omega)
abbrev Q_X1_blanksOn (h : Hp) (a : Nat) (f : Int) (t : Int) : Option V → Hp → Nat → Nat → Prop := RI (fun x H => h = H ∧ (f ≤ x) ∧ (x = f ∨ x ≤ t))
set_option maxRecDepth 100000 in
theorem ct_X1_blanksOn (l : Launch) (h : Hp) (hI : Inv h) (a : Nat) (ha : isB a = true) (f : Int) (hf : I32 f) (t : Int) (ht : I32 t) : Ct l D_X1_blanksOn 1 21 [.inr (.inr a), .inl f, .inl t] h (Q_X1_blanksOn h a f t) := by
  refine ct_of pn_X1_blanksOn (Nat.le_of_ble_eq_true rfl) ?_
  show To l E_X1_blanksOn (0, [(0, .inr (.inr a)), (1, .inl f), (2, .inl t)], [], h, 0, 0) _
  refine to_iload_n (dat dk_X1_blanksOn 0 rfl) rfl (to_istore_n (L' := [(0, .inr (.inr a)), (1, .inl f), (2, .inl t), (3, .inl f)]) (dat dk_X1_blanksOn 1 rfl) (by decide) rfl ?_)
  have lp2_n4 : ∀ (n4 : Nat) (y1 : Int), (I32 y1) → (f ≤ y1) → (y1 = f ∨ y1 ≤ t) → (t - y1 ≤ (n4 : Int)) → To l E_X1_blanksOn (2, [(0, .inr (.inr a)), (1, .inl f), (2, .inl t), (3, .inl y1)], [], h, 0, 0) (Q_X1_blanksOn h a f t) := by
    intro n4
    induction n4 using Nat.strongRecOn with
    | _ n4 ihn4 =>
    intro y1 ry1 c2 c3 c5
    refine to_iload_n (dat dk_X1_blanksOn 2 rfl) rfl (to_iload_n (dat dk_X1_blanksOn 3 rfl) rfl ?_)
    refine to_ige 24 (dat dk_X1_blanksOn 4 rfl) rfl ry1 ht (fun c6 => ?_) (fun c6 => ?_)
    · skip
      refine to_iload_n (dat dk_X1_blanksOn 12 rfl) rfl ?_
      exact to_iret rfl (dat dk_X1_blanksOn 13 rfl) (ri_mk ry1 ⟨rfl, (show f ≤ y1 by omega), (show y1 = f ∨ y1 ≤ t by omega)⟩)
    · skip
      refine to_aload_np (dat dk_X1_blanksOn 5 rfl) (hI.1.2.2.2 _ _ (hI.bty ha)).1 rfl (to_iload_n (dat dk_X1_blanksOn 6 rfl) rfl ?_)
      obtain ⟨x7, ex7⟩ : ∃ y : Int, h.2.2 a 1 = y := ⟨_, rfl⟩
      have rx7 := hI.blen ha
      rw [ex7] at rx7
      refine to_cI ca_c2_23 (dat dk_X1_blanksOn 7 rfl) (ct_X1_byteAt l h hI a ha y1 ry1) rfl ⟨_, _, rfl, (hI.bty ha)⟩ rfl (fun x8 h9 rx8 p10 => ?_)
      obtain ⟨rfl, p10_0⟩ := p10
      refine to_cI ca_c2_27 (dat dk_X1_blanksOn 8 rfl) (ct_X9_isBlank l h hI x8 rx8) rfl trivial rfl (fun x11 h12 rx11 p13 => ?_)
      obtain ⟨rfl, zx11⟩ := p13
      refine to_ifeq 24 (dat dk_X1_blanksOn 9 rfl) rfl rx11 (fun c14 => ?_) (fun c14 => ?_)
      · skip
        refine to_iload_n (dat dk_X1_blanksOn 12 rfl) rfl ?_
        exact to_iret rfl (dat dk_X1_blanksOn 13 rfl) (ri_mk ry1 ⟨rfl, (show f ≤ y1 by omega), (show y1 = f ∨ y1 ≤ t by omega)⟩)
      · skip
        refine to_iinc (L' := [(0, .inr (.inr a)), (1, .inl f), (2, .inl t), (3, .inl (y1 + 1))]) (dat dk_X1_blanksOn 10 rfl) rfl (by decide) rfl (to_goto (dat dk_X1_blanksOn 11 rfl) rfl ?_)
        exact ihn4 (n4 - 1) (by omega) (y1 + 1) (by omega) (show f ≤ (y1 + 1) by omega) (show (y1 + 1) = f ∨ (y1 + 1) ≤ t by omega) (show t - (y1 + 1) ≤ ((n4 - 1 : Nat) : Int) by omega)
  exact lp2_n4 (t - f).toNat f hf (show f ≤ f by omega) (show f = f ∨ f ≤ t by omega) (by omega)
abbrev Q_X1_seek (h : Hp) (a : Nat) (b : Int) (f : Int) (t : Int) : Option V → Hp → Nat → Nat → Prop := RI (fun x H => h = H ∧ (x = -1 ∨ (f ≤ x ∧ x < t)))
set_option maxRecDepth 100000 in
theorem ct_X1_seek (l : Launch) (h : Hp) (hI : Inv h) (a : Nat) (ha : isB a = true) (b : Int) (hb : I32 b) (f : Int) (hf : I32 f) (t : Int) (ht : I32 t) : Ct l D_X1_seek 1 21 [.inr (.inr a), .inl b, .inl f, .inl t] h (Q_X1_seek h a b f t) := by
  refine ct_of pn_X1_seek (Nat.le_of_ble_eq_true rfl) ?_
  show To l E_X1_seek (0, [(0, .inr (.inr a)), (1, .inl b), (2, .inl f), (3, .inl t)], [], h, 0, 0) _
  refine to_iload_n (dat dk_X1_seek 0 rfl) rfl (to_istore (L' := [(0, .inr (.inr a)), (1, .inl b), (2, .inl f), (3, .inl t), (4, .inl f)]) (dat dk_X1_seek 1 rfl) (by decide) rfl ?_)
  have lp3_n3 : ∀ (n3 : Nat) (y1 : Int), (I32 y1) → (f ≤ y1) → (t - y1 ≤ (n3 : Int)) → To l E_X1_seek (3, [(0, .inr (.inr a)), (1, .inl b), (2, .inl f), (3, .inl t), (4, .inl y1)], [], h, 0, 0) (Q_X1_seek h a b f t) := by
    intro n3
    induction n3 using Nat.strongRecOn with
    | _ n3 ihn3 =>
    intro y1 ry1 c2 c4
    refine to_iload (dat dk_X1_seek 2 rfl) rfl (to_iload_n (dat dk_X1_seek 3 rfl) rfl ?_)
    refine to_ige 28 (dat dk_X1_seek 4 rfl) rfl ry1 ht (fun c5 => ?_) (fun c5 => ?_)
    · skip
      refine to_iconst (dat dk_X1_seek 14 rfl) ?_
      exact to_iret rfl (dat dk_X1_seek 15 rfl) (ri_mk (by decide) ⟨rfl, (show (-1 : Int) = -1 ∨ (f ≤ (-1 : Int) ∧ (-1 : Int) < t) by omega)⟩)
    · skip
      refine to_aload_np (dat dk_X1_seek 5 rfl) (hI.1.2.2.2 _ _ (hI.bty ha)).1 rfl (to_iload (dat dk_X1_seek 6 rfl) rfl ?_)
      obtain ⟨x6, ex6⟩ : ∃ y : Int, h.2.2 a 1 = y := ⟨_, rfl⟩
      have rx6 := hI.blen ha
      rw [ex6] at rx6
      refine to_cI ca_c2_23 (dat dk_X1_seek 7 rfl) (ct_X1_byteAt l h hI a ha y1 ry1) rfl ⟨_, _, rfl, (hI.bty ha)⟩ rfl (fun x7 h8 rx7 p9 => ?_)
      obtain ⟨rfl, p9_0⟩ := p9
      refine to_iload_n (dat dk_X1_seek 8 rfl) rfl ?_
      refine to_ine 22 (dat dk_X1_seek 9 rfl) rfl rx7 hb (fun c10 => ?_) (fun c10 => ?_)
      · skip
        refine to_iinc (L' := [(0, .inr (.inr a)), (1, .inl b), (2, .inl f), (3, .inl t), (4, .inl (y1 + 1))]) (dat dk_X1_seek 12 rfl) rfl (by decide) rfl (to_goto (dat dk_X1_seek 13 rfl) rfl ?_)
        exact ihn3 (n3 - 1) (by omega) (y1 + 1) (by omega) (show f ≤ (y1 + 1) by omega) (show t - (y1 + 1) ≤ ((n3 - 1 : Nat) : Int) by omega)
      · skip
        refine to_iload (dat dk_X1_seek 10 rfl) rfl ?_
        exact to_iret rfl (dat dk_X1_seek 11 rfl) (ri_mk ry1 ⟨rfl, (show y1 = -1 ∨ (f ≤ y1 ∧ y1 < t) by omega)⟩)
  exact lp3_n3 (t - f).toNat f hf (show f ≤ f by omega) (by omega)
abbrev Q_X1_lineStop (h : Hp) (a : Nat) (f : Int) (t : Int) : Option V → Hp → Nat → Nat → Prop := RI (fun x H => h = H ∧ (f ≤ x) ∧ (x = f ∨ x ≤ t))
set_option maxRecDepth 100000 in
theorem ct_X1_lineStop (l : Launch) (h : Hp) (hI : Inv h) (a : Nat) (ha : isB a = true) (f : Int) (hf : I32 f) (t : Int) (ht : I32 t) : Ct l D_X1_lineStop 1 21 [.inr (.inr a), .inl f, .inl t] h (Q_X1_lineStop h a f t) := by
  refine ct_of pn_X1_lineStop (Nat.le_of_ble_eq_true rfl) ?_
  show To l E_X1_lineStop (0, [(0, .inr (.inr a)), (1, .inl f), (2, .inl t)], [], h, 0, 0) _
  refine to_iload_n (dat dk_X1_lineStop 0 rfl) rfl (to_istore_n (L' := [(0, .inr (.inr a)), (1, .inl f), (2, .inl t), (3, .inl f)]) (dat dk_X1_lineStop 1 rfl) (by decide) rfl ?_)
  have lp2_n4 : ∀ (n4 : Nat) (y1 : Int), (I32 y1) → (f ≤ y1) → (y1 = f ∨ y1 ≤ t) → (t - y1 ≤ (n4 : Int)) → To l E_X1_lineStop (2, [(0, .inr (.inr a)), (1, .inl f), (2, .inl t), (3, .inl y1)], [], h, 0, 0) (Q_X1_lineStop h a f t) := by
    intro n4
    induction n4 using Nat.strongRecOn with
    | _ n4 ihn4 =>
    intro y1 ry1 c2 c3 c5
    refine to_iload_n (dat dk_X1_lineStop 2 rfl) rfl (to_iload_n (dat dk_X1_lineStop 3 rfl) rfl ?_)
    refine to_ige 23 (dat dk_X1_lineStop 4 rfl) rfl ry1 ht (fun c6 => ?_) (fun c6 => ?_)
    · skip
      refine to_iload_n (dat dk_X1_lineStop 12 rfl) rfl ?_
      exact to_iret rfl (dat dk_X1_lineStop 13 rfl) (ri_mk ry1 ⟨rfl, (show f ≤ y1 by omega), (show y1 = f ∨ y1 ≤ t by omega)⟩)
    · skip
      refine to_aload_np (dat dk_X1_lineStop 5 rfl) (hI.1.2.2.2 _ _ (hI.bty ha)).1 rfl (to_iload_n (dat dk_X1_lineStop 6 rfl) rfl ?_)
      obtain ⟨x7, ex7⟩ : ∃ y : Int, h.2.2 a 1 = y := ⟨_, rfl⟩
      have rx7 := hI.blen ha
      rw [ex7] at rx7
      refine to_cI ca_c2_23 (dat dk_X1_lineStop 7 rfl) (ct_X1_byteAt l h hI a ha y1 ry1) rfl ⟨_, _, rfl, (hI.bty ha)⟩ rfl (fun x8 h9 rx8 p10 => ?_)
      obtain ⟨rfl, p10_0⟩ := p10
      refine to_bipush (dat dk_X1_lineStop 8 rfl) (by decide) ?_
      refine to_ieq 23 (dat dk_X1_lineStop 9 rfl) rfl rx8 (by decide) (fun c11 => ?_) (fun c11 => ?_)
      · skip
        refine to_iload_n (dat dk_X1_lineStop 12 rfl) rfl ?_
        exact to_iret rfl (dat dk_X1_lineStop 13 rfl) (ri_mk ry1 ⟨rfl, (show f ≤ y1 by omega), (show y1 = f ∨ y1 ≤ t by omega)⟩)
      · skip
        refine to_iinc (L' := [(0, .inr (.inr a)), (1, .inl f), (2, .inl t), (3, .inl (y1 + 1))]) (dat dk_X1_lineStop 10 rfl) rfl (by decide) rfl (to_goto (dat dk_X1_lineStop 11 rfl) rfl ?_)
        exact ihn4 (n4 - 1) (by omega) (y1 + 1) (by omega) (show f ≤ (y1 + 1) by omega) (show (y1 + 1) = f ∨ (y1 + 1) ≤ t by omega) (show t - (y1 + 1) ≤ ((n4 - 1 : Nat) : Int) by omega)
  exact lp2_n4 (t - f).toNat f hf (show f ≤ f by omega) (show f = f ∨ f ≤ t by omega) (by omega)
abbrev Q_X1_lineEnd (h : Hp) (a : Nat) (f : Int) (s : Int) (t : Int) : Option V → Hp → Nat → Nat → Prop := RI (fun x H => h = H ∧ (x ≤ s) ∧ (x = s ∨ f ≤ x))
set_option maxRecDepth 100000 in
theorem ct_X1_lineEnd (l : Launch) (h : Hp) (hI : Inv h) (a : Nat) (ha : isB a = true) (f : Int) (hf : I32 f) (s : Int) (hs : I32 s) (t : Int) (ht : I32 t) : Ct l D_X1_lineEnd 1 21 [.inr (.inr a), .inl f, .inl s, .inl t] h (Q_X1_lineEnd h a f s t) := by
  refine ct_of pn_X1_lineEnd (Nat.le_of_ble_eq_true rfl) ?_
  show To l E_X1_lineEnd (0, [(0, .inr (.inr a)), (1, .inl f), (2, .inl s), (3, .inl t)], [], h, 0, 0) _
  refine to_iload_n (dat dk_X1_lineEnd 0 rfl) rfl (to_iload_n (dat dk_X1_lineEnd 1 rfl) rfl ?_)
  refine to_ige 28 (dat dk_X1_lineEnd 2 rfl) rfl hs ht (fun c1 => ?_) (fun c1 => ?_)
  · skip
    refine to_iload_n (dat dk_X1_lineEnd 17 rfl) rfl ?_
    exact to_iret rfl (dat dk_X1_lineEnd 18 rfl) (ri_mk hs ⟨rfl, (show s ≤ s by omega), (show s = s ∨ f ≤ s by omega)⟩)
  · skip
    refine to_iload_n (dat dk_X1_lineEnd 3 rfl) rfl (to_iload_n (dat dk_X1_lineEnd 4 rfl) rfl ?_)
    refine to_ile 28 (dat dk_X1_lineEnd 5 rfl) rfl hs hf (fun c2 => ?_) (fun c2 => ?_)
    · skip
      refine to_iload_n (dat dk_X1_lineEnd 17 rfl) rfl ?_
      exact to_iret rfl (dat dk_X1_lineEnd 18 rfl) (ri_mk hs ⟨rfl, (show s ≤ s by omega), (show s = s ∨ f ≤ s by omega)⟩)
    · skip
      refine to_aload_np (dat dk_X1_lineEnd 6 rfl) (hI.1.2.2.2 _ _ (hI.bty ha)).1 rfl (to_iload_n (dat dk_X1_lineEnd 7 rfl) rfl (to_iconst (dat dk_X1_lineEnd 8 rfl) (to_isub (dat dk_X1_lineEnd 9 rfl) ?_)))
      obtain ⟨x3, ex3⟩ : ∃ y : Int, h.2.2 a 1 = y := ⟨_, rfl⟩
      have rx3 := hI.blen ha
      rw [ex3] at rx3
      refine to_cI ca_c2_23 (dat dk_X1_lineEnd 10 rfl) (ct_X1_byteAt l h hI a ha (s - 1) (by omega)) rfl ⟨_, _, rfl, (hI.bty ha)⟩ rfl (fun x4 h5 rx4 p6 => ?_)
      obtain ⟨rfl, p6_0⟩ := p6
      refine to_bipush (dat dk_X1_lineEnd 11 rfl) (by decide) ?_
      refine to_ine 28 (dat dk_X1_lineEnd 12 rfl) rfl rx4 (by decide) (fun c7 => ?_) (fun c7 => ?_)
      · skip
        refine to_iload_n (dat dk_X1_lineEnd 17 rfl) rfl ?_
        exact to_iret rfl (dat dk_X1_lineEnd 18 rfl) (ri_mk hs ⟨rfl, (show s ≤ s by omega), (show s = s ∨ f ≤ s by omega)⟩)
      · skip
        refine to_iload_n (dat dk_X1_lineEnd 13 rfl) rfl (to_iconst (dat dk_X1_lineEnd 14 rfl) (to_isub (dat dk_X1_lineEnd 15 rfl) (to_goto (dat dk_X1_lineEnd 16 rfl) rfl ?_)))
        exact to_iret rfl (dat dk_X1_lineEnd 18 rfl) (ri_mk (by omega) ⟨rfl, (show (s - 1) ≤ s by omega), (show (s - 1) = s ∨ f ≤ (s - 1) by omega)⟩)
abbrev Q_X1_hasAt (h : Hp) (a : Nat) (f : Int) (t nt : Nat) (c : Int) : Option V → Hp → Nat → Nat → Prop := RI (fun x H => h = H ∧ (x = 0 ∨ x = 1))
set_option maxRecDepth 100000 in
theorem ct_X1_hasAt (l : Launch) (h : Hp) (hI : Inv h) (a : Nat) (ha : isB a = true) (f : Int) (hf : I32 f) (t nt : Nat) (ht : (t, nt) ∈ strL) (c : Int) (hc : c = 0 ∨ c = 1) : Ct l D_X1_hasAt 5 106 [.inr (.inr a), .inl f, .inr (.inr t), .inl c] h (Q_X1_hasAt h a f t nt c) := by
  refine ct_of pn_X1_hasAt (Nat.le_of_ble_eq_true rfl) ?_
  show To l E_X1_hasAt (0, [(0, .inr (.inr a)), (1, .inl f), (2, .inr (.inr t)), (3, .inl c)], [], h, 0, 0) _
  have lt := str_n ht
  refine to_iconst (dat dk_X1_hasAt 0 rfl) (to_istore (L' := [(0, .inr (.inr a)), (1, .inl f), (2, .inr (.inr t)), (3, .inl c), (4, .inl 0)]) (dat dk_X1_hasAt 1 rfl) (by decide) rfl ?_)
  have lp3_n3 : ∀ (n3 : Nat) (y1 : Int), (I32 y1) → (0 ≤ y1) → ((nt : Int) - y1 ≤ (n3 : Int)) → To l E_X1_hasAt (3, [(0, .inr (.inr a)), (1, .inl f), (2, .inr (.inr t)), (3, .inl c), (4, .inl y1)], [], h, 0, 0) (Q_X1_hasAt h a f t nt c) := by
    intro n3
    induction n3 using Nat.strongRecOn with
    | _ n3 ihn3 =>
    intro y1 ry1 c2 c4
    refine to_iload (dat dk_X1_hasAt 2 rfl) rfl (to_aload_np (dat dk_X1_hasAt 3 rfl) (str_pos ht) rfl ?_)
    refine to_cI ca_c2_33 (dat dk_X1_hasAt 4 rfl) (ct_J0_length_8abf5 l h hI t nt ht) rfl (recvS ht) rfl (fun x5 h6 rx5 p7 => ?_)
    obtain ⟨rfl, p7_0⟩ := p7
    refine to_ige 53 (dat dk_X1_hasAt 5 rfl) rfl ry1 rx5 (fun c8 => ?_) (fun c8 => ?_)
    · skip
      refine to_iconst (dat dk_X1_hasAt 26 rfl) ?_
      exact to_zret rfl (dat dk_X1_hasAt 27 rfl) (by decide) (ri_mk (by decide) ⟨rfl, (by decide)⟩)
    · skip
      refine to_aload_np (dat dk_X1_hasAt 6 rfl) (hI.1.2.2.2 _ _ (hI.bty ha)).1 rfl (to_iload_n (dat dk_X1_hasAt 7 rfl) rfl (to_iload (dat dk_X1_hasAt 8 rfl) rfl ?_))
      refine to_iaddA (dat dk_X1_hasAt 9 rfl) (fun x9 rx9 => ?_)
      obtain ⟨x10, ex10⟩ : ∃ y : Int, h.2.2 a 1 = y := ⟨_, rfl⟩
      have rx10 := hI.blen ha
      rw [ex10] at rx10
      refine to_cI ca_c2_23 (dat dk_X1_hasAt 10 rfl) (ct_X1_byteAt l h hI a ha x9 rx9) rfl ⟨_, _, rfl, (hI.bty ha)⟩ rfl (fun x11 h12 rx11 p13 => ?_)
      obtain ⟨rfl, p13_0⟩ := p13
      refine to_istore (L' := [(0, .inr (.inr a)), (1, .inl f), (2, .inr (.inr t)), (3, .inl c), (4, .inl y1), (5, .inl x11)]) (dat dk_X1_hasAt 11 rfl) (by decide) rfl (to_iload_n (dat dk_X1_hasAt 12 rfl) rfl ?_)
      refine to_ifeq 34 (dat dk_X1_hasAt 13 rfl) rfl (by omega) (fun c14 => ?_) (fun c14 => ?_)
      · skip
        refine to_iload (dat dk_X1_hasAt 17 rfl) rfl (to_aload_np (dat dk_X1_hasAt 18 rfl) (str_pos ht) rfl (to_iload (dat dk_X1_hasAt 19 rfl) rfl ?_))
        refine to_cI ca_c2_41 (dat dk_X1_hasAt 20 rfl) (ct_J0_charAt_5068e l h hI t nt ht y1 ry1 (show 0 ≤ y1 ∧ y1 < (nt : Int) by omega)) rfl (recvS ht) rfl (fun x15 h16 rx15 p17 => ?_)
        obtain ⟨rfl, p17_0⟩ := p17
        refine to_ieq 47 (dat dk_X1_hasAt 21 rfl) rfl rx11 rx15 (fun c18 => ?_) (fun c18 => ?_)
        · skip
          refine to_iinc (L' := [(0, .inr (.inr a)), (1, .inl f), (2, .inr (.inr t)), (3, .inl c), (4, .inl (y1 + 1)), (5, .inl x11)]) (dat dk_X1_hasAt 24 rfl) rfl (by decide) rfl (to_goto (dat dk_X1_hasAt 25 rfl) rfl ?_)
          refine to_pick [0, 1, 2, 3, 4] rfl ?_
          exact ihn3 (n3 - 1) (by omega) (y1 + 1) (by omega) (show 0 ≤ (y1 + 1) by omega) (show (nt : Int) - (y1 + 1) ≤ ((n3 - 1 : Nat) : Int) by omega)
        · skip
          refine to_iconst (dat dk_X1_hasAt 22 rfl) ?_
          exact to_zret rfl (dat dk_X1_hasAt 23 rfl) (by decide) (ri_mk (by decide) ⟨rfl, (by decide)⟩)
      · skip
        refine to_iload (dat dk_X1_hasAt 14 rfl) rfl ?_
        refine to_cI ca_c2_38 (dat dk_X1_hasAt 15 rfl) (ct_X9_small l h hI x11 rx11) rfl trivial rfl (fun x19 h20 rx19 p21 => ?_)
        subst p21
        refine to_goto (dat dk_X1_hasAt 16 rfl) rfl (to_aload_np (dat dk_X1_hasAt 18 rfl) (str_pos ht) rfl (to_iload (dat dk_X1_hasAt 19 rfl) rfl ?_))
        refine to_cI ca_c2_41 (dat dk_X1_hasAt 20 rfl) (ct_J0_charAt_5068e l h hI t nt ht y1 ry1 (show 0 ≤ y1 ∧ y1 < (nt : Int) by omega)) rfl (recvS ht) rfl (fun x22 h23 rx22 p24 => ?_)
        obtain ⟨rfl, p24_0⟩ := p24
        refine to_ieq 47 (dat dk_X1_hasAt 21 rfl) rfl rx19 rx22 (fun c25 => ?_) (fun c25 => ?_)
        · skip
          refine to_iinc (L' := [(0, .inr (.inr a)), (1, .inl f), (2, .inr (.inr t)), (3, .inl c), (4, .inl (y1 + 1)), (5, .inl x11)]) (dat dk_X1_hasAt 24 rfl) rfl (by decide) rfl (to_goto (dat dk_X1_hasAt 25 rfl) rfl ?_)
          refine to_pick [0, 1, 2, 3, 4] rfl ?_
          exact ihn3 (n3 - 1) (by omega) (y1 + 1) (by omega) (show 0 ≤ (y1 + 1) by omega) (show (nt : Int) - (y1 + 1) ≤ ((n3 - 1 : Nat) : Int) by omega)
        · skip
          refine to_iconst (dat dk_X1_hasAt 22 rfl) ?_
          exact to_zret rfl (dat dk_X1_hasAt 23 rfl) (by decide) (ri_mk (by decide) ⟨rfl, (by decide)⟩)
  exact lp3_n3 ((nt : Int) - (0 : Int)).toNat 0 (by decide) (show 0 ≤ (0 : Int) by omega) (by omega)
abbrev Q_X1_is (h : Hp) (a : Nat) (f : Int) (g : Int) (t nt : Nat) (c : Int) : Option V → Hp → Nat → Nat → Prop := RI (fun x H => h = H ∧ (x = 0 ∨ x = 1))
set_option maxRecDepth 100000 in
theorem ct_X1_is (l : Launch) (h : Hp) (hI : Inv h) (a : Nat) (ha : isB a = true) (f : Int) (hf : I32 f) (g : Int) (hg : I32 g) (t nt : Nat) (ht : (t, nt) ∈ strL) (c : Int) (hc : c = 0 ∨ c = 1) : Ct l D_X1_is 6 131 [.inr (.inr a), .inl f, .inl g, .inr (.inr t), .inl c] h (Q_X1_is h a f g t nt c) := by
  refine ct_of pn_X1_is (Nat.le_of_ble_eq_true rfl) ?_
  show To l E_X1_is (0, [(0, .inr (.inr a)), (1, .inl f), (2, .inl g), (3, .inr (.inr t)), (4, .inl c)], [], h, 0, 0) _
  have lt := str_n ht
  refine to_iload_n (dat dk_X1_is 0 rfl) rfl (to_iload_n (dat dk_X1_is 1 rfl) rfl ?_)
  refine to_isubA (dat dk_X1_is 2 rfl) (fun x1 rx1 => ?_)
  refine to_aload_np (dat dk_X1_is 3 rfl) (str_pos ht) rfl ?_
  refine to_cI ca_c2_33 (dat dk_X1_is 4 rfl) (ct_J0_length_8abf5 l h hI t nt ht) rfl (recvS ht) rfl (fun x2 h3 rx2 p4 => ?_)
  obtain ⟨rfl, p4_0⟩ := p4
  refine to_ine 25 (dat dk_X1_is 5 rfl) rfl rx1 rx2 (fun c5 => ?_) (fun c5 => ?_)
  · skip
    refine to_iconst (dat dk_X1_is 14 rfl) ?_
    exact to_zret rfl (dat dk_X1_is 15 rfl) (by decide) (ri_mk (by decide) ⟨rfl, (by decide)⟩)
  · skip
    refine to_aload_np (dat dk_X1_is 6 rfl) (hI.1.2.2.2 _ _ (hI.bty ha)).1 rfl (to_iload_n (dat dk_X1_is 7 rfl) rfl (to_aload_np (dat dk_X1_is 8 rfl) (str_pos ht) rfl (to_iload (dat dk_X1_is 9 rfl) rfl ?_)))
    refine to_cI ca_c2_45 (dat dk_X1_is 10 rfl) (ct_X1_hasAt l h hI a ha f hf t nt ht c (by omega)) rfl ⟨_, _, rfl, (hI.bty ha)⟩ rfl (fun x6 h7 rx6 p8 => ?_)
    obtain ⟨rfl, zx6⟩ := p8
    refine to_ifeq 25 (dat dk_X1_is 11 rfl) rfl rx6 (fun c9 => ?_) (fun c9 => ?_)
    · skip
      refine to_iconst (dat dk_X1_is 14 rfl) ?_
      exact to_zret rfl (dat dk_X1_is 15 rfl) (by decide) (ri_mk (by decide) ⟨rfl, (by decide)⟩)
    · skip
      refine to_iconst (dat dk_X1_is 12 rfl) (to_goto (dat dk_X1_is 13 rfl) rfl ?_)
      exact to_zret rfl (dat dk_X1_is 15 rfl) (by decide) (ri_mk (by decide) ⟨rfl, (by decide)⟩)
abbrev Q_X1_numberIn (h : Hp) (a : Nat) (f : Int) (t : Int) : Option V → Hp → Nat → Nat → Prop := RI (fun x H => h = H)
set_option maxRecDepth 100000 in
theorem ct_X1_numberIn (l : Launch) (h : Hp) (hI : Inv h) (a : Nat) (ha : isB a = true) (f : Int) (hf : I32 f) (t : Int) (ht : I32 t) : Ct l D_X1_numberIn 1 21 [.inr (.inr a), .inl f, .inl t] h (Q_X1_numberIn h a f t) := by
  refine ct_of pn_X1_numberIn (Nat.le_of_ble_eq_true rfl) ?_
  show To l E_X1_numberIn (0, [(0, .inr (.inr a)), (1, .inl f), (2, .inl t)], [], h, 0, 0) _
  refine to_iload_n (dat dk_X1_numberIn 0 rfl) rfl (to_iload_n (dat dk_X1_numberIn 1 rfl) rfl ?_)
  refine to_isubA (dat dk_X1_numberIn 2 rfl) (fun x1 rx1 => ?_)
  refine to_iconst (dat dk_X1_numberIn 3 rfl) ?_
  refine to_ilt 15 (dat dk_X1_numberIn 4 rfl) rfl rx1 (by decide) (fun c2 => ?_) (fun c2 => ?_)
  · skip
    refine to_iconst (dat dk_X1_numberIn 10 rfl) ?_
    exact to_iret rfl (dat dk_X1_numberIn 11 rfl) (ri_mk (by decide) rfl)
  · skip
    refine to_iload_n (dat dk_X1_numberIn 5 rfl) rfl (to_iload_n (dat dk_X1_numberIn 6 rfl) rfl ?_)
    refine to_isubA (dat dk_X1_numberIn 7 rfl) (fun x3 rx3 => ?_)
    refine to_bipush (dat dk_X1_numberIn 8 rfl) (by decide) ?_
    refine to_ile 17 (dat dk_X1_numberIn 9 rfl) rfl rx3 (by decide) (fun c4 => ?_) (fun c4 => ?_)
    · skip
      refine to_iconst (dat dk_X1_numberIn 12 rfl) (to_istore_n (L' := [(0, .inr (.inr a)), (1, .inl f), (2, .inl t), (3, .inl 0)]) (dat dk_X1_numberIn 13 rfl) (by decide) rfl (to_iload_n (dat dk_X1_numberIn 14 rfl) rfl (to_istore (L' := [(0, .inr (.inr a)), (1, .inl f), (2, .inl t), (3, .inl 0), (4, .inl f)]) (dat dk_X1_numberIn 15 rfl) (by decide) rfl ?_)))
      have lp22_n7 : ∀ (n7 : Nat) (y5 : Int) (y6 : Int), (I32 y5) → (I32 y6) → (t - y6 ≤ (n7 : Int)) → To l E_X1_numberIn (22, [(0, .inr (.inr a)), (1, .inl f), (2, .inl t), (3, .inl y5), (4, .inl y6)], [], h, 0, 0) (Q_X1_numberIn h a f t) := by
        intro n7
        induction n7 using Nat.strongRecOn with
        | _ n7 ihn7 =>
        intro y5 y6 ry5 ry6 c8
        refine to_iload (dat dk_X1_numberIn 16 rfl) rfl (to_iload_n (dat dk_X1_numberIn 17 rfl) rfl ?_)
        refine to_ige 63 (dat dk_X1_numberIn 18 rfl) rfl ry6 ht (fun c9 => ?_) (fun c9 => ?_)
        · skip
          refine to_iload_n (dat dk_X1_numberIn 38 rfl) rfl ?_
          exact to_iret rfl (dat dk_X1_numberIn 39 rfl) (ri_mk ry5 rfl)
        · skip
          refine to_aload_np (dat dk_X1_numberIn 19 rfl) (hI.1.2.2.2 _ _ (hI.bty ha)).1 rfl (to_iload (dat dk_X1_numberIn 20 rfl) rfl ?_)
          obtain ⟨x10, ex10⟩ : ∃ y : Int, h.2.2 a 1 = y := ⟨_, rfl⟩
          have rx10 := hI.blen ha
          rw [ex10] at rx10
          refine to_cI ca_c2_23 (dat dk_X1_numberIn 21 rfl) (ct_X1_byteAt l h hI a ha y6 ry6) rfl ⟨_, _, rfl, (hI.bty ha)⟩ rfl (fun x11 h12 rx11 p13 => ?_)
          obtain ⟨rfl, p13_0⟩ := p13
          refine to_cI ca_c2_49 (dat dk_X1_numberIn 22 rfl) (ct_X9_isDigit l h hI x11 rx11) rfl trivial rfl (fun x14 h15 rx14 p16 => ?_)
          obtain ⟨rfl, zx14⟩ := p16
          refine to_ifne 42 (dat dk_X1_numberIn 23 rfl) rfl rx14 (fun c17 => ?_) (fun c17 => ?_)
          · skip
            refine to_iload_n (dat dk_X1_numberIn 26 rfl) rfl (to_bipush (dat dk_X1_numberIn 27 rfl) (by decide) ?_)
            refine to_imulA (dat dk_X1_numberIn 28 rfl) (fun x18 rx18 => ?_)
            refine to_aload_np (dat dk_X1_numberIn 29 rfl) (hI.1.2.2.2 _ _ (hI.bty ha)).1 rfl (to_iload (dat dk_X1_numberIn 30 rfl) rfl ?_)
            refine to_cI ca_c2_23 (dat dk_X1_numberIn 31 rfl) (ct_X1_byteAt l h hI a ha y6 ry6) rfl ⟨_, _, rfl, (hI.bty ha)⟩ rfl (fun x19 h20 rx19 p21 => ?_)
            obtain ⟨rfl, p21_0⟩ := p21
            refine to_iaddA (dat dk_X1_numberIn 32 rfl) (fun x22 rx22 => ?_)
            refine to_bipush (dat dk_X1_numberIn 33 rfl) (by decide) ?_
            refine to_isubA (dat dk_X1_numberIn 34 rfl) (fun x23 rx23 => ?_)
            refine to_istore_n (L' := [(0, .inr (.inr a)), (1, .inl f), (2, .inl t), (3, .inl x23), (4, .inl y6)]) (dat dk_X1_numberIn 35 rfl) (by decide) rfl (to_iinc (L' := [(0, .inr (.inr a)), (1, .inl f), (2, .inl t), (3, .inl x23), (4, .inl (y6 + 1))]) (dat dk_X1_numberIn 36 rfl) rfl (by decide) rfl (to_goto (dat dk_X1_numberIn 37 rfl) rfl ?_))
            exact ihn7 (n7 - 1) (by omega) x23 (y6 + 1) rx23 (by omega) (show t - (y6 + 1) ≤ ((n7 - 1 : Nat) : Int) by omega)
          · skip
            refine to_iconst (dat dk_X1_numberIn 24 rfl) ?_
            exact to_iret rfl (dat dk_X1_numberIn 25 rfl) (ri_mk (by decide) rfl)
      exact lp22_n7 (t - f).toNat 0 f (by decide) hf (by omega)
    · skip
      refine to_iconst (dat dk_X1_numberIn 10 rfl) ?_
      exact to_iret rfl (dat dk_X1_numberIn 11 rfl) (ri_mk (by decide) rfl)
abbrev Q_X1_nextWord (h : Hp) (a : Nat) (f : Int) (t : Int) (w : Nat) : Option V → Hp → Nat → Nat → Prop := RI (fun x H => Inv H ∧ Fr [w] h H ∧ (f ≤ x) ∧ (x = f ∨ x ≤ t) ∧ (H.2.2 w 1 ≤ x - f))
set_option maxRecDepth 100000 in
theorem ct_X1_nextWord (l : Launch) (h : Hp) (hI : Inv h) (a : Nat) (ha : isB a = true) (f : Int) (hf : I32 f) (t : Int) (ht : I32 t) (w : Nat) (hw : isB w = true) : Ct l D_X1_nextWord 2 40 [.inr (.inr a), .inl f, .inl t, .inr (.inr w)] h (Q_X1_nextWord h a f t w) := by
  refine ct_of pn_X1_nextWord (Nat.le_of_ble_eq_true rfl) ?_
  show To l E_X1_nextWord (0, [(0, .inr (.inr a)), (1, .inl f), (2, .inl t), (3, .inr (.inr w))], [], h, 0, 0) _
  refine to_aload_np (dat dk_X1_nextWord 0 rfl) (hI.1.2.2.2 _ _ (hI.bty hw)).1 rfl ?_
  refine to_cV ca_c2_52 (dat dk_X1_nextWord 1 rfl) (ct_X1_clear l h hI w hw) rfl ⟨_, _, rfl, (hI.bty hw)⟩ rfl (fun h2 p3 => ?_)
  obtain ⟨Ih2, fh2, p3_0⟩ := p3
  have f4 : Fr [w] h h2 := Fr.sub (Fr.rf _ _) fh2 (sub_self _)
  refine to_iload_n (dat dk_X1_nextWord 2 rfl) rfl (to_istore (L' := [(0, .inr (.inr a)), (1, .inl f), (2, .inl t), (3, .inr (.inr w)), (4, .inl f)]) (dat dk_X1_nextWord 3 rfl) (by decide) rfl ?_)
  have lp7_n9 : ∀ (n9 : Nat) (y5 : Int), (I32 y5) → (f ≤ y5) → (y5 = f ∨ y5 ≤ t) → (h2.2.2 w 1 = 0) → (t - y5 ≤ (n9 : Int)) → To l E_X1_nextWord (7, [(0, .inr (.inr a)), (1, .inl f), (2, .inl t), (3, .inr (.inr w)), (4, .inl y5)], [], h2, 0, 0) (Q_X1_nextWord h a f t w) := by
    intro n9
    induction n9 using Nat.strongRecOn with
    | _ n9 ihn9 =>
    intro y5 ry5 c6 c7 c8 c10
    refine to_iload (dat dk_X1_nextWord 4 rfl) rfl (to_iload_n (dat dk_X1_nextWord 5 rfl) rfl ?_)
    refine to_ige 31 (dat dk_X1_nextWord 6 rfl) rfl ry5 ht (fun c11 => ?_) (fun c11 => ?_)
    · skip
      have lp31_n17 : ∀ (n17 : Nat) (y12 : Int) (h13 : Hp), (I32 y12) → (Inv h13) → (Fr [w] h h13) → (f ≤ y12) → (y12 = f ∨ y12 ≤ t) → (h13.2.2 w 1 ≤ y12 - f) → (t - y12 ≤ (n17 : Int)) → To l E_X1_nextWord (31, [(0, .inr (.inr a)), (1, .inl f), (2, .inl t), (3, .inr (.inr w)), (4, .inl y12)], [], h13, 0, 0) (Q_X1_nextWord h a f t w) := by
        intro n17
        induction n17 using Nat.strongRecOn with
        | _ n17 ihn17 =>
        intro y12 h13 ry12 Ih13 fh13 c14 c15 c16 c18
        refine to_iload (dat dk_X1_nextWord 14 rfl) rfl (to_iload_n (dat dk_X1_nextWord 15 rfl) rfl ?_)
        refine to_ige 68 (dat dk_X1_nextWord 16 rfl) rfl ry12 ht (fun c19 => ?_) (fun c19 => ?_)
        · skip
          refine to_iload (dat dk_X1_nextWord 30 rfl) rfl ?_
          exact to_iret rfl (dat dk_X1_nextWord 31 rfl) (ri_mk ry12 ⟨Ih13, fh13, (show f ≤ y12 by omega), (show y12 = f ∨ y12 ≤ t by omega), (show h13.2.2 w 1 ≤ y12 - f by omega)⟩)
        · skip
          refine to_aload_np (dat dk_X1_nextWord 17 rfl) (Ih13.1.2.2.2 _ _ (Ih13.bty ha)).1 rfl (to_iload (dat dk_X1_nextWord 18 rfl) rfl ?_)
          obtain ⟨x20, ex20⟩ : ∃ y : Int, h13.2.2 a 1 = y := ⟨_, rfl⟩
          have rx20 := Ih13.blen ha
          rw [ex20] at rx20
          refine to_cI ca_c2_23 (dat dk_X1_nextWord 19 rfl) (ct_X1_byteAt l h13 Ih13 a ha y12 ry12) rfl ⟨_, _, rfl, (Ih13.bty ha)⟩ rfl (fun x21 h22 rx21 p23 => ?_)
          obtain ⟨rfl, p23_0⟩ := p23
          refine to_cI ca_c2_55 (dat dk_X1_nextWord 20 rfl) (ct_X9_isOfWord l h13 Ih13 x21 rx21) rfl trivial rfl (fun x24 h25 rx24 p26 => ?_)
          obtain ⟨rfl, zx24⟩ := p26
          refine to_ifeq 68 (dat dk_X1_nextWord 21 rfl) rfl rx24 (fun c27 => ?_) (fun c27 => ?_)
          · skip
            refine to_iload (dat dk_X1_nextWord 30 rfl) rfl ?_
            exact to_iret rfl (dat dk_X1_nextWord 31 rfl) (ri_mk ry12 ⟨Ih13, fh13, (show f ≤ y12 by omega), (show y12 = f ∨ y12 ≤ t by omega), (show h13.2.2 w 1 ≤ y12 - f by omega)⟩)
          · skip
            refine to_aload_np (dat dk_X1_nextWord 22 rfl) (Ih13.1.2.2.2 _ _ (Ih13.bty hw)).1 rfl (to_aload_np (dat dk_X1_nextWord 23 rfl) (Ih13.1.2.2.2 _ _ (Ih13.bty ha)).1 rfl (to_iload (dat dk_X1_nextWord 24 rfl) rfl ?_))
            refine to_cI ca_c2_23 (dat dk_X1_nextWord 25 rfl) (ct_X1_byteAt l h13 Ih13 a ha y12 ry12) rfl ⟨_, _, rfl, (Ih13.bty ha)⟩ rfl (fun x28 h29 rx28 p30 => ?_)
            obtain ⟨rfl, p30_0⟩ := p30
            refine to_cI ca_c2_38 (dat dk_X1_nextWord 26 rfl) (ct_X9_small l h13 Ih13 x28 rx28) rfl trivial rfl (fun x31 h32 rx31 p33 => ?_)
            subst p33
            obtain ⟨x34, ex34⟩ : ∃ y : Int, h13.2.2 w 1 = y := ⟨_, rfl⟩
            have rx34 := Ih13.blen hw
            rw [ex34] at rx34
            refine to_cV ca_c2_19 (dat dk_X1_nextWord 27 rfl) (ct_X1_put l h13 Ih13 w hw x31 rx31) rfl ⟨_, _, rfl, (Ih13.bty hw)⟩ rfl (fun h36 p37 => ?_)
            obtain ⟨Ih36, fh36, p37_0⟩ := p37
            have f38 : Fr [w] h h36 := Fr.sub fh13 fh36 (sub_self _)
            refine to_iinc (L' := [(0, .inr (.inr a)), (1, .inl f), (2, .inl t), (3, .inr (.inr w)), (4, .inl (y12 + 1))]) (dat dk_X1_nextWord 28 rfl) rfl (by decide) rfl (to_goto (dat dk_X1_nextWord 29 rfl) rfl ?_)
            exact ihn17 (n17 - 1) (by omega) (y12 + 1) h36 (by omega) Ih36 f38 (show f ≤ (y12 + 1) by omega) (show (y12 + 1) = f ∨ (y12 + 1) ≤ t by omega) (show h36.2.2 w 1 ≤ (y12 + 1) - f by omega) (show t - (y12 + 1) ≤ ((n17 - 1 : Nat) : Int) by omega)
      exact lp31_n17 (t - y5).toNat y5 h2 ry5 Ih2 f4 (show f ≤ y5 by omega) (show y5 = f ∨ y5 ≤ t by omega) (show h2.2.2 w 1 ≤ y5 - f by omega) (by omega)
    · skip
      refine to_aload_np (dat dk_X1_nextWord 7 rfl) (Ih2.1.2.2.2 _ _ (Ih2.bty ha)).1 rfl (to_iload (dat dk_X1_nextWord 8 rfl) rfl ?_)
      obtain ⟨x39, ex39⟩ : ∃ y : Int, h2.2.2 a 1 = y := ⟨_, rfl⟩
      have rx39 := Ih2.blen ha
      rw [ex39] at rx39
      refine to_cI ca_c2_23 (dat dk_X1_nextWord 9 rfl) (ct_X1_byteAt l h2 Ih2 a ha y5 ry5) rfl ⟨_, _, rfl, (Ih2.bty ha)⟩ rfl (fun x40 h41 rx40 p42 => ?_)
      obtain ⟨rfl, p42_0⟩ := p42
      refine to_cI ca_c2_55 (dat dk_X1_nextWord 10 rfl) (ct_X9_isOfWord l h2 Ih2 x40 rx40) rfl trivial rfl (fun x43 h44 rx43 p45 => ?_)
      obtain ⟨rfl, zx43⟩ := p45
      refine to_ifne 31 (dat dk_X1_nextWord 11 rfl) rfl rx43 (fun c46 => ?_) (fun c46 => ?_)
      · skip
        have lp31_n52 : ∀ (n52 : Nat) (y47 : Int) (h48 : Hp), (I32 y47) → (Inv h48) → (Fr [w] h h48) → (f ≤ y47) → (y47 = f ∨ y47 ≤ t) → (h48.2.2 w 1 ≤ y47 - f) → (t - y47 ≤ (n52 : Int)) → To l E_X1_nextWord (31, [(0, .inr (.inr a)), (1, .inl f), (2, .inl t), (3, .inr (.inr w)), (4, .inl y47)], [], h48, 0, 0) (Q_X1_nextWord h a f t w) := by
          intro n52
          induction n52 using Nat.strongRecOn with
          | _ n52 ihn52 =>
          intro y47 h48 ry47 Ih48 fh48 c49 c50 c51 c53
          refine to_iload (dat dk_X1_nextWord 14 rfl) rfl (to_iload_n (dat dk_X1_nextWord 15 rfl) rfl ?_)
          refine to_ige 68 (dat dk_X1_nextWord 16 rfl) rfl ry47 ht (fun c54 => ?_) (fun c54 => ?_)
          · skip
            refine to_iload (dat dk_X1_nextWord 30 rfl) rfl ?_
            exact to_iret rfl (dat dk_X1_nextWord 31 rfl) (ri_mk ry47 ⟨Ih48, fh48, (show f ≤ y47 by omega), (show y47 = f ∨ y47 ≤ t by omega), (show h48.2.2 w 1 ≤ y47 - f by omega)⟩)
          · skip
            refine to_aload_np (dat dk_X1_nextWord 17 rfl) (Ih48.1.2.2.2 _ _ (Ih48.bty ha)).1 rfl (to_iload (dat dk_X1_nextWord 18 rfl) rfl ?_)
            obtain ⟨x55, ex55⟩ : ∃ y : Int, h48.2.2 a 1 = y := ⟨_, rfl⟩
            have rx55 := Ih48.blen ha
            rw [ex55] at rx55
            refine to_cI ca_c2_23 (dat dk_X1_nextWord 19 rfl) (ct_X1_byteAt l h48 Ih48 a ha y47 ry47) rfl ⟨_, _, rfl, (Ih48.bty ha)⟩ rfl (fun x56 h57 rx56 p58 => ?_)
            obtain ⟨rfl, p58_0⟩ := p58
            refine to_cI ca_c2_55 (dat dk_X1_nextWord 20 rfl) (ct_X9_isOfWord l h48 Ih48 x56 rx56) rfl trivial rfl (fun x59 h60 rx59 p61 => ?_)
            obtain ⟨rfl, zx59⟩ := p61
            refine to_ifeq 68 (dat dk_X1_nextWord 21 rfl) rfl rx59 (fun c62 => ?_) (fun c62 => ?_)
            · skip
              refine to_iload (dat dk_X1_nextWord 30 rfl) rfl ?_
              exact to_iret rfl (dat dk_X1_nextWord 31 rfl) (ri_mk ry47 ⟨Ih48, fh48, (show f ≤ y47 by omega), (show y47 = f ∨ y47 ≤ t by omega), (show h48.2.2 w 1 ≤ y47 - f by omega)⟩)
            · skip
              refine to_aload_np (dat dk_X1_nextWord 22 rfl) (Ih48.1.2.2.2 _ _ (Ih48.bty hw)).1 rfl (to_aload_np (dat dk_X1_nextWord 23 rfl) (Ih48.1.2.2.2 _ _ (Ih48.bty ha)).1 rfl (to_iload (dat dk_X1_nextWord 24 rfl) rfl ?_))
              refine to_cI ca_c2_23 (dat dk_X1_nextWord 25 rfl) (ct_X1_byteAt l h48 Ih48 a ha y47 ry47) rfl ⟨_, _, rfl, (Ih48.bty ha)⟩ rfl (fun x63 h64 rx63 p65 => ?_)
              obtain ⟨rfl, p65_0⟩ := p65
              refine to_cI ca_c2_38 (dat dk_X1_nextWord 26 rfl) (ct_X9_small l h48 Ih48 x63 rx63) rfl trivial rfl (fun x66 h67 rx66 p68 => ?_)
              subst p68
              obtain ⟨x69, ex69⟩ : ∃ y : Int, h48.2.2 w 1 = y := ⟨_, rfl⟩
              have rx69 := Ih48.blen hw
              rw [ex69] at rx69
              refine to_cV ca_c2_19 (dat dk_X1_nextWord 27 rfl) (ct_X1_put l h48 Ih48 w hw x66 rx66) rfl ⟨_, _, rfl, (Ih48.bty hw)⟩ rfl (fun h71 p72 => ?_)
              obtain ⟨Ih71, fh71, p72_0⟩ := p72
              have f73 : Fr [w] h h71 := Fr.sub fh48 fh71 (sub_self _)
              refine to_iinc (L' := [(0, .inr (.inr a)), (1, .inl f), (2, .inl t), (3, .inr (.inr w)), (4, .inl (y47 + 1))]) (dat dk_X1_nextWord 28 rfl) rfl (by decide) rfl (to_goto (dat dk_X1_nextWord 29 rfl) rfl ?_)
              exact ihn52 (n52 - 1) (by omega) (y47 + 1) h71 (by omega) Ih71 f73 (show f ≤ (y47 + 1) by omega) (show (y47 + 1) = f ∨ (y47 + 1) ≤ t by omega) (show h71.2.2 w 1 ≤ (y47 + 1) - f by omega) (show t - (y47 + 1) ≤ ((n52 - 1 : Nat) : Int) by omega)
        exact lp31_n52 (t - y5).toNat y5 h2 ry5 Ih2 f4 (show f ≤ y5 by omega) (show y5 = f ∨ y5 ≤ t by omega) (show h2.2.2 w 1 ≤ y5 - f by omega) (by omega)
      · skip
        refine to_iinc (L' := [(0, .inr (.inr a)), (1, .inl f), (2, .inl t), (3, .inr (.inr w)), (4, .inl (y5 + 1))]) (dat dk_X1_nextWord 12 rfl) rfl (by decide) rfl (to_goto (dat dk_X1_nextWord 13 rfl) rfl ?_)
        exact ihn9 (n9 - 1) (by omega) (y5 + 1) (by omega) (show f ≤ (y5 + 1) by omega) (show (y5 + 1) = f ∨ (y5 + 1) ≤ t by omega) (show h2.2.2 w 1 = 0 by omega) (show t - (y5 + 1) ≤ ((n9 - 1 : Nat) : Int) by omega)
  exact lp7_n9 (t - f).toNat f hf (show f ≤ f by omega) (show f = f ∨ f ≤ t by omega) (show h2.2.2 w 1 = 0 by omega) (by omega)
