/-! Contracts, by program. -/
abbrev Q_X9_isBlank (h : Hp) (b : Int) : Option V → Hp → Nat → Nat → Prop := RI (fun x H => H = h ∧ (x = 0 ∨ x = 1))
set_option maxRecDepth 100000 in
theorem ct_X9_isBlank (l : Launch) (h : Hp) (hI : Inv h) (b : Int) (hb : I32 b) : Ct l D_X9_isBlank 0 0 [.inl b] h (Q_X9_isBlank h b) := by
  refine ct_of pn_X9_isBlank (by decide) ?_
  show To l E_X9_isBlank (0, [(0, .inl b)], [], h, 0, 0) _
  refine to_iload_n (dat dk_X9_isBlank 0 rfl) rfl (to_bipush (dat dk_X9_isBlank 1 rfl) (by decide) ?_)
  refine to_ieq 12 (dat dk_X9_isBlank 2 rfl) rfl hb (by decide) (fun c1 => ?_) (fun c1 => ?_)
  · skip
    refine to_iconst (dat dk_X9_isBlank 6 rfl) (to_goto (dat dk_X9_isBlank 7 rfl) rfl ?_)
    exact to_zret rfl (dat dk_X9_isBlank 9 rfl) (by decide) (ri_mk (by decide) ⟨rfl, (by decide)⟩)
  · skip
    refine to_iload_n (dat dk_X9_isBlank 3 rfl) rfl (to_bipush (dat dk_X9_isBlank 4 rfl) (by decide) ?_)
    refine to_ine 16 (dat dk_X9_isBlank 5 rfl) rfl hb (by decide) (fun c2 => ?_) (fun c2 => ?_)
    · skip
      refine to_iconst (dat dk_X9_isBlank 8 rfl) ?_
      exact to_zret rfl (dat dk_X9_isBlank 9 rfl) (by decide) (ri_mk (by decide) ⟨rfl, (by decide)⟩)
    · skip
      refine to_iconst (dat dk_X9_isBlank 6 rfl) (to_goto (dat dk_X9_isBlank 7 rfl) rfl ?_)
      exact to_zret rfl (dat dk_X9_isBlank 9 rfl) (by decide) (ri_mk (by decide) ⟨rfl, (by decide)⟩)
abbrev Q_X9_isDigit (h : Hp) (b : Int) : Option V → Hp → Nat → Nat → Prop := RI (fun x H => H = h ∧ (x = 0 ∨ x = 1))
set_option maxRecDepth 100000 in
theorem ct_X9_isDigit (l : Launch) (h : Hp) (hI : Inv h) (b : Int) (hb : I32 b) : Ct l D_X9_isDigit 0 0 [.inl b] h (Q_X9_isDigit h b) := by
  refine ct_of pn_X9_isDigit (by decide) ?_
  show To l E_X9_isDigit (0, [(0, .inl b)], [], h, 0, 0) _
  refine to_iload_n (dat dk_X9_isDigit 0 rfl) rfl (to_bipush (dat dk_X9_isDigit 1 rfl) (by decide) ?_)
  refine to_ilt 16 (dat dk_X9_isDigit 2 rfl) rfl hb (by decide) (fun c1 => ?_) (fun c1 => ?_)
  · skip
    refine to_iconst (dat dk_X9_isDigit 8 rfl) ?_
    exact to_zret rfl (dat dk_X9_isDigit 9 rfl) (by decide) (ri_mk (by decide) ⟨rfl, (by decide)⟩)
  · skip
    refine to_iload_n (dat dk_X9_isDigit 3 rfl) rfl (to_bipush (dat dk_X9_isDigit 4 rfl) (by decide) ?_)
    refine to_igt 16 (dat dk_X9_isDigit 5 rfl) rfl hb (by decide) (fun c2 => ?_) (fun c2 => ?_)
    · skip
      refine to_iconst (dat dk_X9_isDigit 8 rfl) ?_
      exact to_zret rfl (dat dk_X9_isDigit 9 rfl) (by decide) (ri_mk (by decide) ⟨rfl, (by decide)⟩)
    · skip
      refine to_iconst (dat dk_X9_isDigit 6 rfl) (to_goto (dat dk_X9_isDigit 7 rfl) rfl ?_)
      exact to_zret rfl (dat dk_X9_isDigit 9 rfl) (by decide) (ri_mk (by decide) ⟨rfl, (by decide)⟩)
abbrev Q_X9_isLetter (h : Hp) (b : Int) : Option V → Hp → Nat → Nat → Prop := RI (fun x H => H = h ∧ (x = 0 ∨ x = 1))
set_option maxRecDepth 100000 in
theorem ct_X9_isLetter (l : Launch) (h : Hp) (hI : Inv h) (b : Int) (hb : I32 b) : Ct l D_X9_isLetter 0 0 [.inl b] h (Q_X9_isLetter h b) := by
  refine ct_of pn_X9_isLetter (by decide) ?_
  show To l E_X9_isLetter (0, [(0, .inl b)], [], h, 0, 0) _
  refine to_iload_n (dat dk_X9_isLetter 0 rfl) rfl (to_bipush (dat dk_X9_isLetter 1 rfl) (by decide) ?_)
  refine to_ilt 12 (dat dk_X9_isLetter 2 rfl) rfl hb (by decide) (fun c1 => ?_) (fun c1 => ?_)
  · skip
    refine to_iload_n (dat dk_X9_isLetter 6 rfl) rfl (to_bipush (dat dk_X9_isLetter 7 rfl) (by decide) ?_)
    refine to_ilt 28 (dat dk_X9_isLetter 8 rfl) rfl hb (by decide) (fun c2 => ?_) (fun c2 => ?_)
    · skip
      refine to_iconst (dat dk_X9_isLetter 14 rfl) ?_
      exact to_zret rfl (dat dk_X9_isLetter 15 rfl) (by decide) (ri_mk (by decide) ⟨rfl, (by decide)⟩)
    · skip
      refine to_iload_n (dat dk_X9_isLetter 9 rfl) rfl (to_bipush (dat dk_X9_isLetter 10 rfl) (by decide) ?_)
      refine to_igt 28 (dat dk_X9_isLetter 11 rfl) rfl hb (by decide) (fun c3 => ?_) (fun c3 => ?_)
      · skip
        refine to_iconst (dat dk_X9_isLetter 14 rfl) ?_
        exact to_zret rfl (dat dk_X9_isLetter 15 rfl) (by decide) (ri_mk (by decide) ⟨rfl, (by decide)⟩)
      · skip
        refine to_iconst (dat dk_X9_isLetter 12 rfl) (to_goto (dat dk_X9_isLetter 13 rfl) rfl ?_)
        exact to_zret rfl (dat dk_X9_isLetter 15 rfl) (by decide) (ri_mk (by decide) ⟨rfl, (by decide)⟩)
  · skip
    refine to_iload_n (dat dk_X9_isLetter 3 rfl) rfl (to_bipush (dat dk_X9_isLetter 4 rfl) (by decide) ?_)
    refine to_ile 24 (dat dk_X9_isLetter 5 rfl) rfl hb (by decide) (fun c4 => ?_) (fun c4 => ?_)
    · skip
      refine to_iconst (dat dk_X9_isLetter 12 rfl) (to_goto (dat dk_X9_isLetter 13 rfl) rfl ?_)
      exact to_zret rfl (dat dk_X9_isLetter 15 rfl) (by decide) (ri_mk (by decide) ⟨rfl, (by decide)⟩)
    · skip
      refine to_iload_n (dat dk_X9_isLetter 6 rfl) rfl (to_bipush (dat dk_X9_isLetter 7 rfl) (by decide) ?_)
      refine to_ilt 28 (dat dk_X9_isLetter 8 rfl) rfl hb (by decide) (fun c5 => ?_) (fun c5 => ?_)
      · skip
        refine to_iconst (dat dk_X9_isLetter 14 rfl) ?_
        exact to_zret rfl (dat dk_X9_isLetter 15 rfl) (by decide) (ri_mk (by decide) ⟨rfl, (by decide)⟩)
      · skip
        refine to_iload_n (dat dk_X9_isLetter 9 rfl) rfl (to_bipush (dat dk_X9_isLetter 10 rfl) (by decide) ?_)
        refine to_igt 28 (dat dk_X9_isLetter 11 rfl) rfl hb (by decide) (fun c6 => ?_) (fun c6 => ?_)
        · skip
          refine to_iconst (dat dk_X9_isLetter 14 rfl) ?_
          exact to_zret rfl (dat dk_X9_isLetter 15 rfl) (by decide) (ri_mk (by decide) ⟨rfl, (by decide)⟩)
        · skip
          refine to_iconst (dat dk_X9_isLetter 12 rfl) (to_goto (dat dk_X9_isLetter 13 rfl) rfl ?_)
          exact to_zret rfl (dat dk_X9_isLetter 15 rfl) (by decide) (ri_mk (by decide) ⟨rfl, (by decide)⟩)
abbrev Q_X9_isOfWord (h : Hp) (b : Int) : Option V → Hp → Nat → Nat → Prop := RI (fun x H => H = h ∧ (x = 0 ∨ x = 1))
set_option maxRecDepth 100000 in
theorem ct_X9_isOfWord (l : Launch) (h : Hp) (hI : Inv h) (b : Int) (hb : I32 b) : Ct l D_X9_isOfWord 1 20 [.inl b] h (Q_X9_isOfWord h b) := by
  refine ct_of pn_X9_isOfWord (by decide) ?_
  show To l E_X9_isOfWord (0, [(0, .inl b)], [], h, 0, 0) _
  refine to_iload_n (dat dk_X9_isOfWord 0 rfl) rfl ?_
  refine to_cI ca_c10_9 (dat dk_X9_isOfWord 1 rfl) (ct_X9_isLetter l h hI b hb) rfl trivial rfl (fun x1 h2 rx1 p3 => ?_)
  obtain ⟨rfl, zx1⟩ := p3
  refine to_ifne 21 (dat dk_X9_isOfWord 2 rfl) rfl rx1 (fun c4 => ?_) (fun c4 => ?_)
  · skip
    refine to_iconst (dat dk_X9_isOfWord 9 rfl) (to_goto (dat dk_X9_isOfWord 10 rfl) rfl ?_)
    exact to_zret rfl (dat dk_X9_isOfWord 12 rfl) (by decide) (ri_mk (by decide) ⟨rfl, (by decide)⟩)
  · skip
    refine to_iload_n (dat dk_X9_isOfWord 3 rfl) rfl ?_
    refine to_cI ca_c10_15 (dat dk_X9_isOfWord 4 rfl) (ct_X9_isDigit l h hI b hb) rfl trivial rfl (fun x5 h6 rx5 p7 => ?_)
    obtain ⟨rfl, zx5⟩ := p7
    refine to_ifne 21 (dat dk_X9_isOfWord 5 rfl) rfl rx5 (fun c8 => ?_) (fun c8 => ?_)
    · skip
      refine to_iconst (dat dk_X9_isOfWord 9 rfl) (to_goto (dat dk_X9_isOfWord 10 rfl) rfl ?_)
      exact to_zret rfl (dat dk_X9_isOfWord 12 rfl) (by decide) (ri_mk (by decide) ⟨rfl, (by decide)⟩)
    · skip
      refine to_iload_n (dat dk_X9_isOfWord 6 rfl) rfl (to_sipush (dat dk_X9_isOfWord 7 rfl) (by decide) ?_)
      refine to_ilt 25 (dat dk_X9_isOfWord 8 rfl) rfl hb (by decide) (fun c9 => ?_) (fun c9 => ?_)
      · skip
        refine to_iconst (dat dk_X9_isOfWord 11 rfl) ?_
        exact to_zret rfl (dat dk_X9_isOfWord 12 rfl) (by decide) (ri_mk (by decide) ⟨rfl, (by decide)⟩)
      · skip
        refine to_iconst (dat dk_X9_isOfWord 9 rfl) (to_goto (dat dk_X9_isOfWord 10 rfl) rfl ?_)
        exact to_zret rfl (dat dk_X9_isOfWord 12 rfl) (by decide) (ri_mk (by decide) ⟨rfl, (by decide)⟩)
abbrev Q_X9_isOfName (h : Hp) (b : Int) : Option V → Hp → Nat → Nat → Prop := RI (fun x H => H = h ∧ (x = 0 ∨ x = 1))
set_option maxRecDepth 100000 in
theorem ct_X9_isOfName (l : Launch) (h : Hp) (hI : Inv h) (b : Int) (hb : I32 b) : Ct l D_X9_isOfName 1 20 [.inl b] h (Q_X9_isOfName h b) := by
  refine ct_of pn_X9_isOfName (by decide) ?_
  show To l E_X9_isOfName (0, [(0, .inl b)], [], h, 0, 0) _
  refine to_iload_n (dat dk_X9_isOfName 0 rfl) rfl ?_
  refine to_cI ca_c10_9 (dat dk_X9_isOfName 1 rfl) (ct_X9_isLetter l h hI b hb) rfl trivial rfl (fun x1 h2 rx1 p3 => ?_)
  obtain ⟨rfl, zx1⟩ := p3
  refine to_ifne 20 (dat dk_X9_isOfName 2 rfl) rfl rx1 (fun c4 => ?_) (fun c4 => ?_)
  · skip
    refine to_iconst (dat dk_X9_isOfName 9 rfl) (to_goto (dat dk_X9_isOfName 10 rfl) rfl ?_)
    exact to_zret rfl (dat dk_X9_isOfName 12 rfl) (by decide) (ri_mk (by decide) ⟨rfl, (by decide)⟩)
  · skip
    refine to_iload_n (dat dk_X9_isOfName 3 rfl) rfl ?_
    refine to_cI ca_c10_15 (dat dk_X9_isOfName 4 rfl) (ct_X9_isDigit l h hI b hb) rfl trivial rfl (fun x5 h6 rx5 p7 => ?_)
    obtain ⟨rfl, zx5⟩ := p7
    refine to_ifne 20 (dat dk_X9_isOfName 5 rfl) rfl rx5 (fun c8 => ?_) (fun c8 => ?_)
    · skip
      refine to_iconst (dat dk_X9_isOfName 9 rfl) (to_goto (dat dk_X9_isOfName 10 rfl) rfl ?_)
      exact to_zret rfl (dat dk_X9_isOfName 12 rfl) (by decide) (ri_mk (by decide) ⟨rfl, (by decide)⟩)
    · skip
      refine to_iload_n (dat dk_X9_isOfName 6 rfl) rfl (to_bipush (dat dk_X9_isOfName 7 rfl) (by decide) ?_)
      refine to_ine 24 (dat dk_X9_isOfName 8 rfl) rfl hb (by decide) (fun c9 => ?_) (fun c9 => ?_)
      · skip
        refine to_iconst (dat dk_X9_isOfName 11 rfl) ?_
        exact to_zret rfl (dat dk_X9_isOfName 12 rfl) (by decide) (ri_mk (by decide) ⟨rfl, (by decide)⟩)
      · skip
        refine to_iconst (dat dk_X9_isOfName 9 rfl) (to_goto (dat dk_X9_isOfName 10 rfl) rfl ?_)
        exact to_zret rfl (dat dk_X9_isOfName 12 rfl) (by decide) (ri_mk (by decide) ⟨rfl, (by decide)⟩)
abbrev Q_X9_small (h : Hp) (b : Int) : Option V → Hp → Nat → Nat → Prop := RI (fun x H => H = h)
set_option maxRecDepth 100000 in
theorem ct_X9_small (l : Launch) (h : Hp) (hI : Inv h) (b : Int) (hb : I32 b) : Ct l D_X9_small 0 0 [.inl b] h (Q_X9_small h b) := by
  refine ct_of pn_X9_small (by decide) ?_
  show To l E_X9_small (0, [(0, .inl b)], [], h, 0, 0) _
  refine to_iload_n (dat dk_X9_small 0 rfl) rfl (to_bipush (dat dk_X9_small 1 rfl) (by decide) ?_)
  refine to_ilt 19 (dat dk_X9_small 2 rfl) rfl hb (by decide) (fun c1 => ?_) (fun c1 => ?_)
  · skip
    refine to_iload_n (dat dk_X9_small 10 rfl) rfl ?_
    exact to_iret rfl (dat dk_X9_small 11 rfl) (ri_mk hb rfl)
  · skip
    refine to_iload_n (dat dk_X9_small 3 rfl) rfl (to_bipush (dat dk_X9_small 4 rfl) (by decide) ?_)
    refine to_igt 19 (dat dk_X9_small 5 rfl) rfl hb (by decide) (fun c2 => ?_) (fun c2 => ?_)
    · skip
      refine to_iload_n (dat dk_X9_small 10 rfl) rfl ?_
      exact to_iret rfl (dat dk_X9_small 11 rfl) (ri_mk hb rfl)
    · skip
      refine to_iload_n (dat dk_X9_small 6 rfl) rfl (to_bipush (dat dk_X9_small 7 rfl) (by decide) (to_iadd (dat dk_X9_small 8 rfl) (to_goto (dat dk_X9_small 9 rfl) rfl ?_)))
      exact to_iret rfl (dat dk_X9_small 11 rfl) (ri_mk (by omega) rfl)
abbrev Q_X9_hexDigit (h : Hp) (b : Int) : Option V → Hp → Nat → Nat → Prop := RI (fun x H => H = h ∧ (b = -1 → x = -1) ∧ (-1 ≤ x ∧ x ≤ 15))
set_option maxRecDepth 100000 in
theorem ct_X9_hexDigit (l : Launch) (h : Hp) (hI : Inv h) (b : Int) (hb : I32 b) : Ct l D_X9_hexDigit 0 0 [.inl b] h (Q_X9_hexDigit h b) := by
  refine ct_of pn_X9_hexDigit (by decide) ?_
  show To l E_X9_hexDigit (0, [(0, .inl b)], [], h, 0, 0) _
  refine to_iload_n (dat dk_X9_hexDigit 0 rfl) rfl (to_bipush (dat dk_X9_hexDigit 1 rfl) (by decide) ?_)
  refine to_ilt 17 (dat dk_X9_hexDigit 2 rfl) rfl hb (by decide) (fun c1 => ?_) (fun c1 => ?_)
  · skip
    refine to_iload_n (dat dk_X9_hexDigit 10 rfl) rfl (to_bipush (dat dk_X9_hexDigit 11 rfl) (by decide) ?_)
    refine to_ilt 37 (dat dk_X9_hexDigit 12 rfl) rfl hb (by decide) (fun c2 => ?_) (fun c2 => ?_)
    · skip
      refine to_iload_n (dat dk_X9_hexDigit 22 rfl) rfl (to_bipush (dat dk_X9_hexDigit 23 rfl) (by decide) ?_)
      refine to_ilt 59 (dat dk_X9_hexDigit 24 rfl) rfl hb (by decide) (fun c3 => ?_) (fun c3 => ?_)
      · skip
        refine to_iconst (dat dk_X9_hexDigit 34 rfl) ?_
        exact to_iret rfl (dat dk_X9_hexDigit 35 rfl) (ri_mk (by decide) ⟨rfl, (show b = -1 → (-1 : Int) = -1 by omega), (show -1 ≤ (-1 : Int) ∧ (-1 : Int) ≤ 15 by omega)⟩)
      · skip
        refine to_iload_n (dat dk_X9_hexDigit 25 rfl) rfl (to_bipush (dat dk_X9_hexDigit 26 rfl) (by decide) ?_)
        refine to_igt 59 (dat dk_X9_hexDigit 27 rfl) rfl hb (by decide) (fun c4 => ?_) (fun c4 => ?_)
        · skip
          refine to_iconst (dat dk_X9_hexDigit 34 rfl) ?_
          exact to_iret rfl (dat dk_X9_hexDigit 35 rfl) (ri_mk (by decide) ⟨rfl, (show b = -1 → (-1 : Int) = -1 by omega), (show -1 ≤ (-1 : Int) ∧ (-1 : Int) ≤ 15 by omega)⟩)
        · skip
          refine to_iload_n (dat dk_X9_hexDigit 28 rfl) rfl (to_bipush (dat dk_X9_hexDigit 29 rfl) (by decide) (to_isub (dat dk_X9_hexDigit 30 rfl) (to_bipush (dat dk_X9_hexDigit 31 rfl) (by decide) (to_iadd (dat dk_X9_hexDigit 32 rfl) (to_goto (dat dk_X9_hexDigit 33 rfl) rfl ?_)))))
          exact to_iret rfl (dat dk_X9_hexDigit 35 rfl) (ri_mk (by omega) ⟨rfl, (show b = -1 → ((b - 97) + 10) = -1 by omega), (show -1 ≤ ((b - 97) + 10) ∧ ((b - 97) + 10) ≤ 15 by omega)⟩)
    · skip
      refine to_iload_n (dat dk_X9_hexDigit 13 rfl) rfl (to_bipush (dat dk_X9_hexDigit 14 rfl) (by decide) ?_)
      refine to_igt 37 (dat dk_X9_hexDigit 15 rfl) rfl hb (by decide) (fun c5 => ?_) (fun c5 => ?_)
      · skip
        refine to_iload_n (dat dk_X9_hexDigit 22 rfl) rfl (to_bipush (dat dk_X9_hexDigit 23 rfl) (by decide) ?_)
        refine to_ilt 59 (dat dk_X9_hexDigit 24 rfl) rfl hb (by decide) (fun c6 => ?_) (fun c6 => ?_)
        · skip
          refine to_iconst (dat dk_X9_hexDigit 34 rfl) ?_
          exact to_iret rfl (dat dk_X9_hexDigit 35 rfl) (ri_mk (by decide) ⟨rfl, (show b = -1 → (-1 : Int) = -1 by omega), (show -1 ≤ (-1 : Int) ∧ (-1 : Int) ≤ 15 by omega)⟩)
        · skip
          refine to_iload_n (dat dk_X9_hexDigit 25 rfl) rfl (to_bipush (dat dk_X9_hexDigit 26 rfl) (by decide) ?_)
          refine to_igt 59 (dat dk_X9_hexDigit 27 rfl) rfl hb (by decide) (fun c7 => ?_) (fun c7 => ?_)
          · skip
            refine to_iconst (dat dk_X9_hexDigit 34 rfl) ?_
            exact to_iret rfl (dat dk_X9_hexDigit 35 rfl) (ri_mk (by decide) ⟨rfl, (show b = -1 → (-1 : Int) = -1 by omega), (show -1 ≤ (-1 : Int) ∧ (-1 : Int) ≤ 15 by omega)⟩)
          · skip
            refine to_iload_n (dat dk_X9_hexDigit 28 rfl) rfl (to_bipush (dat dk_X9_hexDigit 29 rfl) (by decide) (to_isub (dat dk_X9_hexDigit 30 rfl) (to_bipush (dat dk_X9_hexDigit 31 rfl) (by decide) (to_iadd (dat dk_X9_hexDigit 32 rfl) (to_goto (dat dk_X9_hexDigit 33 rfl) rfl ?_)))))
            exact to_iret rfl (dat dk_X9_hexDigit 35 rfl) (ri_mk (by omega) ⟨rfl, (show b = -1 → ((b - 97) + 10) = -1 by omega), (show -1 ≤ ((b - 97) + 10) ∧ ((b - 97) + 10) ≤ 15 by omega)⟩)
      · skip
        refine to_iload_n (dat dk_X9_hexDigit 16 rfl) rfl (to_bipush (dat dk_X9_hexDigit 17 rfl) (by decide) (to_isub (dat dk_X9_hexDigit 18 rfl) (to_bipush (dat dk_X9_hexDigit 19 rfl) (by decide) (to_iadd (dat dk_X9_hexDigit 20 rfl) ?_))))
        exact to_iret rfl (dat dk_X9_hexDigit 21 rfl) (ri_mk (by omega) ⟨rfl, (show b = -1 → ((b - 65) + 10) = -1 by omega), (show -1 ≤ ((b - 65) + 10) ∧ ((b - 65) + 10) ≤ 15 by omega)⟩)
  · skip
    refine to_iload_n (dat dk_X9_hexDigit 3 rfl) rfl (to_bipush (dat dk_X9_hexDigit 4 rfl) (by decide) ?_)
    refine to_igt 17 (dat dk_X9_hexDigit 5 rfl) rfl hb (by decide) (fun c8 => ?_) (fun c8 => ?_)
    · skip
      refine to_iload_n (dat dk_X9_hexDigit 10 rfl) rfl (to_bipush (dat dk_X9_hexDigit 11 rfl) (by decide) ?_)
      refine to_ilt 37 (dat dk_X9_hexDigit 12 rfl) rfl hb (by decide) (fun c9 => ?_) (fun c9 => ?_)
      · skip
        refine to_iload_n (dat dk_X9_hexDigit 22 rfl) rfl (to_bipush (dat dk_X9_hexDigit 23 rfl) (by decide) ?_)
        refine to_ilt 59 (dat dk_X9_hexDigit 24 rfl) rfl hb (by decide) (fun c10 => ?_) (fun c10 => ?_)
        · skip
          refine to_iconst (dat dk_X9_hexDigit 34 rfl) ?_
          exact to_iret rfl (dat dk_X9_hexDigit 35 rfl) (ri_mk (by decide) ⟨rfl, (show b = -1 → (-1 : Int) = -1 by omega), (show -1 ≤ (-1 : Int) ∧ (-1 : Int) ≤ 15 by omega)⟩)
        · skip
          refine to_iload_n (dat dk_X9_hexDigit 25 rfl) rfl (to_bipush (dat dk_X9_hexDigit 26 rfl) (by decide) ?_)
          refine to_igt 59 (dat dk_X9_hexDigit 27 rfl) rfl hb (by decide) (fun c11 => ?_) (fun c11 => ?_)
          · skip
            refine to_iconst (dat dk_X9_hexDigit 34 rfl) ?_
            exact to_iret rfl (dat dk_X9_hexDigit 35 rfl) (ri_mk (by decide) ⟨rfl, (show b = -1 → (-1 : Int) = -1 by omega), (show -1 ≤ (-1 : Int) ∧ (-1 : Int) ≤ 15 by omega)⟩)
          · skip
            refine to_iload_n (dat dk_X9_hexDigit 28 rfl) rfl (to_bipush (dat dk_X9_hexDigit 29 rfl) (by decide) (to_isub (dat dk_X9_hexDigit 30 rfl) (to_bipush (dat dk_X9_hexDigit 31 rfl) (by decide) (to_iadd (dat dk_X9_hexDigit 32 rfl) (to_goto (dat dk_X9_hexDigit 33 rfl) rfl ?_)))))
            exact to_iret rfl (dat dk_X9_hexDigit 35 rfl) (ri_mk (by omega) ⟨rfl, (show b = -1 → ((b - 97) + 10) = -1 by omega), (show -1 ≤ ((b - 97) + 10) ∧ ((b - 97) + 10) ≤ 15 by omega)⟩)
      · skip
        refine to_iload_n (dat dk_X9_hexDigit 13 rfl) rfl (to_bipush (dat dk_X9_hexDigit 14 rfl) (by decide) ?_)
        refine to_igt 37 (dat dk_X9_hexDigit 15 rfl) rfl hb (by decide) (fun c12 => ?_) (fun c12 => ?_)
        · skip
          refine to_iload_n (dat dk_X9_hexDigit 22 rfl) rfl (to_bipush (dat dk_X9_hexDigit 23 rfl) (by decide) ?_)
          refine to_ilt 59 (dat dk_X9_hexDigit 24 rfl) rfl hb (by decide) (fun c13 => ?_) (fun c13 => ?_)
          · skip
            refine to_iconst (dat dk_X9_hexDigit 34 rfl) ?_
            exact to_iret rfl (dat dk_X9_hexDigit 35 rfl) (ri_mk (by decide) ⟨rfl, (show b = -1 → (-1 : Int) = -1 by omega), (show -1 ≤ (-1 : Int) ∧ (-1 : Int) ≤ 15 by omega)⟩)
          · skip
            refine to_iload_n (dat dk_X9_hexDigit 25 rfl) rfl (to_bipush (dat dk_X9_hexDigit 26 rfl) (by decide) ?_)
            refine to_igt 59 (dat dk_X9_hexDigit 27 rfl) rfl hb (by decide) (fun c14 => ?_) (fun c14 => ?_)
            · skip
              refine to_iconst (dat dk_X9_hexDigit 34 rfl) ?_
              exact to_iret rfl (dat dk_X9_hexDigit 35 rfl) (ri_mk (by decide) ⟨rfl, (show b = -1 → (-1 : Int) = -1 by omega), (show -1 ≤ (-1 : Int) ∧ (-1 : Int) ≤ 15 by omega)⟩)
            · skip
              refine to_iload_n (dat dk_X9_hexDigit 28 rfl) rfl (to_bipush (dat dk_X9_hexDigit 29 rfl) (by decide) (to_isub (dat dk_X9_hexDigit 30 rfl) (to_bipush (dat dk_X9_hexDigit 31 rfl) (by decide) (to_iadd (dat dk_X9_hexDigit 32 rfl) (to_goto (dat dk_X9_hexDigit 33 rfl) rfl ?_)))))
              exact to_iret rfl (dat dk_X9_hexDigit 35 rfl) (ri_mk (by omega) ⟨rfl, (show b = -1 → ((b - 97) + 10) = -1 by omega), (show -1 ≤ ((b - 97) + 10) ∧ ((b - 97) + 10) ≤ 15 by omega)⟩)
        · skip
          refine to_iload_n (dat dk_X9_hexDigit 16 rfl) rfl (to_bipush (dat dk_X9_hexDigit 17 rfl) (by decide) (to_isub (dat dk_X9_hexDigit 18 rfl) (to_bipush (dat dk_X9_hexDigit 19 rfl) (by decide) (to_iadd (dat dk_X9_hexDigit 20 rfl) ?_))))
          exact to_iret rfl (dat dk_X9_hexDigit 21 rfl) (ri_mk (by omega) ⟨rfl, (show b = -1 → ((b - 65) + 10) = -1 by omega), (show -1 ≤ ((b - 65) + 10) ∧ ((b - 65) + 10) ≤ 15 by omega)⟩)
    · skip
      refine to_iload_n (dat dk_X9_hexDigit 6 rfl) rfl (to_bipush (dat dk_X9_hexDigit 7 rfl) (by decide) (to_isub (dat dk_X9_hexDigit 8 rfl) ?_))
      exact to_iret rfl (dat dk_X9_hexDigit 9 rfl) (ri_mk (by omega) ⟨rfl, (show b = -1 → (b - 48) = -1 by omega), (show -1 ≤ (b - 48) ∧ (b - 48) ≤ 15 by omega)⟩)
abbrev Q_X9_base64Digit (h : Hp) (b : Int) : Option V → Hp → Nat → Nat → Prop := RI (fun x H => H = h)
set_option maxRecDepth 100000 in
theorem ct_X9_base64Digit (l : Launch) (h : Hp) (hI : Inv h) (b : Int) (hb : I32 b) : Ct l D_X9_base64Digit 1 20 [.inl b] h (Q_X9_base64Digit h b) := by
  refine ct_of pn_X9_base64Digit (by decide) ?_
  show To l E_X9_base64Digit (0, [(0, .inl b)], [], h, 0, 0) _
  refine to_iload_n (dat dk_X9_base64Digit 0 rfl) rfl ?_
  refine to_cI ca_c10_9 (dat dk_X9_base64Digit 1 rfl) (ct_X9_isLetter l h hI b hb) rfl trivial rfl (fun x1 h2 rx1 p3 => ?_)
  obtain ⟨rfl, zx1⟩ := p3
  refine to_ifeq 28 (dat dk_X9_base64Digit 2 rfl) rfl rx1 (fun c4 => ?_) (fun c4 => ?_)
  · skip
    refine to_iload_n (dat dk_X9_base64Digit 16 rfl) rfl ?_
    refine to_cI ca_c10_15 (dat dk_X9_base64Digit 17 rfl) (ct_X9_isDigit l h hI b hb) rfl trivial rfl (fun x5 h6 rx5 p7 => ?_)
    obtain ⟨rfl, zx5⟩ := p7
    refine to_ifeq 43 (dat dk_X9_base64Digit 18 rfl) rfl rx5 (fun c8 => ?_) (fun c8 => ?_)
    · skip
      refine to_iload_n (dat dk_X9_base64Digit 25 rfl) rfl (to_bipush (dat dk_X9_base64Digit 26 rfl) (by decide) ?_)
      refine to_ine 54 (dat dk_X9_base64Digit 27 rfl) rfl hb (by decide) (fun c9 => ?_) (fun c9 => ?_)
      · skip
        refine to_iload_n (dat dk_X9_base64Digit 30 rfl) rfl (to_bipush (dat dk_X9_base64Digit 31 rfl) (by decide) ?_)
        refine to_ine 65 (dat dk_X9_base64Digit 32 rfl) rfl hb (by decide) (fun c10 => ?_) (fun c10 => ?_)
        · skip
          refine to_iconst (dat dk_X9_base64Digit 35 rfl) ?_
          exact to_iret rfl (dat dk_X9_base64Digit 36 rfl) (ri_mk (by decide) rfl)
        · skip
          refine to_bipush (dat dk_X9_base64Digit 33 rfl) (by decide) (to_goto (dat dk_X9_base64Digit 34 rfl) rfl ?_)
          exact to_iret rfl (dat dk_X9_base64Digit 36 rfl) (ri_mk (by decide) rfl)
      · skip
        refine to_bipush (dat dk_X9_base64Digit 28 rfl) (by decide) (to_goto (dat dk_X9_base64Digit 29 rfl) rfl ?_)
        exact to_iret rfl (dat dk_X9_base64Digit 36 rfl) (ri_mk (by decide) rfl)
    · skip
      refine to_iload_n (dat dk_X9_base64Digit 19 rfl) rfl (to_bipush (dat dk_X9_base64Digit 20 rfl) (by decide) (to_isub (dat dk_X9_base64Digit 21 rfl) (to_bipush (dat dk_X9_base64Digit 22 rfl) (by decide) (to_iadd (dat dk_X9_base64Digit 23 rfl) ?_))))
      exact to_iret rfl (dat dk_X9_base64Digit 24 rfl) (ri_mk (by omega) rfl)
  · skip
    refine to_iload_n (dat dk_X9_base64Digit 3 rfl) rfl (to_bipush (dat dk_X9_base64Digit 4 rfl) (by decide) ?_)
    refine to_igt 20 (dat dk_X9_base64Digit 5 rfl) rfl hb (by decide) (fun c11 => ?_) (fun c11 => ?_)
    · skip
      refine to_iload_n (dat dk_X9_base64Digit 10 rfl) rfl (to_bipush (dat dk_X9_base64Digit 11 rfl) (by decide) (to_isub (dat dk_X9_base64Digit 12 rfl) (to_bipush (dat dk_X9_base64Digit 13 rfl) (by decide) (to_iadd (dat dk_X9_base64Digit 14 rfl) ?_))))
      exact to_iret rfl (dat dk_X9_base64Digit 15 rfl) (ri_mk (by omega) rfl)
    · skip
      refine to_iload_n (dat dk_X9_base64Digit 6 rfl) rfl (to_bipush (dat dk_X9_base64Digit 7 rfl) (by decide) (to_isub (dat dk_X9_base64Digit 8 rfl) (to_goto (dat dk_X9_base64Digit 9 rfl) rfl ?_)))
      exact to_iret rfl (dat dk_X9_base64Digit 15 rfl) (ri_mk (by omega) rfl)
abbrev Q_X1_size (h : Hp) (a : Nat) : Option V → Hp → Nat → Nat → Prop := RI (fun x H => H = h ∧ (x = H.2.2 a 1))
set_option maxRecDepth 100000 in
theorem ct_X1_size (l : Launch) (h : Hp) (hI : Inv h) (a : Nat) (ha : isB a = true) : Ct l D_X1_size 0 0 [.inr (.inr a)] h (Q_X1_size h a) := by
  refine ct_of pn_X1_size (by decide) ?_
  show To l E_X1_size (0, [(0, .inr (.inr a))], [], h, 0, 0) _
  refine to_aload_np (dat dk_X1_size 0 rfl) (hI.1.2.2.2 _ _ (hI.bty ha)).1 rfl ?_
  obtain ⟨x1, ex1⟩ : ∃ y : Int, h.2.2 a 1 = y := ⟨_, rfl⟩
  have rx1 := hI.blen ha
  rw [ex1] at rx1
  exact to_iret rfl (dat dk_X1_size 2 rfl) (ri_mk (by omega) ⟨rfl, (show x1 = x1 by omega)⟩)
abbrev Q_X1_byteAt (h : Hp) (a : Nat) (i : Int) : Option V → Hp → Nat → Nat → Prop := RI (fun x H => H = h ∧ (x = -1 ∨ (0 ≤ i ∧ i < H.2.2 a 1 ∧ 0 ≤ x ∧ x ≤ 255)))
set_option maxRecDepth 100000 in
theorem ct_X1_byteAt (l : Launch) (h : Hp) (hI : Inv h) (a : Nat) (ha : isB a = true) (i : Int) (hi : I32 i) : Ct l D_X1_byteAt 0 0 [.inr (.inr a), .inl i] h (Q_X1_byteAt h a i) := by
  refine ct_of pn_X1_byteAt (by decide) ?_
  show To l E_X1_byteAt (0, [(0, .inr (.inr a)), (1, .inl i)], [], h, 0, 0) _
  refine to_iload_n (dat dk_X1_byteAt 0 rfl) rfl ?_
  refine to_iflt 34 (dat dk_X1_byteAt 1 rfl) rfl hi (fun c1 => ?_) (fun c1 => ?_)
  · skip
    refine to_iconst (dat dk_X1_byteAt 18 rfl) ?_
    exact to_iret rfl (dat dk_X1_byteAt 19 rfl) (ri_mk (by decide) ⟨rfl, (show (-1 : Int) = -1 ∨ (0 ≤ i ∧ i < h.2.2 a 1 ∧ 0 ≤ (-1 : Int) ∧ (-1 : Int) ≤ 255) by omega)⟩)
  · skip
    refine to_iload_n (dat dk_X1_byteAt 2 rfl) rfl (to_aload_np (dat dk_X1_byteAt 3 rfl) (hI.1.2.2.2 _ _ (hI.bty ha)).1 rfl ?_)
    obtain ⟨x2, ex2⟩ : ∃ y : Int, h.2.2 a 1 = y := ⟨_, rfl⟩
    have rx2 := hI.blen ha
    rw [ex2] at rx2
    refine to_ige 34 (dat dk_X1_byteAt 5 rfl) rfl hi (by omega) (fun c3 => ?_) (fun c3 => ?_)
    · skip
      refine to_iconst (dat dk_X1_byteAt 18 rfl) ?_
      exact to_iret rfl (dat dk_X1_byteAt 19 rfl) (ri_mk (by decide) ⟨rfl, (show (-1 : Int) = -1 ∨ (0 ≤ i ∧ i < x2 ∧ 0 ≤ (-1 : Int) ∧ (-1 : Int) ≤ 255) by omega)⟩)
    · skip
      refine to_iload_n (dat dk_X1_byteAt 6 rfl) rfl (to_aload_np (dat dk_X1_byteAt 7 rfl) (hI.1.2.2.2 _ _ (hI.bty ha)).1 rfl (to_getR (a + 1) g_c2_9 (dat dk_X1_byteAt 8 rfl) (hI.bty ha) (hI.brow ha) (to_alen (dat dk_X1_byteAt 9 rfl) (hI.brt ha) (by decide) ?_)))
      refine to_ige 34 (dat dk_X1_byteAt 10 rfl) rfl hi (by omega) (fun c4 => ?_) (fun c4 => ?_)
      · skip
        refine to_iconst (dat dk_X1_byteAt 18 rfl) ?_
        exact to_iret rfl (dat dk_X1_byteAt 19 rfl) (ri_mk (by decide) ⟨rfl, (show (-1 : Int) = -1 ∨ (0 ≤ i ∧ i < x2 ∧ 0 ≤ (-1 : Int) ∧ (-1 : Int) ≤ 255) by omega)⟩)
      · skip
        refine to_aload_np (dat dk_X1_byteAt 11 rfl) (hI.1.2.2.2 _ _ (hI.bty ha)).1 rfl (to_getR (a + 1) g_c2_9 (dat dk_X1_byteAt 12 rfl) (hI.bty ha) (hI.brow ha) (to_iload_n (dat dk_X1_byteAt 13 rfl) rfl ?_))
        obtain ⟨x5, ex5⟩ : ∃ y : Int, h.2.2 (a + 1) (Int.toNat i) = y := ⟨_, rfl⟩
        have rx5 := hI.bcon (j := Int.toNat i) ha
        rw [ex5] at rx5
        refine to_sipush (dat dk_X1_byteAt 15 rfl) (by decide) ?_
        refine to_iand 255 255 (dat dk_X1_byteAt 16 rfl) (by decide) (by decide) (fun x6 rx6 mx6 => ?_)
        refine to_goto (dat dk_X1_byteAt 17 rfl) rfl ?_
        exact to_iret rfl (dat dk_X1_byteAt 19 rfl) (ri_mk rx6 ⟨rfl, (show x6 = -1 ∨ (0 ≤ i ∧ i < x2 ∧ 0 ≤ x6 ∧ x6 ≤ 255) by omega)⟩)
abbrev Q_X1_clear (h : Hp) (a : Nat) : Option V → Hp → Nat → Nat → Prop := RV (fun H => Inv H ∧ Fr [a] h H ∧ (H.2.2 a 1 = 0))
set_option maxRecDepth 100000 in
theorem ct_X1_clear (l : Launch) (h : Hp) (hI : Inv h) (a : Nat) (ha : isB a = true) : Ct l D_X1_clear 0 0 [.inr (.inr a)] h (Q_X1_clear h a) := by
  refine ct_of pn_X1_clear (by decide) ?_
  show To l E_X1_clear (0, [(0, .inr (.inr a))], [], h, 0, 0) _
  refine to_aload_np (dat dk_X1_clear 0 rfl) (hI.1.2.2.2 _ _ (hI.bty ha)).1 rfl (to_iconst (dat dk_X1_clear 1 rfl) (to_putI p_c2_15 (dat dk_X1_clear 2 rfl) (hI.bty ha) ?_))
  have I1 : Inv (wr h a 1 0) := hI.putB (x := 0) ha (by omega)
  have f2 : Fr [a] h (wr h a 1 0) := Fr.putB (j := 1) (x := 0) (Fr.rf _ _) ha (contains1 _)
  exact to_vret rfl (dat dk_X1_clear 3 rfl) (rv_mk ⟨I1, f2, (show (0 : Int) = 0 by omega)⟩)
