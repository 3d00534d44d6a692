/-! Contracts, by program. -/
abbrev Q_X3_daysIn_vx (h : Hp) (y : Int) (m : Int) : Option V → Hp → Nat → Nat → Prop := RI (fun x H => h = H ∧ ((x = 0 ∧ (m < 1 ∨ 12 < m)) ∨ (1 ≤ m ∧ m ≤ 12 ∧ x = mD y m)) ∧ (0 ≤ x ∧ x ≤ 31))
set_option maxRecDepth 100000 in
theorem ct_X3_daysIn_vx (l : Launch) (h : Hp) (hI : Inv h) (y : Int) (hy : I32 y) (m : Int) (hm : I32 m) (g0 : 0 ≤ y ∧ y ≤ 9999) : Ct l D_X3_daysIn 0 0 [.inl y, .inl m] h (Q_X3_daysIn_vx h y m) := by
  refine ct_of pn_X3_daysIn (Nat.le_of_ble_eq_true rfl) ?_
  show To l E_X3_daysIn (0, [(0, .inl y), (1, .inl m)], [], h, 0, 0) _
  refine to_iload_n (dat dk_X3_daysIn 0 rfl) rfl (to_iconst (dat dk_X3_daysIn 1 rfl) ?_)
  refine to_ilt 13 (dat dk_X3_daysIn 2 rfl) rfl hm (by decide) (fun c1 => ?_) (fun c1 => ?_)
  · skip
    refine to_iconst (dat dk_X3_daysIn 7 rfl) ?_
    exact to_iret rfl (dat dk_X3_daysIn 8 rfl) (ri_mk (by decide) ⟨rfl, (show ((0 : Int) = 0 ∧ (m < 1 ∨ 12 < m)) ∨ (1 ≤ m ∧ m ≤ 12 ∧ (0 : Int) = mD y m) by omega), (show 0 ≤ (0 : Int) ∧ (0 : Int) ≤ 31 by omega)⟩)
  · skip
    refine to_iload_n (dat dk_X3_daysIn 3 rfl) rfl (to_gst (C := "MailArchive$Dates") (f9 := "MONTH_DAYS") (d9 := "[I") (List.mem_of_getElem? (i := 2) rfl) (tin 4 95 (by decide +kernel) rfl) (dat dk_X3_daysIn 4 rfl) (to_saLen (List.mem_of_getElem? (i := 0) rfl) (dat dk_X3_daysIn 5 rfl) ?_))
    refine to_ile 15 (dat dk_X3_daysIn 6 rfl) rfl hm (by decide) (fun c2 => ?_) (fun c2 => ?_)
    · skip
      refine to_iload_n (dat dk_X3_daysIn 9 rfl) rfl (to_iconst (dat dk_X3_daysIn 10 rfl) (to_iremx (by omega) (by decide) (dat dk_X3_daysIn 11 rfl) ?_))
      refine to_ifne 28 (dat dk_X3_daysIn 12 rfl) rfl (by omega) (fun c3 => ?_) (fun c3 => ?_)
      · skip
        refine to_iload_n (dat dk_X3_daysIn 17 rfl) rfl (to_sipush (dat dk_X3_daysIn 18 rfl) (by decide) (to_iremx (by omega) (by decide) (dat dk_X3_daysIn 19 rfl) ?_))
        refine to_ifne 40 (dat dk_X3_daysIn 20 rfl) rfl (by omega) (fun c4 => ?_) (fun c4 => ?_)
        · skip
          refine to_iconst (dat dk_X3_daysIn 23 rfl) (to_istore_n (L' := [(0, .inl y), (1, .inl m), (2, .inl 0)]) (dat dk_X3_daysIn 24 rfl) (by decide) rfl (to_iload_n (dat dk_X3_daysIn 25 rfl) rfl (to_iconst (dat dk_X3_daysIn 26 rfl) ?_)))
          refine to_ine 56 (dat dk_X3_daysIn 27 rfl) rfl hm (by decide) (fun c5 => ?_) (fun c5 => ?_)
          · skip
            refine to_gst (C := "MailArchive$Dates") (f9 := "MONTH_DAYS") (d9 := "[I") (List.mem_of_getElem? (i := 2) rfl) (tin 4 95 (by decide +kernel) rfl) (dat dk_X3_daysIn 32 rfl) (to_iload_n (dat dk_X3_daysIn 33 rfl) rfl (to_iconst (dat dk_X3_daysIn 34 rfl) (to_isub (dat dk_X3_daysIn 35 rfl) ?_)))
            obtain ⟨x6, ex6⟩ : ∃ y : Int, (icod 1000201).getD (Int.toNat (m - 1)) 0 = y := ⟨_, rfl⟩
            have rx6 := icod_in (List.mem_of_getElem? (i := 0) rfl) (Int.toNat (m - 1))
            rw [ex6] at rx6
            refine to_saIntx (List.mem_of_getElem? (i := 0) rfl) ex6 (dat dk_X3_daysIn 36 rfl) (by omega) ?_
            exact to_iret rfl (dat dk_X3_daysIn 37 rfl) (ri_mk (by omega) ⟨rfl, (Or.inr ⟨by omega, by omega, by have zm := md_row (m := m) (by omega) ex6; unfold mD; (repeat' split) <;> omega⟩), (by have zm := md_row (m := m) (by omega) ex6; omega)⟩)
          · skip
            refine to_iload_n (dat dk_X3_daysIn 28 rfl) rfl ?_
            refine to_ifeq 56 (dat dk_X3_daysIn 29 rfl) rfl (by decide) (fun c7 => ?_) (fun c7 => absurd c7 (by decide))
            refine to_gst (C := "MailArchive$Dates") (f9 := "MONTH_DAYS") (d9 := "[I") (List.mem_of_getElem? (i := 2) rfl) (tin 4 95 (by decide +kernel) rfl) (dat dk_X3_daysIn 32 rfl) (to_iload_n (dat dk_X3_daysIn 33 rfl) rfl (to_iconst (dat dk_X3_daysIn 34 rfl) (to_isub (dat dk_X3_daysIn 35 rfl) ?_)))
            obtain ⟨x8, ex8⟩ : ∃ y : Int, (icod 1000201).getD (Int.toNat (m - 1)) 0 = y := ⟨_, rfl⟩
            have rx8 := icod_in (List.mem_of_getElem? (i := 0) rfl) (Int.toNat (m - 1))
            rw [ex8] at rx8
            refine to_saIntx (List.mem_of_getElem? (i := 0) rfl) ex8 (dat dk_X3_daysIn 36 rfl) (by omega) ?_
            exact to_iret rfl (dat dk_X3_daysIn 37 rfl) (ri_mk (by omega) ⟨rfl, (Or.inr ⟨by omega, by omega, by have zm := md_row (m := m) (by omega) ex8; unfold mD; (repeat' split) <;> omega⟩), (by have zm := md_row (m := m) (by omega) ex8; omega)⟩)
        · skip
          refine to_iconst (dat dk_X3_daysIn 21 rfl) (to_goto (dat dk_X3_daysIn 22 rfl) rfl (to_istore_n (L' := [(0, .inl y), (1, .inl m), (2, .inl 1)]) (dat dk_X3_daysIn 24 rfl) (by decide) rfl (to_iload_n (dat dk_X3_daysIn 25 rfl) rfl (to_iconst (dat dk_X3_daysIn 26 rfl) ?_))))
          refine to_ine 56 (dat dk_X3_daysIn 27 rfl) rfl hm (by decide) (fun c9 => ?_) (fun c9 => ?_)
          · skip
            refine to_gst (C := "MailArchive$Dates") (f9 := "MONTH_DAYS") (d9 := "[I") (List.mem_of_getElem? (i := 2) rfl) (tin 4 95 (by decide +kernel) rfl) (dat dk_X3_daysIn 32 rfl) (to_iload_n (dat dk_X3_daysIn 33 rfl) rfl (to_iconst (dat dk_X3_daysIn 34 rfl) (to_isub (dat dk_X3_daysIn 35 rfl) ?_)))
            obtain ⟨x10, ex10⟩ : ∃ y : Int, (icod 1000201).getD (Int.toNat (m - 1)) 0 = y := ⟨_, rfl⟩
            have rx10 := icod_in (List.mem_of_getElem? (i := 0) rfl) (Int.toNat (m - 1))
            rw [ex10] at rx10
            refine to_saIntx (List.mem_of_getElem? (i := 0) rfl) ex10 (dat dk_X3_daysIn 36 rfl) (by omega) ?_
            exact to_iret rfl (dat dk_X3_daysIn 37 rfl) (ri_mk (by omega) ⟨rfl, (Or.inr ⟨by omega, by omega, by have zm := md_row (m := m) (by omega) ex10; unfold mD; (repeat' split) <;> omega⟩), (by have zm := md_row (m := m) (by omega) ex10; omega)⟩)
          · skip
            refine to_iload_n (dat dk_X3_daysIn 28 rfl) rfl ?_
            refine to_ifeq 56 (dat dk_X3_daysIn 29 rfl) rfl (by decide) (fun c11 => absurd c11 (by decide)) (fun c11 => ?_)
            refine to_bipush (dat dk_X3_daysIn 30 rfl) (by decide) (to_goto (dat dk_X3_daysIn 31 rfl) rfl ?_)
            exact to_iret rfl (dat dk_X3_daysIn 37 rfl) (ri_mk (by decide) ⟨rfl, (Or.inr ⟨by omega, by omega, by unfold mD; (repeat' split) <;> omega⟩), (by omega)⟩)
      · skip
        refine to_iload_n (dat dk_X3_daysIn 13 rfl) rfl (to_bipush (dat dk_X3_daysIn 14 rfl) (by decide) (to_iremx (by omega) (by decide) (dat dk_X3_daysIn 15 rfl) ?_))
        refine to_ifne 36 (dat dk_X3_daysIn 16 rfl) rfl (by omega) (fun c12 => ?_) (fun c12 => ?_)
        · skip
          refine to_iconst (dat dk_X3_daysIn 21 rfl) (to_goto (dat dk_X3_daysIn 22 rfl) rfl (to_istore_n (L' := [(0, .inl y), (1, .inl m), (2, .inl 1)]) (dat dk_X3_daysIn 24 rfl) (by decide) rfl (to_iload_n (dat dk_X3_daysIn 25 rfl) rfl (to_iconst (dat dk_X3_daysIn 26 rfl) ?_))))
          refine to_ine 56 (dat dk_X3_daysIn 27 rfl) rfl hm (by decide) (fun c13 => ?_) (fun c13 => ?_)
          · skip
            refine to_gst (C := "MailArchive$Dates") (f9 := "MONTH_DAYS") (d9 := "[I") (List.mem_of_getElem? (i := 2) rfl) (tin 4 95 (by decide +kernel) rfl) (dat dk_X3_daysIn 32 rfl) (to_iload_n (dat dk_X3_daysIn 33 rfl) rfl (to_iconst (dat dk_X3_daysIn 34 rfl) (to_isub (dat dk_X3_daysIn 35 rfl) ?_)))
            obtain ⟨x14, ex14⟩ : ∃ y : Int, (icod 1000201).getD (Int.toNat (m - 1)) 0 = y := ⟨_, rfl⟩
            have rx14 := icod_in (List.mem_of_getElem? (i := 0) rfl) (Int.toNat (m - 1))
            rw [ex14] at rx14
            refine to_saIntx (List.mem_of_getElem? (i := 0) rfl) ex14 (dat dk_X3_daysIn 36 rfl) (by omega) ?_
            exact to_iret rfl (dat dk_X3_daysIn 37 rfl) (ri_mk (by omega) ⟨rfl, (Or.inr ⟨by omega, by omega, by have zm := md_row (m := m) (by omega) ex14; unfold mD; (repeat' split) <;> omega⟩), (by have zm := md_row (m := m) (by omega) ex14; omega)⟩)
          · skip
            refine to_iload_n (dat dk_X3_daysIn 28 rfl) rfl ?_
            refine to_ifeq 56 (dat dk_X3_daysIn 29 rfl) rfl (by decide) (fun c15 => absurd c15 (by decide)) (fun c15 => ?_)
            refine to_bipush (dat dk_X3_daysIn 30 rfl) (by decide) (to_goto (dat dk_X3_daysIn 31 rfl) rfl ?_)
            exact to_iret rfl (dat dk_X3_daysIn 37 rfl) (ri_mk (by decide) ⟨rfl, (Or.inr ⟨by omega, by omega, by unfold mD; (repeat' split) <;> omega⟩), (by omega)⟩)
        · skip
          refine to_iload_n (dat dk_X3_daysIn 17 rfl) rfl (to_sipush (dat dk_X3_daysIn 18 rfl) (by decide) (to_iremx (by omega) (by decide) (dat dk_X3_daysIn 19 rfl) ?_))
          refine to_ifne 40 (dat dk_X3_daysIn 20 rfl) rfl (by omega) (fun c16 => ?_) (fun c16 => ?_)
          · skip
            refine to_iconst (dat dk_X3_daysIn 23 rfl) (to_istore_n (L' := [(0, .inl y), (1, .inl m), (2, .inl 0)]) (dat dk_X3_daysIn 24 rfl) (by decide) rfl (to_iload_n (dat dk_X3_daysIn 25 rfl) rfl (to_iconst (dat dk_X3_daysIn 26 rfl) ?_)))
            refine to_ine 56 (dat dk_X3_daysIn 27 rfl) rfl hm (by decide) (fun c17 => ?_) (fun c17 => ?_)
            · skip
              refine to_gst (C := "MailArchive$Dates") (f9 := "MONTH_DAYS") (d9 := "[I") (List.mem_of_getElem? (i := 2) rfl) (tin 4 95 (by decide +kernel) rfl) (dat dk_X3_daysIn 32 rfl) (to_iload_n (dat dk_X3_daysIn 33 rfl) rfl (to_iconst (dat dk_X3_daysIn 34 rfl) (to_isub (dat dk_X3_daysIn 35 rfl) ?_)))
              obtain ⟨x18, ex18⟩ : ∃ y : Int, (icod 1000201).getD (Int.toNat (m - 1)) 0 = y := ⟨_, rfl⟩
              have rx18 := icod_in (List.mem_of_getElem? (i := 0) rfl) (Int.toNat (m - 1))
              rw [ex18] at rx18
              refine to_saIntx (List.mem_of_getElem? (i := 0) rfl) ex18 (dat dk_X3_daysIn 36 rfl) (by omega) ?_
              exact to_iret rfl (dat dk_X3_daysIn 37 rfl) (ri_mk (by omega) ⟨rfl, (Or.inr ⟨by omega, by omega, by have zm := md_row (m := m) (by omega) ex18; unfold mD; (repeat' split) <;> omega⟩), (by have zm := md_row (m := m) (by omega) ex18; omega)⟩)
            · skip
              refine to_iload_n (dat dk_X3_daysIn 28 rfl) rfl ?_
              refine to_ifeq 56 (dat dk_X3_daysIn 29 rfl) rfl (by decide) (fun c19 => ?_) (fun c19 => absurd c19 (by decide))
              refine to_gst (C := "MailArchive$Dates") (f9 := "MONTH_DAYS") (d9 := "[I") (List.mem_of_getElem? (i := 2) rfl) (tin 4 95 (by decide +kernel) rfl) (dat dk_X3_daysIn 32 rfl) (to_iload_n (dat dk_X3_daysIn 33 rfl) rfl (to_iconst (dat dk_X3_daysIn 34 rfl) (to_isub (dat dk_X3_daysIn 35 rfl) ?_)))
              obtain ⟨x20, ex20⟩ : ∃ y : Int, (icod 1000201).getD (Int.toNat (m - 1)) 0 = y := ⟨_, rfl⟩
              have rx20 := icod_in (List.mem_of_getElem? (i := 0) rfl) (Int.toNat (m - 1))
              rw [ex20] at rx20
              refine to_saIntx (List.mem_of_getElem? (i := 0) rfl) ex20 (dat dk_X3_daysIn 36 rfl) (by omega) ?_
              exact to_iret rfl (dat dk_X3_daysIn 37 rfl) (ri_mk (by omega) ⟨rfl, (Or.inr ⟨by omega, by omega, by have zm := md_row (m := m) (by omega) ex20; unfold mD; (repeat' split) <;> omega⟩), (by have zm := md_row (m := m) (by omega) ex20; omega)⟩)
          · skip
            refine to_iconst (dat dk_X3_daysIn 21 rfl) (to_goto (dat dk_X3_daysIn 22 rfl) rfl (to_istore_n (L' := [(0, .inl y), (1, .inl m), (2, .inl 1)]) (dat dk_X3_daysIn 24 rfl) (by decide) rfl (to_iload_n (dat dk_X3_daysIn 25 rfl) rfl (to_iconst (dat dk_X3_daysIn 26 rfl) ?_))))
            refine to_ine 56 (dat dk_X3_daysIn 27 rfl) rfl hm (by decide) (fun c21 => ?_) (fun c21 => ?_)
            · skip
              refine to_gst (C := "MailArchive$Dates") (f9 := "MONTH_DAYS") (d9 := "[I") (List.mem_of_getElem? (i := 2) rfl) (tin 4 95 (by decide +kernel) rfl) (dat dk_X3_daysIn 32 rfl) (to_iload_n (dat dk_X3_daysIn 33 rfl) rfl (to_iconst (dat dk_X3_daysIn 34 rfl) (to_isub (dat dk_X3_daysIn 35 rfl) ?_)))
              obtain ⟨x22, ex22⟩ : ∃ y : Int, (icod 1000201).getD (Int.toNat (m - 1)) 0 = y := ⟨_, rfl⟩
              have rx22 := icod_in (List.mem_of_getElem? (i := 0) rfl) (Int.toNat (m - 1))
              rw [ex22] at rx22
              refine to_saIntx (List.mem_of_getElem? (i := 0) rfl) ex22 (dat dk_X3_daysIn 36 rfl) (by omega) ?_
              exact to_iret rfl (dat dk_X3_daysIn 37 rfl) (ri_mk (by omega) ⟨rfl, (Or.inr ⟨by omega, by omega, by have zm := md_row (m := m) (by omega) ex22; unfold mD; (repeat' split) <;> omega⟩), (by have zm := md_row (m := m) (by omega) ex22; omega)⟩)
            · skip
              refine to_iload_n (dat dk_X3_daysIn 28 rfl) rfl ?_
              refine to_ifeq 56 (dat dk_X3_daysIn 29 rfl) rfl (by decide) (fun c23 => absurd c23 (by decide)) (fun c23 => ?_)
              refine to_bipush (dat dk_X3_daysIn 30 rfl) (by decide) (to_goto (dat dk_X3_daysIn 31 rfl) rfl ?_)
              exact to_iret rfl (dat dk_X3_daysIn 37 rfl) (ri_mk (by decide) ⟨rfl, (Or.inr ⟨by omega, by omega, by unfold mD; (repeat' split) <;> omega⟩), (by omega)⟩)
    · skip
      refine to_iconst (dat dk_X3_daysIn 7 rfl) ?_
      exact to_iret rfl (dat dk_X3_daysIn 8 rfl) (ri_mk (by decide) ⟨rfl, (show ((0 : Int) = 0 ∧ (m < 1 ∨ 12 < m)) ∨ (1 ≤ m ∧ m ≤ 12 ∧ (0 : Int) = mD y m) by omega), (show 0 ≤ (0 : Int) ∧ (0 : Int) ≤ 31 by omega)⟩)
abbrev Q_X3_dayNumber_vx (h : Hp) (y : Int) (m : Int) (d : Int) : Option V → Hp → Nat → Nat → Prop := RI (fun x H => h = H ∧ ((x = -1000000 ∧ (y < 0 ∨ 9999 < y ∨ m < 1 ∨ 12 < m ∨ d < 1 ∨ mD y m < d)) ∨ (-719528 ≤ x ∧ x ≤ 9999999 ∧ 0 ≤ y ∧ y ≤ 9999 ∧ 1 ≤ m ∧ m ≤ 12 ∧ 1 ≤ d ∧ d ≤ mD y m)))
set_option maxRecDepth 100000 in
theorem ct_X3_dayNumber_vx (l : Launch) (h : Hp) (hI : Inv h) (y : Int) (hy : I32 y) (m : Int) (hm : I32 m) (d : Int) (hd : I32 d) (g0 : -1 ≤ y ∧ y ≤ 999999999) (g1 : -1 ≤ m ∧ m ≤ 999999999) (g2 : -1 ≤ d ∧ d ≤ 999999999) : Ct l D_X3_dayNumber 1 22 [.inl y, .inl m, .inl d] h (Q_X3_dayNumber_vx h y m d) := by
  refine ct_of pn_X3_dayNumber (Nat.le_of_ble_eq_true rfl) ?_
  show To l E_X3_dayNumber (0, [(0, .inl y), (1, .inl m), (2, .inl d)], [], h, 0, 0) _
  refine to_iload_n (dat dk_X3_dayNumber 0 rfl) rfl ?_
  refine to_iflt 25 (dat dk_X3_dayNumber 1 rfl) rfl hy (fun c1 => ?_) (fun c1 => ?_)
  · skip
    refine to_ldc (v := (-1000000)) (x := -1000000) (tin 4 97 (by decide +kernel) rfl) (by decide +kernel) (dat dk_X3_dayNumber 13 rfl) ?_
    exact to_iret rfl (dat dk_X3_dayNumber 14 rfl) (ri_mk (by decide) ⟨rfl, (show ((-1000000 : Int) = -1000000 ∧ (y < 0 ∨ 9999 < y ∨ m < 1 ∨ 12 < m ∨ d < 1 ∨ mD y m < d)) ∨ (-719528 ≤ (-1000000 : Int) ∧ (-1000000 : Int) ≤ 9999999 ∧ 0 ≤ y ∧ y ≤ 9999 ∧ 1 ≤ m ∧ m ≤ 12 ∧ 1 ≤ d ∧ d ≤ mD y m) by omega)⟩)
  · skip
    refine to_iload_n (dat dk_X3_dayNumber 2 rfl) rfl (to_sipush (dat dk_X3_dayNumber 3 rfl) (by decide) ?_)
    refine to_igt 25 (dat dk_X3_dayNumber 4 rfl) rfl hy (by decide) (fun c2 => ?_) (fun c2 => ?_)
    · skip
      refine to_ldc (v := (-1000000)) (x := -1000000) (tin 4 97 (by decide +kernel) rfl) (by decide +kernel) (dat dk_X3_dayNumber 13 rfl) ?_
      exact to_iret rfl (dat dk_X3_dayNumber 14 rfl) (ri_mk (by decide) ⟨rfl, (show ((-1000000 : Int) = -1000000 ∧ (y < 0 ∨ 9999 < y ∨ m < 1 ∨ 12 < m ∨ d < 1 ∨ mD y m < d)) ∨ (-719528 ≤ (-1000000 : Int) ∧ (-1000000 : Int) ≤ 9999999 ∧ 0 ≤ y ∧ y ≤ 9999 ∧ 1 ≤ m ∧ m ≤ 12 ∧ 1 ≤ d ∧ d ≤ mD y m) by omega)⟩)
    · skip
      refine to_iload_n (dat dk_X3_dayNumber 5 rfl) rfl (to_iconst (dat dk_X3_dayNumber 6 rfl) ?_)
      refine to_ilt 25 (dat dk_X3_dayNumber 7 rfl) rfl hd (by decide) (fun c3 => ?_) (fun c3 => ?_)
      · skip
        refine to_ldc (v := (-1000000)) (x := -1000000) (tin 4 97 (by decide +kernel) rfl) (by decide +kernel) (dat dk_X3_dayNumber 13 rfl) ?_
        exact to_iret rfl (dat dk_X3_dayNumber 14 rfl) (ri_mk (by decide) ⟨rfl, (show ((-1000000 : Int) = -1000000 ∧ (y < 0 ∨ 9999 < y ∨ m < 1 ∨ 12 < m ∨ d < 1 ∨ mD y m < d)) ∨ (-719528 ≤ (-1000000 : Int) ∧ (-1000000 : Int) ≤ 9999999 ∧ 0 ≤ y ∧ y ≤ 9999 ∧ 1 ≤ m ∧ m ≤ 12 ∧ 1 ≤ d ∧ d ≤ mD y m) by omega)⟩)
      · skip
        refine to_iload_n (dat dk_X3_dayNumber 8 rfl) rfl (to_iload_n (dat dk_X3_dayNumber 9 rfl) rfl (to_iload_n (dat dk_X3_dayNumber 10 rfl) rfl ?_))
        refine to_cI ca_c4_9 (dat dk_X3_dayNumber 11 rfl) (ct_X3_daysIn_vx l h hI y hy m hm (show 0 ≤ y ∧ y ≤ 9999 by omega)) rfl trivial rfl (fun x4 h5 rx4 p6 => ?_)
        obtain ⟨rfl, p6_0, p6_1⟩ := p6
        refine to_ile 28 (dat dk_X3_dayNumber 12 rfl) rfl hd rx4 (fun c7 => ?_) (fun c7 => ?_)
        · skip
          refine to_iload_n (dat dk_X3_dayNumber 15 rfl) rfl (to_iconst (dat dk_X3_dayNumber 16 rfl) (to_iadd (dat dk_X3_dayNumber 17 rfl) (to_iconst (dat dk_X3_dayNumber 18 rfl) (to_idivx (by omega) (by decide) (dat dk_X3_dayNumber 19 rfl) (to_iload_n (dat dk_X3_dayNumber 20 rfl) rfl (to_bipush (dat dk_X3_dayNumber 21 rfl) (by decide) (to_iadd (dat dk_X3_dayNumber 22 rfl) (to_bipush (dat dk_X3_dayNumber 23 rfl) (by decide) (to_idivx (by omega) (by decide) (dat dk_X3_dayNumber 24 rfl) (to_isub (dat dk_X3_dayNumber 25 rfl) (to_iload_n (dat dk_X3_dayNumber 26 rfl) rfl (to_sipush (dat dk_X3_dayNumber 27 rfl) (by decide) (to_iadd (dat dk_X3_dayNumber 28 rfl) (to_sipush (dat dk_X3_dayNumber 29 rfl) (by decide) (to_idivx (by omega) (by decide) (dat dk_X3_dayNumber 30 rfl) (to_iadd (dat dk_X3_dayNumber 31 rfl) (to_istore_n (L' := [(0, .inl y), (1, .inl m), (2, .inl d), (3, .inl ((((y + 3) / 4) - ((y + 99) / 100)) + ((y + 399) / 400)))]) (dat dk_X3_dayNumber 32 rfl) (by decide) rfl (to_iload_n (dat dk_X3_dayNumber 33 rfl) rfl (to_sipush (dat dk_X3_dayNumber 34 rfl) (by decide) (to_imul (dat dk_X3_dayNumber 35 rfl) (to_iload_n (dat dk_X3_dayNumber 36 rfl) rfl (to_iadd (dat dk_X3_dayNumber 37 rfl) (to_iload_n (dat dk_X3_dayNumber 38 rfl) rfl (to_iadd (dat dk_X3_dayNumber 39 rfl) (to_iconst (dat dk_X3_dayNumber 40 rfl) (to_isub (dat dk_X3_dayNumber 41 rfl) (to_ldc (v := 719528) (x := 719528) (tin 4 98 (by decide +kernel) rfl) (by decide +kernel) (dat dk_X3_dayNumber 42 rfl) (to_isub (dat dk_X3_dayNumber 43 rfl) (to_istore (L' := [(0, .inl y), (1, .inl m), (2, .inl d), (3, .inl ((((y + 3) / 4) - ((y + 99) / 100)) + ((y + 399) / 400))), (4, .inl (((((y * 365) + ((((y + 3) / 4) - ((y + 99) / 100)) + ((y + 399) / 400))) + d) - 1) - 719528))]) (dat dk_X3_dayNumber 44 rfl) (by decide) rfl (to_iconst (dat dk_X3_dayNumber 45 rfl) (to_istore (L' := [(0, .inl y), (1, .inl m), (2, .inl d), (3, .inl ((((y + 3) / 4) - ((y + 99) / 100)) + ((y + 399) / 400))), (4, .inl (((((y * 365) + ((((y + 3) / 4) - ((y + 99) / 100)) + ((y + 399) / 400))) + d) - 1) - 719528)), (5, .inl 1)]) (dat dk_X3_dayNumber 46 rfl) (by decide) rfl ?_)))))))))))))))))))))))))))))))
          have lp71_n12 : ∀ (n12 : Nat) (y8 : Int) (y9 : Int), (I32 y8) → (I32 y9) → (1 ≤ y9 ∧ y9 ≤ m) → (-719528 ≤ y8 ∧ y8 ≤ 3700000 + 31 * y9) → (m - y9 ≤ (n12 : Int)) → To l E_X3_dayNumber (71, [(0, .inl y), (1, .inl m), (2, .inl d), (3, .inl ((((y + 3) / 4) - ((y + 99) / 100)) + ((y + 399) / 400))), (4, .inl y8), (5, .inl y9)], [], h, 0, 0) (Q_X3_dayNumber_vx h y m d) := by
            intro n12
            induction n12 using Nat.strongRecOn with
            | _ n12 ihn12 =>
            intro y8 y9 ry8 ry9 c10 c11 c13
            refine to_iload (dat dk_X3_dayNumber 47 rfl) rfl (to_iload_n (dat dk_X3_dayNumber 48 rfl) rfl ?_)
            refine to_ige 94 (dat dk_X3_dayNumber 49 rfl) rfl ry9 hm (fun c14 => ?_) (fun c14 => ?_)
            · skip
              refine to_iload (dat dk_X3_dayNumber 58 rfl) rfl ?_
              exact to_iret rfl (dat dk_X3_dayNumber 59 rfl) (ri_mk ry8 ⟨rfl, (show (y8 = -1000000 ∧ (y < 0 ∨ 9999 < y ∨ m < 1 ∨ 12 < m ∨ d < 1 ∨ mD y m < d)) ∨ (-719528 ≤ y8 ∧ y8 ≤ 9999999 ∧ 0 ≤ y ∧ y ≤ 9999 ∧ 1 ≤ m ∧ m ≤ 12 ∧ 1 ≤ d ∧ d ≤ mD y m) by omega)⟩)
            · skip
              refine to_iload (dat dk_X3_dayNumber 50 rfl) rfl (to_iload_n (dat dk_X3_dayNumber 51 rfl) rfl (to_iload (dat dk_X3_dayNumber 52 rfl) rfl ?_))
              refine to_cI ca_c4_9 (dat dk_X3_dayNumber 53 rfl) (ct_X3_daysIn_vx l h hI y hy y9 ry9 (show 0 ≤ y ∧ y ≤ 9999 by omega)) rfl trivial rfl (fun x15 h16 rx15 p17 => ?_)
              obtain ⟨rfl, p17_0, p17_1⟩ := p17
              refine to_iadd (dat dk_X3_dayNumber 54 rfl) (to_istore (L' := [(0, .inl y), (1, .inl m), (2, .inl d), (3, .inl ((((y + 3) / 4) - ((y + 99) / 100)) + ((y + 399) / 400))), (4, .inl (y8 + x15)), (5, .inl y9)]) (dat dk_X3_dayNumber 55 rfl) (by decide) rfl (to_iinc (L' := [(0, .inl y), (1, .inl m), (2, .inl d), (3, .inl ((((y + 3) / 4) - ((y + 99) / 100)) + ((y + 399) / 400))), (4, .inl (y8 + x15)), (5, .inl (y9 + 1))]) (dat dk_X3_dayNumber 56 rfl) rfl (by decide) rfl (to_goto (dat dk_X3_dayNumber 57 rfl) rfl ?_)))
              exact ihn12 (n12 - 1) (by omega) (y8 + x15) (y9 + 1) (by omega) (by omega) (show 1 ≤ (y9 + 1) ∧ (y9 + 1) ≤ m by omega) (show -719528 ≤ (y8 + x15) ∧ (y8 + x15) ≤ 3700000 + 31 * (y9 + 1) by omega) (show m - (y9 + 1) ≤ ((n12 - 1 : Nat) : Int) by omega)
          exact lp71_n12 (m - (1 : Int)).toNat (((((y * 365) + ((((y + 3) / 4) - ((y + 99) / 100)) + ((y + 399) / 400))) + d) - 1) - 719528) 1 (by omega) (by decide) (show 1 ≤ (1 : Int) ∧ (1 : Int) ≤ m by omega) (show -719528 ≤ (((((y * 365) + ((((y + 3) / 4) - ((y + 99) / 100)) + ((y + 399) / 400))) + d) - 1) - 719528) ∧ (((((y * 365) + ((((y + 3) / 4) - ((y + 99) / 100)) + ((y + 399) / 400))) + d) - 1) - 719528) ≤ 3700000 + 31 * (1 : Int) by omega) (by omega)
        · skip
          refine to_ldc (v := (-1000000)) (x := -1000000) (tin 4 97 (by decide +kernel) rfl) (by decide +kernel) (dat dk_X3_dayNumber 13 rfl) ?_
          exact to_iret rfl (dat dk_X3_dayNumber 14 rfl) (ri_mk (by decide) ⟨rfl, (show ((-1000000 : Int) = -1000000 ∧ (y < 0 ∨ 9999 < y ∨ m < 1 ∨ 12 < m ∨ d < 1 ∨ mD y m < d)) ∨ (-719528 ≤ (-1000000 : Int) ∧ (-1000000 : Int) ≤ 9999999 ∧ 0 ≤ y ∧ y ≤ 9999 ∧ 1 ≤ m ∧ m ≤ 12 ∧ 1 ≤ d ∧ d ≤ mD y m) by omega)⟩)
abbrev Q_X3_dayAt_vx (h : Hp) (f : Int) : Option V → Hp → Nat → Nat → Prop := RI (fun x H => h = H ∧ ((x = -1000000 ∧ bi (dayOK (qr H) (Int.toNat f)) = 0) ∨ (-719528 ≤ x ∧ x ≤ 9999999 ∧ bi (dayOK (qr H) (Int.toNat f)) = 1)))
set_option maxRecDepth 100000 in
theorem ct_X3_dayAt_vx (l : Launch) (h : Hp) (hI : Inv h) (f : Int) (hf : I32 f) (g0 : 0 ≤ f ∧ f + 8 ≤ h.2.2 6 1) : Ct l D_X3_dayAt 2 47 [.inr (.inr 6), .inl f] h (Q_X3_dayAt_vx h f) := by
  refine ct_of pn_X3_dayAt (Nat.le_of_ble_eq_true rfl) ?_
  show To l E_X3_dayAt (0, [(0, .inr (.inr 6)), (1, .inl f)], [], h, 0, 0) _
  have zq := qn_is hI
  refine to_aload_n (dat dk_X3_dayAt 0 rfl) rfl (to_iload_n (dat dk_X3_dayAt 1 rfl) rfl (to_iload_n (dat dk_X3_dayAt 2 rfl) rfl (to_iconst (dat dk_X3_dayAt 3 rfl) (to_iadd (dat dk_X3_dayAt 4 rfl) ?_))))
  refine to_cI ca_c4_17 (dat dk_X3_dayAt 5 rfl) (ct_X1_numberIn_vx l h hI f hf (f + 4) (by omega) (show 0 ≤ f ∧ f ≤ h.2.2 6 1 by omega) (show 0 ≤ (f + 4) ∧ (f + 4) ≤ h.2.2 6 1 by omega)) rfl ⟨_, _, rfl, (hI.atS rfl)⟩ rfl (fun x1 h2 rx1 p3 => ?_)
  obtain ⟨rfl, p3_0⟩ := p3
  refine to_aload_n (dat dk_X3_dayAt 6 rfl) rfl (to_iload_n (dat dk_X3_dayAt 7 rfl) rfl (to_iconst (dat dk_X3_dayAt 8 rfl) (to_iadd (dat dk_X3_dayAt 9 rfl) (to_iload_n (dat dk_X3_dayAt 10 rfl) rfl (to_bipush (dat dk_X3_dayAt 11 rfl) (by decide) (to_iadd (dat dk_X3_dayAt 12 rfl) ?_))))))
  refine to_cI ca_c4_17 (dat dk_X3_dayAt 13 rfl) (ct_X1_numberIn_vx l h hI (f + 4) (by omega) (f + 6) (by omega) (show 0 ≤ (f + 4) ∧ (f + 4) ≤ h.2.2 6 1 by omega) (show 0 ≤ (f + 6) ∧ (f + 6) ≤ h.2.2 6 1 by omega)) rfl ⟨_, _, rfl, (hI.atS rfl)⟩ rfl (fun x4 h5 rx4 p6 => ?_)
  obtain ⟨rfl, p6_0⟩ := p6
  refine to_aload_n (dat dk_X3_dayAt 14 rfl) rfl (to_iload_n (dat dk_X3_dayAt 15 rfl) rfl (to_bipush (dat dk_X3_dayAt 16 rfl) (by decide) (to_iadd (dat dk_X3_dayAt 17 rfl) (to_iload_n (dat dk_X3_dayAt 18 rfl) rfl (to_bipush (dat dk_X3_dayAt 19 rfl) (by decide) (to_iadd (dat dk_X3_dayAt 20 rfl) ?_))))))
  refine to_cI ca_c4_17 (dat dk_X3_dayAt 21 rfl) (ct_X1_numberIn_vx l h hI (f + 6) (by omega) (f + 8) (by omega) (show 0 ≤ (f + 6) ∧ (f + 6) ≤ h.2.2 6 1 by omega) (show 0 ≤ (f + 8) ∧ (f + 8) ≤ h.2.2 6 1 by omega)) rfl ⟨_, _, rfl, (hI.atS rfl)⟩ rfl (fun x7 h8 rx7 p9 => ?_)
  obtain ⟨rfl, p9_0⟩ := p9
  have i4 : Int.toNat (f + 4) = Int.toNat f + 4 := by omega
  have i6 : Int.toNat (f + 6) = Int.toNat f + 6 := by omega
  have i8 : Int.toNat (f + 8) = Int.toNat f + 8 := by omega
  rw [i4] at p3_0
  rw [i4, i6] at p6_0
  rw [i6, i8] at p9_0
  have zn0 := numV_in (r := qr h) (a := Int.toNat f ) (b := Int.toNat f + 4)
  have zn1 := numV_in (r := qr h) (a := Int.toNat f + 4) (b := Int.toNat f + 6)
  have zn2 := numV_in (r := qr h) (a := Int.toNat f + 6) (b := Int.toNat f + 8)
  refine to_cI ca_c4_22 (dat dk_X3_dayAt 22 rfl) (ct_X3_dayNumber_vx l h hI x1 rx1 x4 rx4 x7 rx7 (show -1 ≤ x1 ∧ x1 ≤ 999999999 by omega) (show -1 ≤ x4 ∧ x4 ≤ 999999999 by omega) (show -1 ≤ x7 ∧ x7 ≤ 999999999 by omega)) rfl trivial rfl (fun x10 h11 rx10 p12 => ?_)
  obtain ⟨rfl, p12_0⟩ := p12
  exact to_iret rfl (dat dk_X3_dayAt 23 rfl) (ri_mk rx10 ⟨rfl, (by have zd := p12_0; rw [p3_0, p6_0, p9_0] at zd; have zo := dayOK_n (r := qr h) (a := Int.toNat f); omega)⟩)
