/-! Contracts, by program. -/
abbrev Q_X3_daysIn (h : Hp) (y : Int) (m : Int) : Option V → Hp → Nat → Nat → Prop := RI (fun x H => h = H)
set_option maxRecDepth 100000 in
theorem ct_X3_daysIn (l : Launch) (h : Hp) (hI : Inv h) (y : Int) (hy : I32 y) (m : Int) (hm : I32 m) : Ct l D_X3_daysIn 0 0 [.inl y, .inl m] h (Q_X3_daysIn h y m) := by
  refine ct_of pn_X3_daysIn (Nat.le_of_ble_eq_true rfl) ?_
  show To l E_X3_daysIn (0, [(0, .inl y), (1, .inl m)], [], h, 0, 0) _
  refine to_iload_n (dat dk_X3_daysIn 0 rfl) rfl (to_iconst (dat dk_X3_daysIn 1 rfl) ?_)
  refine to_ilt 13 (dat dk_X3_daysIn 2 rfl) rfl hm (by decide) (fun c1 => ?_) (fun c1 => ?_)
  · skip
    refine to_iconst (dat dk_X3_daysIn 7 rfl) ?_
    exact to_iret rfl (dat dk_X3_daysIn 8 rfl) (ri_mk (by decide) rfl)
  · skip
    refine to_iload_n (dat dk_X3_daysIn 3 rfl) rfl (to_gst (C := "MailArchive$Dates") (f9 := "MONTH_DAYS") (d9 := "[I") (List.mem_of_getElem? (i := 2) rfl) (tin 4 95 (by decide +kernel) rfl) (dat dk_X3_daysIn 4 rfl) (to_saLen (List.mem_of_getElem? (i := 0) rfl) (dat dk_X3_daysIn 5 rfl) ?_))
    refine to_ile 15 (dat dk_X3_daysIn 6 rfl) rfl hm (by decide) (fun c2 => ?_) (fun c2 => ?_)
    · skip
      refine to_iload_n (dat dk_X3_daysIn 9 rfl) rfl (to_iconst (dat dk_X3_daysIn 10 rfl) ?_)
      refine to_irem (dat dk_X3_daysIn 11 rfl) (by decide) (fun x3 rx3 => ?_)
      refine to_ifne 28 (dat dk_X3_daysIn 12 rfl) rfl rx3 (fun c4 => ?_) (fun c4 => ?_)
      · skip
        refine to_iload_n (dat dk_X3_daysIn 17 rfl) rfl (to_sipush (dat dk_X3_daysIn 18 rfl) (by decide) ?_)
        refine to_irem (dat dk_X3_daysIn 19 rfl) (by decide) (fun x5 rx5 => ?_)
        refine to_ifne 40 (dat dk_X3_daysIn 20 rfl) rfl rx5 (fun c6 => ?_) (fun c6 => ?_)
        · skip
          refine to_iconst (dat dk_X3_daysIn 23 rfl) (to_istore_n (L' := [(0, .inl y), (1, .inl m), (2, .inl 0)]) (dat dk_X3_daysIn 24 rfl) (by decide) rfl (to_iload_n (dat dk_X3_daysIn 25 rfl) rfl (to_iconst (dat dk_X3_daysIn 26 rfl) ?_)))
          refine to_ine 56 (dat dk_X3_daysIn 27 rfl) rfl hm (by decide) (fun c7 => ?_) (fun c7 => ?_)
          · skip
            refine to_gst (C := "MailArchive$Dates") (f9 := "MONTH_DAYS") (d9 := "[I") (List.mem_of_getElem? (i := 2) rfl) (tin 4 95 (by decide +kernel) rfl) (dat dk_X3_daysIn 32 rfl) (to_iload_n (dat dk_X3_daysIn 33 rfl) rfl (to_iconst (dat dk_X3_daysIn 34 rfl) (to_isub (dat dk_X3_daysIn 35 rfl) ?_)))
            refine to_saInt (List.mem_of_getElem? (i := 0) rfl) (dat dk_X3_daysIn 36 rfl) (by omega) (fun x8 rx8 => ?_)
            exact to_iret rfl (dat dk_X3_daysIn 37 rfl) (ri_mk (by omega) rfl)
          · skip
            refine to_iload_n (dat dk_X3_daysIn 28 rfl) rfl ?_
            refine to_ifeq 56 (dat dk_X3_daysIn 29 rfl) rfl (by decide) (fun c9 => ?_) (fun c9 => absurd c9 (by decide))
            refine to_gst (C := "MailArchive$Dates") (f9 := "MONTH_DAYS") (d9 := "[I") (List.mem_of_getElem? (i := 2) rfl) (tin 4 95 (by decide +kernel) rfl) (dat dk_X3_daysIn 32 rfl) (to_iload_n (dat dk_X3_daysIn 33 rfl) rfl (to_iconst (dat dk_X3_daysIn 34 rfl) (to_isub (dat dk_X3_daysIn 35 rfl) ?_)))
            refine to_saInt (List.mem_of_getElem? (i := 0) rfl) (dat dk_X3_daysIn 36 rfl) (by omega) (fun x10 rx10 => ?_)
            exact to_iret rfl (dat dk_X3_daysIn 37 rfl) (ri_mk (by omega) rfl)
        · skip
          refine to_iconst (dat dk_X3_daysIn 21 rfl) (to_goto (dat dk_X3_daysIn 22 rfl) rfl (to_istore_n (L' := [(0, .inl y), (1, .inl m), (2, .inl 1)]) (dat dk_X3_daysIn 24 rfl) (by decide) rfl (to_iload_n (dat dk_X3_daysIn 25 rfl) rfl (to_iconst (dat dk_X3_daysIn 26 rfl) ?_))))
          refine to_ine 56 (dat dk_X3_daysIn 27 rfl) rfl hm (by decide) (fun c11 => ?_) (fun c11 => ?_)
          · skip
            refine to_gst (C := "MailArchive$Dates") (f9 := "MONTH_DAYS") (d9 := "[I") (List.mem_of_getElem? (i := 2) rfl) (tin 4 95 (by decide +kernel) rfl) (dat dk_X3_daysIn 32 rfl) (to_iload_n (dat dk_X3_daysIn 33 rfl) rfl (to_iconst (dat dk_X3_daysIn 34 rfl) (to_isub (dat dk_X3_daysIn 35 rfl) ?_)))
            refine to_saInt (List.mem_of_getElem? (i := 0) rfl) (dat dk_X3_daysIn 36 rfl) (by omega) (fun x12 rx12 => ?_)
            exact to_iret rfl (dat dk_X3_daysIn 37 rfl) (ri_mk (by omega) rfl)
          · skip
            refine to_iload_n (dat dk_X3_daysIn 28 rfl) rfl ?_
            refine to_ifeq 56 (dat dk_X3_daysIn 29 rfl) rfl (by decide) (fun c13 => absurd c13 (by decide)) (fun c13 => ?_)
            refine to_bipush (dat dk_X3_daysIn 30 rfl) (by decide) (to_goto (dat dk_X3_daysIn 31 rfl) rfl ?_)
            exact to_iret rfl (dat dk_X3_daysIn 37 rfl) (ri_mk (by decide) rfl)
      · skip
        refine to_iload_n (dat dk_X3_daysIn 13 rfl) rfl (to_bipush (dat dk_X3_daysIn 14 rfl) (by decide) ?_)
        refine to_irem (dat dk_X3_daysIn 15 rfl) (by decide) (fun x14 rx14 => ?_)
        refine to_ifne 36 (dat dk_X3_daysIn 16 rfl) rfl rx14 (fun c15 => ?_) (fun c15 => ?_)
        · skip
          refine to_iconst (dat dk_X3_daysIn 21 rfl) (to_goto (dat dk_X3_daysIn 22 rfl) rfl (to_istore_n (L' := [(0, .inl y), (1, .inl m), (2, .inl 1)]) (dat dk_X3_daysIn 24 rfl) (by decide) rfl (to_iload_n (dat dk_X3_daysIn 25 rfl) rfl (to_iconst (dat dk_X3_daysIn 26 rfl) ?_))))
          refine to_ine 56 (dat dk_X3_daysIn 27 rfl) rfl hm (by decide) (fun c16 => ?_) (fun c16 => ?_)
          · skip
            refine to_gst (C := "MailArchive$Dates") (f9 := "MONTH_DAYS") (d9 := "[I") (List.mem_of_getElem? (i := 2) rfl) (tin 4 95 (by decide +kernel) rfl) (dat dk_X3_daysIn 32 rfl) (to_iload_n (dat dk_X3_daysIn 33 rfl) rfl (to_iconst (dat dk_X3_daysIn 34 rfl) (to_isub (dat dk_X3_daysIn 35 rfl) ?_)))
            refine to_saInt (List.mem_of_getElem? (i := 0) rfl) (dat dk_X3_daysIn 36 rfl) (by omega) (fun x17 rx17 => ?_)
            exact to_iret rfl (dat dk_X3_daysIn 37 rfl) (ri_mk (by omega) rfl)
          · skip
            refine to_iload_n (dat dk_X3_daysIn 28 rfl) rfl ?_
            refine to_ifeq 56 (dat dk_X3_daysIn 29 rfl) rfl (by decide) (fun c18 => absurd c18 (by decide)) (fun c18 => ?_)
            refine to_bipush (dat dk_X3_daysIn 30 rfl) (by decide) (to_goto (dat dk_X3_daysIn 31 rfl) rfl ?_)
            exact to_iret rfl (dat dk_X3_daysIn 37 rfl) (ri_mk (by decide) rfl)
        · skip
          refine to_iload_n (dat dk_X3_daysIn 17 rfl) rfl (to_sipush (dat dk_X3_daysIn 18 rfl) (by decide) ?_)
          refine to_irem (dat dk_X3_daysIn 19 rfl) (by decide) (fun x19 rx19 => ?_)
          refine to_ifne 40 (dat dk_X3_daysIn 20 rfl) rfl rx19 (fun c20 => ?_) (fun c20 => ?_)
          · skip
            refine to_iconst (dat dk_X3_daysIn 23 rfl) (to_istore_n (L' := [(0, .inl y), (1, .inl m), (2, .inl 0)]) (dat dk_X3_daysIn 24 rfl) (by decide) rfl (to_iload_n (dat dk_X3_daysIn 25 rfl) rfl (to_iconst (dat dk_X3_daysIn 26 rfl) ?_)))
            refine to_ine 56 (dat dk_X3_daysIn 27 rfl) rfl hm (by decide) (fun c21 => ?_) (fun c21 => ?_)
            · skip
              refine to_gst (C := "MailArchive$Dates") (f9 := "MONTH_DAYS") (d9 := "[I") (List.mem_of_getElem? (i := 2) rfl) (tin 4 95 (by decide +kernel) rfl) (dat dk_X3_daysIn 32 rfl) (to_iload_n (dat dk_X3_daysIn 33 rfl) rfl (to_iconst (dat dk_X3_daysIn 34 rfl) (to_isub (dat dk_X3_daysIn 35 rfl) ?_)))
              refine to_saInt (List.mem_of_getElem? (i := 0) rfl) (dat dk_X3_daysIn 36 rfl) (by omega) (fun x22 rx22 => ?_)
              exact to_iret rfl (dat dk_X3_daysIn 37 rfl) (ri_mk (by omega) rfl)
            · skip
              refine to_iload_n (dat dk_X3_daysIn 28 rfl) rfl ?_
              refine to_ifeq 56 (dat dk_X3_daysIn 29 rfl) rfl (by decide) (fun c23 => ?_) (fun c23 => absurd c23 (by decide))
              refine to_gst (C := "MailArchive$Dates") (f9 := "MONTH_DAYS") (d9 := "[I") (List.mem_of_getElem? (i := 2) rfl) (tin 4 95 (by decide +kernel) rfl) (dat dk_X3_daysIn 32 rfl) (to_iload_n (dat dk_X3_daysIn 33 rfl) rfl (to_iconst (dat dk_X3_daysIn 34 rfl) (to_isub (dat dk_X3_daysIn 35 rfl) ?_)))
              refine to_saInt (List.mem_of_getElem? (i := 0) rfl) (dat dk_X3_daysIn 36 rfl) (by omega) (fun x24 rx24 => ?_)
              exact to_iret rfl (dat dk_X3_daysIn 37 rfl) (ri_mk (by omega) rfl)
          · skip
            refine to_iconst (dat dk_X3_daysIn 21 rfl) (to_goto (dat dk_X3_daysIn 22 rfl) rfl (to_istore_n (L' := [(0, .inl y), (1, .inl m), (2, .inl 1)]) (dat dk_X3_daysIn 24 rfl) (by decide) rfl (to_iload_n (dat dk_X3_daysIn 25 rfl) rfl (to_iconst (dat dk_X3_daysIn 26 rfl) ?_))))
            refine to_ine 56 (dat dk_X3_daysIn 27 rfl) rfl hm (by decide) (fun c25 => ?_) (fun c25 => ?_)
            · skip
              refine to_gst (C := "MailArchive$Dates") (f9 := "MONTH_DAYS") (d9 := "[I") (List.mem_of_getElem? (i := 2) rfl) (tin 4 95 (by decide +kernel) rfl) (dat dk_X3_daysIn 32 rfl) (to_iload_n (dat dk_X3_daysIn 33 rfl) rfl (to_iconst (dat dk_X3_daysIn 34 rfl) (to_isub (dat dk_X3_daysIn 35 rfl) ?_)))
              refine to_saInt (List.mem_of_getElem? (i := 0) rfl) (dat dk_X3_daysIn 36 rfl) (by omega) (fun x26 rx26 => ?_)
              exact to_iret rfl (dat dk_X3_daysIn 37 rfl) (ri_mk (by omega) rfl)
            · skip
              refine to_iload_n (dat dk_X3_daysIn 28 rfl) rfl ?_
              refine to_ifeq 56 (dat dk_X3_daysIn 29 rfl) rfl (by decide) (fun c27 => absurd c27 (by decide)) (fun c27 => ?_)
              refine to_bipush (dat dk_X3_daysIn 30 rfl) (by decide) (to_goto (dat dk_X3_daysIn 31 rfl) rfl ?_)
              exact to_iret rfl (dat dk_X3_daysIn 37 rfl) (ri_mk (by decide) rfl)
    · skip
      refine to_iconst (dat dk_X3_daysIn 7 rfl) ?_
      exact to_iret rfl (dat dk_X3_daysIn 8 rfl) (ri_mk (by decide) rfl)
abbrev Q_X3_dayNumber (h : Hp) (y : Int) (m : Int) (d : Int) : Option V → Hp → Nat → Nat → Prop := RI (fun x H => h = H)
set_option maxRecDepth 100000 in
theorem ct_X3_dayNumber (l : Launch) (h : Hp) (hI : Inv h) (y : Int) (hy : I32 y) (m : Int) (hm : I32 m) (d : Int) (hd : I32 d) : Ct l D_X3_dayNumber 1 22 [.inl y, .inl m, .inl d] h (Q_X3_dayNumber h y m d) := by
  refine ct_of pn_X3_dayNumber (Nat.le_of_ble_eq_true rfl) ?_
  show To l E_X3_dayNumber (0, [(0, .inl y), (1, .inl m), (2, .inl d)], [], h, 0, 0) _
  refine to_iload_n (dat dk_X3_dayNumber 0 rfl) rfl ?_
  refine to_iflt 25 (dat dk_X3_dayNumber 1 rfl) rfl hy (fun c1 => ?_) (fun c1 => ?_)
  · skip
    refine to_ldc (v := (-1000000)) (x := -1000000) (tin 4 97 (by decide +kernel) rfl) (by decide +kernel) (dat dk_X3_dayNumber 13 rfl) ?_
    exact to_iret rfl (dat dk_X3_dayNumber 14 rfl) (ri_mk (by decide) rfl)
  · skip
    refine to_iload_n (dat dk_X3_dayNumber 2 rfl) rfl (to_sipush (dat dk_X3_dayNumber 3 rfl) (by decide) ?_)
    refine to_igt 25 (dat dk_X3_dayNumber 4 rfl) rfl hy (by decide) (fun c2 => ?_) (fun c2 => ?_)
    · skip
      refine to_ldc (v := (-1000000)) (x := -1000000) (tin 4 97 (by decide +kernel) rfl) (by decide +kernel) (dat dk_X3_dayNumber 13 rfl) ?_
      exact to_iret rfl (dat dk_X3_dayNumber 14 rfl) (ri_mk (by decide) rfl)
    · skip
      refine to_iload_n (dat dk_X3_dayNumber 5 rfl) rfl (to_iconst (dat dk_X3_dayNumber 6 rfl) ?_)
      refine to_ilt 25 (dat dk_X3_dayNumber 7 rfl) rfl hd (by decide) (fun c3 => ?_) (fun c3 => ?_)
      · skip
        refine to_ldc (v := (-1000000)) (x := -1000000) (tin 4 97 (by decide +kernel) rfl) (by decide +kernel) (dat dk_X3_dayNumber 13 rfl) ?_
        exact to_iret rfl (dat dk_X3_dayNumber 14 rfl) (ri_mk (by decide) rfl)
      · skip
        refine to_iload_n (dat dk_X3_dayNumber 8 rfl) rfl (to_iload_n (dat dk_X3_dayNumber 9 rfl) rfl (to_iload_n (dat dk_X3_dayNumber 10 rfl) rfl ?_))
        refine to_cI ca_c4_9 (dat dk_X3_dayNumber 11 rfl) (ct_X3_daysIn l h hI y hy m hm) rfl trivial rfl (fun x4 h5 rx4 p6 => ?_)
        subst p6
        refine to_ile 28 (dat dk_X3_dayNumber 12 rfl) rfl hd rx4 (fun c7 => ?_) (fun c7 => ?_)
        · skip
          refine to_iload_n (dat dk_X3_dayNumber 15 rfl) rfl (to_iconst (dat dk_X3_dayNumber 16 rfl) ?_)
          refine to_iaddA (dat dk_X3_dayNumber 17 rfl) (fun x8 rx8 => ?_)
          refine to_iconst (dat dk_X3_dayNumber 18 rfl) ?_
          refine to_idiv (dat dk_X3_dayNumber 19 rfl) (by decide) (fun x9 rx9 => ?_)
          refine to_iload_n (dat dk_X3_dayNumber 20 rfl) rfl (to_bipush (dat dk_X3_dayNumber 21 rfl) (by decide) ?_)
          refine to_iaddA (dat dk_X3_dayNumber 22 rfl) (fun x10 rx10 => ?_)
          refine to_bipush (dat dk_X3_dayNumber 23 rfl) (by decide) ?_
          refine to_idiv (dat dk_X3_dayNumber 24 rfl) (by decide) (fun x11 rx11 => ?_)
          refine to_isubA (dat dk_X3_dayNumber 25 rfl) (fun x12 rx12 => ?_)
          refine to_iload_n (dat dk_X3_dayNumber 26 rfl) rfl (to_sipush (dat dk_X3_dayNumber 27 rfl) (by decide) ?_)
          refine to_iaddA (dat dk_X3_dayNumber 28 rfl) (fun x13 rx13 => ?_)
          refine to_sipush (dat dk_X3_dayNumber 29 rfl) (by decide) ?_
          refine to_idiv (dat dk_X3_dayNumber 30 rfl) (by decide) (fun x14 rx14 => ?_)
          refine to_iaddA (dat dk_X3_dayNumber 31 rfl) (fun x15 rx15 => ?_)
          refine to_istore_n (L' := [(0, .inl y), (1, .inl m), (2, .inl d), (3, .inl x15)]) (dat dk_X3_dayNumber 32 rfl) (by decide) rfl (to_iload_n (dat dk_X3_dayNumber 33 rfl) rfl (to_sipush (dat dk_X3_dayNumber 34 rfl) (by decide) ?_))
          refine to_imulA (dat dk_X3_dayNumber 35 rfl) (fun x16 rx16 => ?_)
          refine to_iload_n (dat dk_X3_dayNumber 36 rfl) rfl ?_
          refine to_iaddA (dat dk_X3_dayNumber 37 rfl) (fun x17 rx17 => ?_)
          refine to_iload_n (dat dk_X3_dayNumber 38 rfl) rfl ?_
          refine to_iaddA (dat dk_X3_dayNumber 39 rfl) (fun x18 rx18 => ?_)
          refine to_iconst (dat dk_X3_dayNumber 40 rfl) ?_
          refine to_isubA (dat dk_X3_dayNumber 41 rfl) (fun x19 rx19 => ?_)
          refine to_ldc (v := 719528) (x := 719528) (tin 4 98 (by decide +kernel) rfl) (by decide +kernel) (dat dk_X3_dayNumber 42 rfl) ?_
          refine to_isubA (dat dk_X3_dayNumber 43 rfl) (fun x20 rx20 => ?_)
          refine to_istore (L' := [(0, .inl y), (1, .inl m), (2, .inl d), (3, .inl x15), (4, .inl x20)]) (dat dk_X3_dayNumber 44 rfl) (by decide) rfl (to_iconst (dat dk_X3_dayNumber 45 rfl) (to_istore (L' := [(0, .inl y), (1, .inl m), (2, .inl d), (3, .inl x15), (4, .inl x20), (5, .inl 1)]) (dat dk_X3_dayNumber 46 rfl) (by decide) rfl ?_))
          have lp71_n23 : ∀ (n23 : Nat) (y21 : Int) (y22 : Int), (I32 y21) → (I32 y22) → (m - y22 ≤ (n23 : Int)) → To l E_X3_dayNumber (71, [(0, .inl y), (1, .inl m), (2, .inl d), (3, .inl x15), (4, .inl y21), (5, .inl y22)], [], h, 0, 0) (Q_X3_dayNumber h y m d) := by
            intro n23
            induction n23 using Nat.strongRecOn with
            | _ n23 ihn23 =>
            intro y21 y22 ry21 ry22 c24
            refine to_iload (dat dk_X3_dayNumber 47 rfl) rfl (to_iload_n (dat dk_X3_dayNumber 48 rfl) rfl ?_)
            refine to_ige 94 (dat dk_X3_dayNumber 49 rfl) rfl ry22 hm (fun c25 => ?_) (fun c25 => ?_)
            · skip
              refine to_iload (dat dk_X3_dayNumber 58 rfl) rfl ?_
              exact to_iret rfl (dat dk_X3_dayNumber 59 rfl) (ri_mk ry21 rfl)
            · skip
              refine to_iload (dat dk_X3_dayNumber 50 rfl) rfl (to_iload_n (dat dk_X3_dayNumber 51 rfl) rfl (to_iload (dat dk_X3_dayNumber 52 rfl) rfl ?_))
              refine to_cI ca_c4_9 (dat dk_X3_dayNumber 53 rfl) (ct_X3_daysIn l h hI y hy y22 ry22) rfl trivial rfl (fun x26 h27 rx26 p28 => ?_)
              subst p28
              refine to_iaddA (dat dk_X3_dayNumber 54 rfl) (fun x29 rx29 => ?_)
              refine to_istore (L' := [(0, .inl y), (1, .inl m), (2, .inl d), (3, .inl x15), (4, .inl x29), (5, .inl y22)]) (dat dk_X3_dayNumber 55 rfl) (by decide) rfl (to_iinc (L' := [(0, .inl y), (1, .inl m), (2, .inl d), (3, .inl x15), (4, .inl x29), (5, .inl (y22 + 1))]) (dat dk_X3_dayNumber 56 rfl) rfl (by decide) rfl (to_goto (dat dk_X3_dayNumber 57 rfl) rfl ?_))
              exact ihn23 (n23 - 1) (by omega) x29 (y22 + 1) rx29 (by omega) (show m - (y22 + 1) ≤ ((n23 - 1 : Nat) : Int) by omega)
          exact lp71_n23 (m - (1 : Int)).toNat x20 1 rx20 (by decide) (by omega)
        · skip
          refine to_ldc (v := (-1000000)) (x := -1000000) (tin 4 97 (by decide +kernel) rfl) (by decide +kernel) (dat dk_X3_dayNumber 13 rfl) ?_
          exact to_iret rfl (dat dk_X3_dayNumber 14 rfl) (ri_mk (by decide) rfl)
abbrev Q_X3_dayAt (h : Hp) (a : Nat) (f : Int) : Option V → Hp → Nat → Nat → Prop := RI (fun x H => h = H)
set_option maxRecDepth 100000 in
theorem ct_X3_dayAt (l : Launch) (h : Hp) (hI : Inv h) (a : Nat) (ha : isB a = true) (f : Int) (hf : I32 f) : Ct l D_X3_dayAt 2 47 [.inr (.inr a), .inl f] h (Q_X3_dayAt h a f) := by
  refine ct_of pn_X3_dayAt (Nat.le_of_ble_eq_true rfl) ?_
  show To l E_X3_dayAt (0, [(0, .inr (.inr a)), (1, .inl f)], [], h, 0, 0) _
  refine to_aload_np (dat dk_X3_dayAt 0 rfl) (hI.1.2.2.2 _ _ (hI.bty ha)).1 rfl (to_iload_n (dat dk_X3_dayAt 1 rfl) rfl (to_iload_n (dat dk_X3_dayAt 2 rfl) rfl (to_iconst (dat dk_X3_dayAt 3 rfl) ?_)))
  refine to_iaddA (dat dk_X3_dayAt 4 rfl) (fun x1 rx1 => ?_)
  refine to_cI ca_c4_17 (dat dk_X3_dayAt 5 rfl) (ct_X1_numberIn l h hI a ha f hf x1 rx1) rfl ⟨_, _, rfl, (hI.bty ha)⟩ rfl (fun x2 h3 rx2 p4 => ?_)
  subst p4
  refine to_aload_np (dat dk_X3_dayAt 6 rfl) (hI.1.2.2.2 _ _ (hI.bty ha)).1 rfl (to_iload_n (dat dk_X3_dayAt 7 rfl) rfl (to_iconst (dat dk_X3_dayAt 8 rfl) ?_))
  refine to_iaddA (dat dk_X3_dayAt 9 rfl) (fun x5 rx5 => ?_)
  refine to_iload_n (dat dk_X3_dayAt 10 rfl) rfl (to_bipush (dat dk_X3_dayAt 11 rfl) (by decide) ?_)
  refine to_iaddA (dat dk_X3_dayAt 12 rfl) (fun x6 rx6 => ?_)
  refine to_cI ca_c4_17 (dat dk_X3_dayAt 13 rfl) (ct_X1_numberIn l h hI a ha x5 rx5 x6 rx6) rfl ⟨_, _, rfl, (hI.bty ha)⟩ rfl (fun x7 h8 rx7 p9 => ?_)
  subst p9
  refine to_aload_np (dat dk_X3_dayAt 14 rfl) (hI.1.2.2.2 _ _ (hI.bty ha)).1 rfl (to_iload_n (dat dk_X3_dayAt 15 rfl) rfl (to_bipush (dat dk_X3_dayAt 16 rfl) (by decide) ?_))
  refine to_iaddA (dat dk_X3_dayAt 17 rfl) (fun x10 rx10 => ?_)
  refine to_iload_n (dat dk_X3_dayAt 18 rfl) rfl (to_bipush (dat dk_X3_dayAt 19 rfl) (by decide) ?_)
  refine to_iaddA (dat dk_X3_dayAt 20 rfl) (fun x11 rx11 => ?_)
  refine to_cI ca_c4_17 (dat dk_X3_dayAt 21 rfl) (ct_X1_numberIn l h hI a ha x10 rx10 x11 rx11) rfl ⟨_, _, rfl, (hI.bty ha)⟩ rfl (fun x12 h13 rx12 p14 => ?_)
  subst p14
  refine to_cI ca_c4_22 (dat dk_X3_dayAt 22 rfl) (ct_X3_dayNumber l h hI x2 rx2 x7 rx7 x12 rx12) rfl trivial rfl (fun x15 h16 rx15 p17 => ?_)
  subst p17
  exact to_iret rfl (dat dk_X3_dayAt 23 rfl) (ri_mk rx15 rfl)
abbrev Q_X3_isBetween (h : Hp) (b : Int) : Option V → Hp → Nat → Nat → Prop := RI (fun x H => h = H ∧ (x = 0 ∨ x = 1))
set_option maxRecDepth 100000 in
theorem ct_X3_isBetween (l : Launch) (h : Hp) (hI : Inv h) (b : Int) (hb : I32 b) : Ct l D_X3_isBetween 1 20 [.inl b] h (Q_X3_isBetween h b) := by
  refine ct_of pn_X3_isBetween (Nat.le_of_ble_eq_true rfl) ?_
  show To l E_X3_isBetween (0, [(0, .inl b)], [], h, 0, 0) _
  refine to_iload_n (dat dk_X3_isBetween 0 rfl) rfl ?_
  refine to_cI ca_c4_54 (dat dk_X3_isBetween 1 rfl) (ct_X9_isBlank l h hI b hb) rfl trivial rfl (fun x1 h2 rx1 p3 => ?_)
  obtain ⟨rfl, zx1⟩ := p3
  refine to_ifne 13 (dat dk_X3_isBetween 2 rfl) rfl rx1 (fun c4 => ?_) (fun c4 => ?_)
  · skip
    refine to_iconst (dat dk_X3_isBetween 6 rfl) (to_goto (dat dk_X3_isBetween 7 rfl) rfl ?_)
    exact to_zret rfl (dat dk_X3_isBetween 9 rfl) (by decide) (ri_mk (by decide) ⟨rfl, (by decide)⟩)
  · skip
    refine to_iload_n (dat dk_X3_isBetween 3 rfl) rfl (to_bipush (dat dk_X3_isBetween 4 rfl) (by decide) ?_)
    refine to_ine 17 (dat dk_X3_isBetween 5 rfl) rfl hb (by decide) (fun c5 => ?_) (fun c5 => ?_)
    · skip
      refine to_iconst (dat dk_X3_isBetween 8 rfl) ?_
      exact to_zret rfl (dat dk_X3_isBetween 9 rfl) (by decide) (ri_mk (by decide) ⟨rfl, (by decide)⟩)
    · skip
      refine to_iconst (dat dk_X3_isBetween 6 rfl) (to_goto (dat dk_X3_isBetween 7 rfl) rfl ?_)
      exact to_zret rfl (dat dk_X3_isBetween 9 rfl) (by decide) (ri_mk (by decide) ⟨rfl, (by decide)⟩)
abbrev Q_X3_wordStart (h : Hp) (a : Nat) (f : Int) : Option V → Hp → Nat → Nat → Prop := RI (fun x H => h = H ∧ (f ≤ x))
set_option maxRecDepth 100000 in
theorem ct_X3_wordStart (l : Launch) (h : Hp) (hI : Inv h) (a : Nat) (ha : isB a = true) (f : Int) (hf : I32 f) : Ct l D_X3_wordStart 2 40 [.inr (.inr a), .inl f] h (Q_X3_wordStart h a f) := by
  refine ct_of pn_X3_wordStart (Nat.le_of_ble_eq_true rfl) ?_
  show To l E_X3_wordStart (0, [(0, .inr (.inr a)), (1, .inl f)], [], h, 0, 0) _
  refine to_iload_n (dat dk_X3_wordStart 0 rfl) rfl (to_istore_n (L' := [(0, .inr (.inr a)), (1, .inl f), (2, .inl f)]) (dat dk_X3_wordStart 1 rfl) (by decide) rfl ?_)
  have lp2_n3 : ∀ (n3 : Nat) (y1 : Int), (I32 y1) → (f ≤ y1) → (h.2.2 a 1 - y1 ≤ (n3 : Int)) → To l E_X3_wordStart (2, [(0, .inr (.inr a)), (1, .inl f), (2, .inl y1)], [], h, 0, 0) (Q_X3_wordStart h a f) := by
    intro n3
    induction n3 using Nat.strongRecOn with
    | _ n3 ihn3 =>
    intro y1 ry1 c2 c4
    refine to_iload_n (dat dk_X3_wordStart 2 rfl) rfl (to_aload_np (dat dk_X3_wordStart 3 rfl) (hI.1.2.2.2 _ _ (hI.bty ha)).1 rfl ?_)
    obtain ⟨x5, ex5⟩ : ∃ y : Int, h.2.2 a 1 = y := ⟨_, rfl⟩
    have rx5 := hI.blen ha
    rw [ex5] at rx5
    refine to_cI ca_c4_60 (dat dk_X3_wordStart 4 rfl) (ct_X1_size l h hI a ha) rfl ⟨_, _, rfl, (hI.bty ha)⟩ rfl (fun x6 h7 rx6 p8 => ?_)
    obtain ⟨rfl, p8_0⟩ := p8
    refine to_ige 27 (dat dk_X3_wordStart 5 rfl) rfl ry1 rx6 (fun c9 => ?_) (fun c9 => ?_)
    · skip
      refine to_iload_n (dat dk_X3_wordStart 13 rfl) rfl ?_
      exact to_iret rfl (dat dk_X3_wordStart 14 rfl) (ri_mk ry1 ⟨rfl, (show f ≤ y1 by omega)⟩)
    · skip
      refine to_aload_np (dat dk_X3_wordStart 6 rfl) (hI.1.2.2.2 _ _ (hI.bty ha)).1 rfl (to_iload_n (dat dk_X3_wordStart 7 rfl) rfl ?_)
      refine to_cI ca_c4_64 (dat dk_X3_wordStart 8 rfl) (ct_X1_byteAt l h hI a ha y1 ry1) rfl ⟨_, _, rfl, (hI.bty ha)⟩ rfl (fun x10 h11 rx10 p12 => ?_)
      obtain ⟨rfl, p12_0⟩ := p12
      refine to_cI ca_c4_68 (dat dk_X3_wordStart 9 rfl) (ct_X3_isBetween l h hI x10 rx10) rfl trivial rfl (fun x13 h14 rx13 p15 => ?_)
      obtain ⟨rfl, zx13⟩ := p15
      refine to_ifeq 27 (dat dk_X3_wordStart 10 rfl) rfl rx13 (fun c16 => ?_) (fun c16 => ?_)
      · skip
        refine to_iload_n (dat dk_X3_wordStart 13 rfl) rfl ?_
        exact to_iret rfl (dat dk_X3_wordStart 14 rfl) (ri_mk ry1 ⟨rfl, (show f ≤ y1 by omega)⟩)
      · skip
        refine to_iinc (L' := [(0, .inr (.inr a)), (1, .inl f), (2, .inl (y1 + 1))]) (dat dk_X3_wordStart 11 rfl) rfl (by decide) rfl (to_goto (dat dk_X3_wordStart 12 rfl) rfl ?_)
        exact ihn3 (n3 - 1) (by omega) (y1 + 1) (by omega) (show f ≤ (y1 + 1) by omega) (show h.2.2 a 1 - (y1 + 1) ≤ ((n3 - 1 : Nat) : Int) by omega)
  exact lp2_n3 (h.2.2 a 1 - f).toNat f hf (show f ≤ f by omega) (by omega)
abbrev Q_X3_wordStop (h : Hp) (a : Nat) (f : Int) : Option V → Hp → Nat → Nat → Prop := RI (fun x H => h = H ∧ (f ≤ x))
set_option maxRecDepth 100000 in
theorem ct_X3_wordStop (l : Launch) (h : Hp) (hI : Inv h) (a : Nat) (ha : isB a = true) (f : Int) (hf : I32 f) : Ct l D_X3_wordStop 2 40 [.inr (.inr a), .inl f] h (Q_X3_wordStop h a f) := by
  refine ct_of pn_X3_wordStop (Nat.le_of_ble_eq_true rfl) ?_
  show To l E_X3_wordStop (0, [(0, .inr (.inr a)), (1, .inl f)], [], h, 0, 0) _
  refine to_iload_n (dat dk_X3_wordStop 0 rfl) rfl (to_istore_n (L' := [(0, .inr (.inr a)), (1, .inl f), (2, .inl f)]) (dat dk_X3_wordStop 1 rfl) (by decide) rfl ?_)
  have lp2_n3 : ∀ (n3 : Nat) (y1 : Int), (I32 y1) → (f ≤ y1) → (h.2.2 a 1 - y1 ≤ (n3 : Int)) → To l E_X3_wordStop (2, [(0, .inr (.inr a)), (1, .inl f), (2, .inl y1)], [], h, 0, 0) (Q_X3_wordStop h a f) := by
    intro n3
    induction n3 using Nat.strongRecOn with
    | _ n3 ihn3 =>
    intro y1 ry1 c2 c4
    refine to_iload_n (dat dk_X3_wordStop 2 rfl) rfl (to_aload_np (dat dk_X3_wordStop 3 rfl) (hI.1.2.2.2 _ _ (hI.bty ha)).1 rfl ?_)
    obtain ⟨x5, ex5⟩ : ∃ y : Int, h.2.2 a 1 = y := ⟨_, rfl⟩
    have rx5 := hI.blen ha
    rw [ex5] at rx5
    refine to_cI ca_c4_60 (dat dk_X3_wordStop 4 rfl) (ct_X1_size l h hI a ha) rfl ⟨_, _, rfl, (hI.bty ha)⟩ rfl (fun x6 h7 rx6 p8 => ?_)
    obtain ⟨rfl, p8_0⟩ := p8
    refine to_ige 27 (dat dk_X3_wordStop 5 rfl) rfl ry1 rx6 (fun c9 => ?_) (fun c9 => ?_)
    · skip
      refine to_iload_n (dat dk_X3_wordStop 13 rfl) rfl ?_
      exact to_iret rfl (dat dk_X3_wordStop 14 rfl) (ri_mk ry1 ⟨rfl, (show f ≤ y1 by omega)⟩)
    · skip
      refine to_aload_np (dat dk_X3_wordStop 6 rfl) (hI.1.2.2.2 _ _ (hI.bty ha)).1 rfl (to_iload_n (dat dk_X3_wordStop 7 rfl) rfl ?_)
      refine to_cI ca_c4_64 (dat dk_X3_wordStop 8 rfl) (ct_X1_byteAt l h hI a ha y1 ry1) rfl ⟨_, _, rfl, (hI.bty ha)⟩ rfl (fun x10 h11 rx10 p12 => ?_)
      obtain ⟨rfl, p12_0⟩ := p12
      refine to_cI ca_c4_68 (dat dk_X3_wordStop 9 rfl) (ct_X3_isBetween l h hI x10 rx10) rfl trivial rfl (fun x13 h14 rx13 p15 => ?_)
      obtain ⟨rfl, zx13⟩ := p15
      refine to_ifne 27 (dat dk_X3_wordStop 10 rfl) rfl rx13 (fun c16 => ?_) (fun c16 => ?_)
      · skip
        refine to_iload_n (dat dk_X3_wordStop 13 rfl) rfl ?_
        exact to_iret rfl (dat dk_X3_wordStop 14 rfl) (ri_mk ry1 ⟨rfl, (show f ≤ y1 by omega)⟩)
      · skip
        refine to_iinc (L' := [(0, .inr (.inr a)), (1, .inl f), (2, .inl (y1 + 1))]) (dat dk_X3_wordStop 11 rfl) rfl (by decide) rfl (to_goto (dat dk_X3_wordStop 12 rfl) rfl ?_)
        exact ihn3 (n3 - 1) (by omega) (y1 + 1) (by omega) (show f ≤ (y1 + 1) by omega) (show h.2.2 a 1 - (y1 + 1) ≤ ((n3 - 1 : Nat) : Int) by omega)
  exact lp2_n3 (h.2.2 a 1 - f).toNat f hf (show f ≤ f by omega) (by omega)
abbrev Q_X3_isOfLetters (h : Hp) (a : Nat) (f : Int) (t : Int) : Option V → Hp → Nat → Nat → Prop := RI (fun x H => h = H ∧ (x = 0 ∨ x = 1))
set_option maxRecDepth 100000 in
theorem ct_X3_isOfLetters (l : Launch) (h : Hp) (hI : Inv h) (a : Nat) (ha : isB a = true) (f : Int) (hf : I32 f) (t : Int) (ht : I32 t) : Ct l D_X3_isOfLetters 1 21 [.inr (.inr a), .inl f, .inl t] h (Q_X3_isOfLetters h a f t) := by
  refine ct_of pn_X3_isOfLetters (Nat.le_of_ble_eq_true rfl) ?_
  show To l E_X3_isOfLetters (0, [(0, .inr (.inr a)), (1, .inl f), (2, .inl t)], [], h, 0, 0) _
  refine to_iload_n (dat dk_X3_isOfLetters 0 rfl) rfl (to_istore_n (L' := [(0, .inr (.inr a)), (1, .inl f), (2, .inl t), (3, .inl f)]) (dat dk_X3_isOfLetters 1 rfl) (by decide) rfl ?_)
  have lp2_n2 : ∀ (n2 : Nat) (y1 : Int), (I32 y1) → (t - y1 ≤ (n2 : Int)) → To l E_X3_isOfLetters (2, [(0, .inr (.inr a)), (1, .inl f), (2, .inl t), (3, .inl y1)], [], h, 0, 0) (Q_X3_isOfLetters h a f t) := by
    intro n2
    induction n2 using Nat.strongRecOn with
    | _ n2 ihn2 =>
    intro y1 ry1 c3
    refine to_iload_n (dat dk_X3_isOfLetters 2 rfl) rfl (to_iload_n (dat dk_X3_isOfLetters 3 rfl) rfl ?_)
    refine to_ige 26 (dat dk_X3_isOfLetters 4 rfl) rfl ry1 ht (fun c4 => ?_) (fun c4 => ?_)
    · skip
      refine to_iload_n (dat dk_X3_isOfLetters 14 rfl) rfl (to_iload_n (dat dk_X3_isOfLetters 15 rfl) rfl ?_)
      refine to_ile 35 (dat dk_X3_isOfLetters 16 rfl) rfl ht hf (fun c5 => ?_) (fun c5 => ?_)
      · skip
        refine to_iconst (dat dk_X3_isOfLetters 19 rfl) ?_
        exact to_zret rfl (dat dk_X3_isOfLetters 20 rfl) (by decide) (ri_mk (by decide) ⟨rfl, (by decide)⟩)
      · skip
        refine to_iconst (dat dk_X3_isOfLetters 17 rfl) (to_goto (dat dk_X3_isOfLetters 18 rfl) rfl ?_)
        exact to_zret rfl (dat dk_X3_isOfLetters 20 rfl) (by decide) (ri_mk (by decide) ⟨rfl, (by decide)⟩)
    · skip
      refine to_aload_np (dat dk_X3_isOfLetters 5 rfl) (hI.1.2.2.2 _ _ (hI.bty ha)).1 rfl (to_iload_n (dat dk_X3_isOfLetters 6 rfl) rfl ?_)
      obtain ⟨x6, ex6⟩ : ∃ y : Int, h.2.2 a 1 = y := ⟨_, rfl⟩
      have rx6 := hI.blen ha
      rw [ex6] at rx6
      refine to_cI ca_c4_64 (dat dk_X3_isOfLetters 7 rfl) (ct_X1_byteAt l h hI a ha y1 ry1) rfl ⟨_, _, rfl, (hI.bty ha)⟩ rfl (fun x7 h8 rx7 p9 => ?_)
      obtain ⟨rfl, p9_0⟩ := p9
      refine to_cI ca_c4_71 (dat dk_X3_isOfLetters 8 rfl) (ct_X9_isLetter l h hI x7 rx7) rfl trivial rfl (fun x10 h11 rx10 p12 => ?_)
      obtain ⟨rfl, zx10⟩ := p12
      refine to_ifne 20 (dat dk_X3_isOfLetters 9 rfl) rfl rx10 (fun c13 => ?_) (fun c13 => ?_)
      · skip
        refine to_iinc (L' := [(0, .inr (.inr a)), (1, .inl f), (2, .inl t), (3, .inl (y1 + 1))]) (dat dk_X3_isOfLetters 12 rfl) rfl (by decide) rfl (to_goto (dat dk_X3_isOfLetters 13 rfl) rfl ?_)
        exact ihn2 (n2 - 1) (by omega) (y1 + 1) (by omega) (show t - (y1 + 1) ≤ ((n2 - 1 : Nat) : Int) by omega)
      · skip
        refine to_iconst (dat dk_X3_isOfLetters 10 rfl) ?_
        exact to_zret rfl (dat dk_X3_isOfLetters 11 rfl) (by decide) (ri_mk (by decide) ⟨rfl, (by decide)⟩)
  exact lp2_n2 (t - f).toNat f hf (by omega)
abbrev Q_X3_isMonthAt (h : Hp) (a : Nat) (f : Int) (m : Int) : Option V → Hp → Nat → Nat → Prop := RI (fun x H => h = H ∧ (x = 0 ∨ x = 1))
set_option maxRecDepth 100000 in
theorem ct_X3_isMonthAt (l : Launch) (h : Hp) (hI : Inv h) (a : Nat) (ha : isB a = true) (f : Int) (hf : I32 f) (m : Int) (hm : I32 m) (g0 : 0 ≤ m ∧ m ≤ 33) : Ct l D_X3_isMonthAt 5 106 [.inr (.inr a), .inl f, .inl m] h (Q_X3_isMonthAt h a f m) := by
  refine ct_of pn_X3_isMonthAt (Nat.le_of_ble_eq_true rfl) ?_
  show To l E_X3_isMonthAt (0, [(0, .inr (.inr a)), (1, .inl f), (2, .inl m)], [], h, 0, 0) _
  refine to_iconst (dat dk_X3_isMonthAt 0 rfl) (to_istore_n (L' := [(0, .inr (.inr a)), (1, .inl f), (2, .inl m), (3, .inl 0)]) (dat dk_X3_isMonthAt 1 rfl) (by decide) rfl ?_)
  have lp2_n3 : ∀ (n3 : Nat) (y1 : Int), (I32 y1) → (0 ≤ y1) → (3 - y1 ≤ (n3 : Int)) → To l E_X3_isMonthAt (2, [(0, .inr (.inr a)), (1, .inl f), (2, .inl m), (3, .inl y1)], [], h, 0, 0) (Q_X3_isMonthAt h a f m) := by
    intro n3
    induction n3 using Nat.strongRecOn with
    | _ n3 ihn3 =>
    intro y1 ry1 c2 c4
    refine to_iload_n (dat dk_X3_isMonthAt 2 rfl) rfl (to_iconst (dat dk_X3_isMonthAt 3 rfl) ?_)
    refine to_ige 47 (dat dk_X3_isMonthAt 4 rfl) rfl ry1 (by decide) (fun c5 => ?_) (fun c5 => ?_)
    · skip
      refine to_iconst (dat dk_X3_isMonthAt 27 rfl) ?_
      exact to_zret rfl (dat dk_X3_isMonthAt 28 rfl) (by decide) (ri_mk (by decide) ⟨rfl, (by decide)⟩)
    · skip
      refine to_iload_n (dat dk_X3_isMonthAt 5 rfl) rfl (to_iload_n (dat dk_X3_isMonthAt 6 rfl) rfl (to_iadd (dat dk_X3_isMonthAt 7 rfl) (to_ldcS (q := 117) (tx := "janfebmaraprmayjunjulaugsepoctnovdec") (List.mem_of_getElem? (i := 8) rfl) (dat dk_X3_isMonthAt 8 rfl) ?_)))
      refine to_cI ca_c4_79 (dat dk_X3_isMonthAt 9 rfl) (ct_J0_length_8abf5 l h hI 1000117 36 (List.mem_of_getElem? (i := 8) rfl)) rfl (recvS (n := 36) (List.mem_of_getElem? (i := 8) rfl)) rfl (fun x6 h7 rx6 p8 => ?_)
      obtain ⟨rfl, p8_0⟩ := p8
      refine to_ige 47 (dat dk_X3_isMonthAt 10 rfl) rfl (by omega) rx6 (fun c9 => ?_) (fun c9 => ?_)
      · skip
        refine to_iconst (dat dk_X3_isMonthAt 27 rfl) ?_
        exact to_zret rfl (dat dk_X3_isMonthAt 28 rfl) (by decide) (ri_mk (by decide) ⟨rfl, (by decide)⟩)
      · skip
        refine to_aload_np (dat dk_X3_isMonthAt 11 rfl) (hI.1.2.2.2 _ _ (hI.bty ha)).1 rfl (to_iload_n (dat dk_X3_isMonthAt 12 rfl) rfl (to_iload_n (dat dk_X3_isMonthAt 13 rfl) rfl ?_))
        refine to_iaddA (dat dk_X3_isMonthAt 14 rfl) (fun x10 rx10 => ?_)
        obtain ⟨x11, ex11⟩ : ∃ y : Int, h.2.2 a 1 = y := ⟨_, rfl⟩
        have rx11 := hI.blen ha
        rw [ex11] at rx11
        refine to_cI ca_c4_64 (dat dk_X3_isMonthAt 15 rfl) (ct_X1_byteAt l h hI a ha x10 rx10) rfl ⟨_, _, rfl, (hI.bty ha)⟩ rfl (fun x12 h13 rx12 p14 => ?_)
        obtain ⟨rfl, p14_0⟩ := p14
        refine to_cI ca_c4_84 (dat dk_X3_isMonthAt 16 rfl) (ct_X9_small l h hI x12 rx12) rfl trivial rfl (fun x15 h16 rx15 p17 => ?_)
        subst p17
        refine to_ldcS (q := 117) (tx := "janfebmaraprmayjunjulaugsepoctnovdec") (List.mem_of_getElem? (i := 8) rfl) (dat dk_X3_isMonthAt 17 rfl) (to_iload_n (dat dk_X3_isMonthAt 18 rfl) rfl (to_iload_n (dat dk_X3_isMonthAt 19 rfl) rfl (to_iadd (dat dk_X3_isMonthAt 20 rfl) ?_)))
        refine to_cI ca_c4_87 (dat dk_X3_isMonthAt 21 rfl) (ct_J0_charAt_5068e l h hI 1000117 36 (List.mem_of_getElem? (i := 8) rfl) (m + y1) (by omega) (show 0 ≤ (m + y1) ∧ (m + y1) < (36 : Int) by omega)) rfl (recvS (n := 36) (List.mem_of_getElem? (i := 8) rfl)) rfl (fun x18 h19 rx18 p20 => ?_)
        obtain ⟨rfl, p20_0⟩ := p20
        refine to_ieq 41 (dat dk_X3_isMonthAt 22 rfl) rfl rx15 rx18 (fun c21 => ?_) (fun c21 => ?_)
        · skip
          refine to_iinc (L' := [(0, .inr (.inr a)), (1, .inl f), (2, .inl m), (3, .inl (y1 + 1))]) (dat dk_X3_isMonthAt 25 rfl) rfl (by decide) rfl (to_goto (dat dk_X3_isMonthAt 26 rfl) rfl ?_)
          exact ihn3 (n3 - 1) (by omega) (y1 + 1) (by omega) (show 0 ≤ (y1 + 1) by omega) (show 3 - (y1 + 1) ≤ ((n3 - 1 : Nat) : Int) by omega)
        · skip
          refine to_iconst (dat dk_X3_isMonthAt 23 rfl) ?_
          exact to_zret rfl (dat dk_X3_isMonthAt 24 rfl) (by decide) (ri_mk (by decide) ⟨rfl, (by decide)⟩)
  exact lp2_n3 (3 - (0 : Int)).toNat 0 (by decide) (show 0 ≤ (0 : Int) by omega) (by omega)
abbrev Q_X3_monthAt (h : Hp) (a : Nat) (f : Int) : Option V → Hp → Nat → Nat → Prop := RI (fun x H => h = H)
set_option maxRecDepth 100000 in
theorem ct_X3_monthAt (l : Launch) (h : Hp) (hI : Inv h) (a : Nat) (ha : isB a = true) (f : Int) (hf : I32 f) : Ct l D_X3_monthAt 6 129 [.inr (.inr a), .inl f] h (Q_X3_monthAt h a f) := by
  refine ct_of pn_X3_monthAt (Nat.le_of_ble_eq_true rfl) ?_
  show To l E_X3_monthAt (0, [(0, .inr (.inr a)), (1, .inl f)], [], h, 0, 0) _
  refine to_iconst (dat dk_X3_monthAt 0 rfl) (to_istore_n (L' := [(0, .inr (.inr a)), (1, .inl f), (2, .inl 0)]) (dat dk_X3_monthAt 1 rfl) (by decide) rfl ?_)
  have lp2_n3 : ∀ (n3 : Nat) (y1 : Int), (I32 y1) → (0 ≤ y1) → (12 - y1 ≤ (n3 : Int)) → To l E_X3_monthAt (2, [(0, .inr (.inr a)), (1, .inl f), (2, .inl y1)], [], h, 0, 0) (Q_X3_monthAt h a f) := by
    intro n3
    induction n3 using Nat.strongRecOn with
    | _ n3 ihn3 =>
    intro y1 ry1 c2 c4
    refine to_iload_n (dat dk_X3_monthAt 2 rfl) rfl (to_bipush (dat dk_X3_monthAt 3 rfl) (by decide) ?_)
    refine to_ige 29 (dat dk_X3_monthAt 4 rfl) rfl ry1 (by decide) (fun c5 => ?_) (fun c5 => ?_)
    · skip
      refine to_iconst (dat dk_X3_monthAt 18 rfl) ?_
      exact to_iret rfl (dat dk_X3_monthAt 19 rfl) (ri_mk (by decide) rfl)
    · skip
      refine to_aload_np (dat dk_X3_monthAt 5 rfl) (hI.1.2.2.2 _ _ (hI.bty ha)).1 rfl (to_iload_n (dat dk_X3_monthAt 6 rfl) rfl (to_iload_n (dat dk_X3_monthAt 7 rfl) rfl (to_iconst (dat dk_X3_monthAt 8 rfl) (to_imul (dat dk_X3_monthAt 9 rfl) ?_))))
      refine to_cI ca_c4_74 (dat dk_X3_monthAt 10 rfl) (ct_X3_isMonthAt l h hI a ha f hf (y1 * 3) (by omega) (show 0 ≤ (y1 * 3) ∧ (y1 * 3) ≤ 33 by omega)) rfl trivial rfl (fun x6 h7 rx6 p8 => ?_)
      obtain ⟨rfl, zx6⟩ := p8
      refine to_ifeq 23 (dat dk_X3_monthAt 11 rfl) rfl rx6 (fun c9 => ?_) (fun c9 => ?_)
      · skip
        refine to_iinc (L' := [(0, .inr (.inr a)), (1, .inl f), (2, .inl (y1 + 1))]) (dat dk_X3_monthAt 16 rfl) rfl (by decide) rfl (to_goto (dat dk_X3_monthAt 17 rfl) rfl ?_)
        exact ihn3 (n3 - 1) (by omega) (y1 + 1) (by omega) (show 0 ≤ (y1 + 1) by omega) (show 12 - (y1 + 1) ≤ ((n3 - 1 : Nat) : Int) by omega)
      · skip
        refine to_iload_n (dat dk_X3_monthAt 12 rfl) rfl (to_iconst (dat dk_X3_monthAt 13 rfl) (to_iadd (dat dk_X3_monthAt 14 rfl) ?_))
        exact to_iret rfl (dat dk_X3_monthAt 15 rfl) (ri_mk (by omega) rfl)
  exact lp2_n3 (12 - (0 : Int)).toNat 0 (by decide) (show 0 ≤ (0 : Int) by omega) (by omega)
abbrev Q_X3_yearIn (h : Hp) (a : Nat) (f : Int) (t : Int) : Option V → Hp → Nat → Nat → Prop := RI (fun x H => h = H)
set_option maxRecDepth 100000 in
theorem ct_X3_yearIn (l : Launch) (h : Hp) (hI : Inv h) (a : Nat) (ha : isB a = true) (f : Int) (hf : I32 f) (t : Int) (ht : I32 t) : Ct l D_X3_yearIn 2 45 [.inr (.inr a), .inl f, .inl t] h (Q_X3_yearIn h a f t) := by
  refine ct_of pn_X3_yearIn (Nat.le_of_ble_eq_true rfl) ?_
  show To l E_X3_yearIn (0, [(0, .inr (.inr a)), (1, .inl f), (2, .inl t)], [], h, 0, 0) _
  refine to_aload_np (dat dk_X3_yearIn 0 rfl) (hI.1.2.2.2 _ _ (hI.bty ha)).1 rfl (to_iload_n (dat dk_X3_yearIn 1 rfl) rfl (to_iload_n (dat dk_X3_yearIn 2 rfl) rfl ?_))
  refine to_cI ca_c4_17 (dat dk_X3_yearIn 3 rfl) (ct_X1_numberIn l h hI a ha f hf t ht) rfl ⟨_, _, rfl, (hI.bty ha)⟩ rfl (fun x1 h2 rx1 p3 => ?_)
  subst p3
  refine to_istore_n (L' := [(0, .inr (.inr a)), (1, .inl f), (2, .inl t), (3, .inl x1)]) (dat dk_X3_yearIn 4 rfl) (by decide) rfl (to_iload_n (dat dk_X3_yearIn 5 rfl) rfl (to_iload_n (dat dk_X3_yearIn 6 rfl) rfl ?_))
  refine to_isubA (dat dk_X3_yearIn 7 rfl) (fun x4 rx4 => ?_)
  refine to_iconst (dat dk_X3_yearIn 8 rfl) ?_
  refine to_ieq 19 (dat dk_X3_yearIn 9 rfl) rfl rx4 (by decide) (fun c5 => ?_) (fun c5 => ?_)
  · skip
    refine to_iload_n (dat dk_X3_yearIn 13 rfl) rfl ?_
    exact to_iret rfl (dat dk_X3_yearIn 14 rfl) (ri_mk rx1 rfl)
  · skip
    refine to_iload_n (dat dk_X3_yearIn 10 rfl) rfl (to_iconst (dat dk_X3_yearIn 11 rfl) ?_)
    refine to_ine 21 (dat dk_X3_yearIn 12 rfl) rfl rx1 (by decide) (fun c6 => ?_) (fun c6 => ?_)
    · skip
      refine to_iload_n (dat dk_X3_yearIn 15 rfl) rfl (to_iload_n (dat dk_X3_yearIn 16 rfl) rfl ?_)
      refine to_isubA (dat dk_X3_yearIn 17 rfl) (fun x7 rx7 => ?_)
      refine to_iconst (dat dk_X3_yearIn 18 rfl) ?_
      refine to_ieq 30 (dat dk_X3_yearIn 19 rfl) rfl rx7 (by decide) (fun c8 => ?_) (fun c8 => ?_)
      · skip
        refine to_iload_n (dat dk_X3_yearIn 22 rfl) rfl (to_bipush (dat dk_X3_yearIn 23 rfl) (by decide) ?_)
        refine to_ige 44 (dat dk_X3_yearIn 24 rfl) rfl rx1 (by decide) (fun c9 => ?_) (fun c9 => ?_)
        · skip
          refine to_iload_n (dat dk_X3_yearIn 29 rfl) rfl (to_sipush (dat dk_X3_yearIn 30 rfl) (by decide) ?_)
          refine to_iaddA (dat dk_X3_yearIn 31 rfl) (fun x10 rx10 => ?_)
          exact to_iret rfl (dat dk_X3_yearIn 32 rfl) (ri_mk rx10 rfl)
        · skip
          refine to_iload_n (dat dk_X3_yearIn 25 rfl) rfl (to_sipush (dat dk_X3_yearIn 26 rfl) (by decide) ?_)
          refine to_iaddA (dat dk_X3_yearIn 27 rfl) (fun x11 rx11 => ?_)
          refine to_goto (dat dk_X3_yearIn 28 rfl) rfl ?_
          exact to_iret rfl (dat dk_X3_yearIn 32 rfl) (ri_mk rx11 rfl)
      · skip
        refine to_iconst (dat dk_X3_yearIn 20 rfl) ?_
        exact to_iret rfl (dat dk_X3_yearIn 21 rfl) (ri_mk (by decide) rfl)
    · skip
      refine to_iload_n (dat dk_X3_yearIn 13 rfl) rfl ?_
      exact to_iret rfl (dat dk_X3_yearIn 14 rfl) (ri_mk rx1 rfl)
abbrev Q_X3_isBelow (h : Hp) (n : Int) (b : Int) : Option V → Hp → Nat → Nat → Prop := RI (fun x H => h = H ∧ (x = 0 ∨ x = 1))
set_option maxRecDepth 100000 in
theorem ct_X3_isBelow (l : Launch) (h : Hp) (hI : Inv h) (n : Int) (hn : I32 n) (b : Int) (hb : I32 b) : Ct l D_X3_isBelow 0 0 [.inl n, .inl b] h (Q_X3_isBelow h n b) := by
  refine ct_of pn_X3_isBelow (Nat.le_of_ble_eq_true rfl) ?_
  show To l E_X3_isBelow (0, [(0, .inl n), (1, .inl b)], [], h, 0, 0) _
  refine to_iload_n (dat dk_X3_isBelow 0 rfl) rfl ?_
  refine to_iflt 13 (dat dk_X3_isBelow 1 rfl) rfl hn (fun c1 => ?_) (fun c1 => ?_)
  · skip
    refine to_iconst (dat dk_X3_isBelow 7 rfl) ?_
    exact to_zret rfl (dat dk_X3_isBelow 8 rfl) (by decide) (ri_mk (by decide) ⟨rfl, (by decide)⟩)
  · skip
    refine to_iload_n (dat dk_X3_isBelow 2 rfl) rfl (to_iload_n (dat dk_X3_isBelow 3 rfl) rfl ?_)
    refine to_ige 13 (dat dk_X3_isBelow 4 rfl) rfl hn hb (fun c2 => ?_) (fun c2 => ?_)
    · skip
      refine to_iconst (dat dk_X3_isBelow 7 rfl) ?_
      exact to_zret rfl (dat dk_X3_isBelow 8 rfl) (by decide) (ri_mk (by decide) ⟨rfl, (by decide)⟩)
    · skip
      refine to_iconst (dat dk_X3_isBelow 5 rfl) (to_goto (dat dk_X3_isBelow 6 rfl) rfl ?_)
      exact to_zret rfl (dat dk_X3_isBelow 8 rfl) (by decide) (ri_mk (by decide) ⟨rfl, (by decide)⟩)
abbrev Q_X3_hoursAndMinutes (h : Hp) (a : Nat) (f : Int) (g : Int) : Option V → Hp → Nat → Nat → Prop := RI (fun x H => h = H)
set_option maxRecDepth 100000 in
theorem ct_X3_hoursAndMinutes (l : Launch) (h : Hp) (hI : Inv h) (a : Nat) (ha : isB a = true) (f : Int) (hf : I32 f) (g : Int) (hg : I32 g) : Ct l D_X3_hoursAndMinutes 2 45 [.inr (.inr a), .inl f, .inl g] h (Q_X3_hoursAndMinutes h a f g) := by
  refine ct_of pn_X3_hoursAndMinutes (Nat.le_of_ble_eq_true rfl) ?_
  show To l E_X3_hoursAndMinutes (0, [(0, .inr (.inr a)), (1, .inl f), (2, .inl g)], [], h, 0, 0) _
  refine to_aload_np (dat dk_X3_hoursAndMinutes 0 rfl) (hI.1.2.2.2 _ _ (hI.bty ha)).1 rfl (to_iload_n (dat dk_X3_hoursAndMinutes 1 rfl) rfl (to_iload_n (dat dk_X3_hoursAndMinutes 2 rfl) rfl (to_iconst (dat dk_X3_hoursAndMinutes 3 rfl) ?_)))
  refine to_iaddA (dat dk_X3_hoursAndMinutes 4 rfl) (fun x1 rx1 => ?_)
  refine to_cI ca_c4_17 (dat dk_X3_hoursAndMinutes 5 rfl) (ct_X1_numberIn l h hI a ha f hf x1 rx1) rfl ⟨_, _, rfl, (hI.bty ha)⟩ rfl (fun x2 h3 rx2 p4 => ?_)
  subst p4
  refine to_istore_n (L' := [(0, .inr (.inr a)), (1, .inl f), (2, .inl g), (3, .inl x2)]) (dat dk_X3_hoursAndMinutes 6 rfl) (by decide) rfl (to_aload_np (dat dk_X3_hoursAndMinutes 7 rfl) (hI.1.2.2.2 _ _ (hI.bty ha)).1 rfl (to_iload_n (dat dk_X3_hoursAndMinutes 8 rfl) rfl (to_iload_n (dat dk_X3_hoursAndMinutes 9 rfl) rfl (to_iconst (dat dk_X3_hoursAndMinutes 10 rfl) ?_))))
  refine to_iaddA (dat dk_X3_hoursAndMinutes 11 rfl) (fun x5 rx5 => ?_)
  refine to_cI ca_c4_17 (dat dk_X3_hoursAndMinutes 12 rfl) (ct_X1_numberIn l h hI a ha g hg x5 rx5) rfl ⟨_, _, rfl, (hI.bty ha)⟩ rfl (fun x6 h7 rx6 p8 => ?_)
  subst p8
  refine to_istore (L' := [(0, .inr (.inr a)), (1, .inl f), (2, .inl g), (3, .inl x2), (4, .inl x6)]) (dat dk_X3_hoursAndMinutes 13 rfl) (by decide) rfl (to_iload_n (dat dk_X3_hoursAndMinutes 14 rfl) rfl (to_bipush (dat dk_X3_hoursAndMinutes 15 rfl) (by decide) ?_))
  refine to_cI ca_c4_91 (dat dk_X3_hoursAndMinutes 16 rfl) (ct_X3_isBelow l h hI x2 rx2 24 (by decide)) rfl trivial rfl (fun x9 h10 rx9 p11 => ?_)
  obtain ⟨rfl, zx9⟩ := p11
  refine to_ifeq 48 (dat dk_X3_hoursAndMinutes 17 rfl) rfl rx9 (fun c12 => ?_) (fun c12 => ?_)
  · skip
    refine to_iconst (dat dk_X3_hoursAndMinutes 28 rfl) ?_
    exact to_iret rfl (dat dk_X3_hoursAndMinutes 29 rfl) (ri_mk (by decide) rfl)
  · skip
    refine to_iload (dat dk_X3_hoursAndMinutes 18 rfl) rfl (to_bipush (dat dk_X3_hoursAndMinutes 19 rfl) (by decide) ?_)
    refine to_cI ca_c4_91 (dat dk_X3_hoursAndMinutes 20 rfl) (ct_X3_isBelow l h hI x6 rx6 60 (by decide)) rfl trivial rfl (fun x13 h14 rx13 p15 => ?_)
    obtain ⟨rfl, zx13⟩ := p15
    refine to_ifeq 48 (dat dk_X3_hoursAndMinutes 21 rfl) rfl rx13 (fun c16 => ?_) (fun c16 => ?_)
    · skip
      refine to_iconst (dat dk_X3_hoursAndMinutes 28 rfl) ?_
      exact to_iret rfl (dat dk_X3_hoursAndMinutes 29 rfl) (ri_mk (by decide) rfl)
    · skip
      refine to_iload_n (dat dk_X3_hoursAndMinutes 22 rfl) rfl (to_bipush (dat dk_X3_hoursAndMinutes 23 rfl) (by decide) ?_)
      refine to_imulA (dat dk_X3_hoursAndMinutes 24 rfl) (fun x17 rx17 => ?_)
      refine to_iload (dat dk_X3_hoursAndMinutes 25 rfl) rfl ?_
      refine to_iaddA (dat dk_X3_hoursAndMinutes 26 rfl) (fun x18 rx18 => ?_)
      refine to_goto (dat dk_X3_hoursAndMinutes 27 rfl) rfl ?_
      exact to_iret rfl (dat dk_X3_hoursAndMinutes 29 rfl) (ri_mk rx18 rfl)
abbrev Q_X3_timeIn (h : Hp) (a : Nat) (f : Int) (t : Int) : Option V → Hp → Nat → Nat → Prop := RI (fun x H => h = H)
set_option maxRecDepth 100000 in
theorem ct_X3_timeIn (l : Launch) (h : Hp) (hI : Inv h) (a : Nat) (ha : isB a = true) (f : Int) (hf : I32 f) (t : Int) (ht : I32 t) : Ct l D_X3_timeIn 3 69 [.inr (.inr a), .inl f, .inl t] h (Q_X3_timeIn h a f t) := by
  refine ct_of pn_X3_timeIn (Nat.le_of_ble_eq_true rfl) ?_
  show To l E_X3_timeIn (0, [(0, .inr (.inr a)), (1, .inl f), (2, .inl t)], [], h, 0, 0) _
  refine to_iload_n (dat dk_X3_timeIn 0 rfl) rfl (to_iload_n (dat dk_X3_timeIn 1 rfl) rfl ?_)
  refine to_isubA (dat dk_X3_timeIn 2 rfl) (fun x1 rx1 => ?_)
  refine to_istore_n (L' := [(0, .inr (.inr a)), (1, .inl f), (2, .inl t), (3, .inl x1)]) (dat dk_X3_timeIn 3 rfl) (by decide) rfl (to_iload_n (dat dk_X3_timeIn 4 rfl) rfl (to_iconst (dat dk_X3_timeIn 5 rfl) ?_))
  refine to_ieq 15 (dat dk_X3_timeIn 6 rfl) rfl rx1 (by decide) (fun c2 => ?_) (fun c2 => ?_)
  · skip
    refine to_aload_np (dat dk_X3_timeIn 10 rfl) (hI.1.2.2.2 _ _ (hI.bty ha)).1 rfl (to_iload_n (dat dk_X3_timeIn 11 rfl) rfl (to_iconst (dat dk_X3_timeIn 12 rfl) ?_))
    refine to_iaddA (dat dk_X3_timeIn 13 rfl) (fun x3 rx3 => ?_)
    obtain ⟨x4, ex4⟩ : ∃ y : Int, h.2.2 a 1 = y := ⟨_, rfl⟩
    have rx4 := hI.blen ha
    rw [ex4] at rx4
    refine to_cI ca_c4_64 (dat dk_X3_timeIn 14 rfl) (ct_X1_byteAt l h hI a ha x3 rx3) rfl ⟨_, _, rfl, (hI.bty ha)⟩ rfl (fun x5 h6 rx5 p7 => ?_)
    obtain ⟨rfl, p7_0⟩ := p7
    refine to_bipush (dat dk_X3_timeIn 15 rfl) (by decide) ?_
    refine to_ieq 29 (dat dk_X3_timeIn 16 rfl) rfl rx5 (by decide) (fun c8 => ?_) (fun c8 => ?_)
    · skip
      refine to_iload_n (dat dk_X3_timeIn 19 rfl) rfl (to_bipush (dat dk_X3_timeIn 20 rfl) (by decide) ?_)
      refine to_ine 69 (dat dk_X3_timeIn 21 rfl) rfl rx1 (by decide) (fun c9 => ?_) (fun c9 => ?_)
      · skip
        refine to_aload_np (dat dk_X3_timeIn 42 rfl) (hI.1.2.2.2 _ _ (hI.bty ha)).1 rfl (to_iload_n (dat dk_X3_timeIn 43 rfl) rfl (to_iload_n (dat dk_X3_timeIn 44 rfl) rfl (to_iconst (dat dk_X3_timeIn 45 rfl) ?_)))
        refine to_iaddA (dat dk_X3_timeIn 46 rfl) (fun x10 rx10 => ?_)
        refine to_cI ca_c4_95 (dat dk_X3_timeIn 47 rfl) (ct_X3_hoursAndMinutes l h hI a ha f hf x10 rx10) rfl trivial rfl (fun x11 h12 rx11 p13 => ?_)
        subst p13
        exact to_iret rfl (dat dk_X3_timeIn 48 rfl) (ri_mk rx11 rfl)
      · skip
        refine to_aload_np (dat dk_X3_timeIn 22 rfl) (hI.1.2.2.2 _ _ (hI.bty ha)).1 rfl (to_iload_n (dat dk_X3_timeIn 23 rfl) rfl (to_iconst (dat dk_X3_timeIn 24 rfl) ?_))
        refine to_iaddA (dat dk_X3_timeIn 25 rfl) (fun x14 rx14 => ?_)
        refine to_cI ca_c4_64 (dat dk_X3_timeIn 26 rfl) (ct_X1_byteAt l h hI a ha x14 rx14) rfl ⟨_, _, rfl, (hI.bty ha)⟩ rfl (fun x15 h16 rx15 p17 => ?_)
        obtain ⟨rfl, p17_0⟩ := p17
        refine to_bipush (dat dk_X3_timeIn 27 rfl) (by decide) ?_
        refine to_ine 67 (dat dk_X3_timeIn 28 rfl) rfl rx15 (by decide) (fun c18 => ?_) (fun c18 => ?_)
        · skip
          refine to_iconst (dat dk_X3_timeIn 40 rfl) ?_
          exact to_iret rfl (dat dk_X3_timeIn 41 rfl) (ri_mk (by decide) rfl)
        · skip
          refine to_aload_np (dat dk_X3_timeIn 29 rfl) (hI.1.2.2.2 _ _ (hI.bty ha)).1 rfl (to_iload_n (dat dk_X3_timeIn 30 rfl) rfl (to_bipush (dat dk_X3_timeIn 31 rfl) (by decide) ?_))
          refine to_iaddA (dat dk_X3_timeIn 32 rfl) (fun x19 rx19 => ?_)
          refine to_iload_n (dat dk_X3_timeIn 33 rfl) rfl (to_bipush (dat dk_X3_timeIn 34 rfl) (by decide) ?_)
          refine to_iaddA (dat dk_X3_timeIn 35 rfl) (fun x20 rx20 => ?_)
          refine to_cI ca_c4_17 (dat dk_X3_timeIn 36 rfl) (ct_X1_numberIn l h hI a ha x19 rx19 x20 rx20) rfl ⟨_, _, rfl, (hI.bty ha)⟩ rfl (fun x21 h22 rx21 p23 => ?_)
          subst p23
          refine to_bipush (dat dk_X3_timeIn 37 rfl) (by decide) ?_
          refine to_cI ca_c4_91 (dat dk_X3_timeIn 38 rfl) (ct_X3_isBelow l h hI x21 rx21 61 (by decide)) rfl trivial rfl (fun x24 h25 rx24 p26 => ?_)
          obtain ⟨rfl, zx24⟩ := p26
          refine to_ifne 69 (dat dk_X3_timeIn 39 rfl) rfl rx24 (fun c27 => ?_) (fun c27 => ?_)
          · skip
            refine to_aload_np (dat dk_X3_timeIn 42 rfl) (hI.1.2.2.2 _ _ (hI.bty ha)).1 rfl (to_iload_n (dat dk_X3_timeIn 43 rfl) rfl (to_iload_n (dat dk_X3_timeIn 44 rfl) rfl (to_iconst (dat dk_X3_timeIn 45 rfl) ?_)))
            refine to_iaddA (dat dk_X3_timeIn 46 rfl) (fun x28 rx28 => ?_)
            refine to_cI ca_c4_95 (dat dk_X3_timeIn 47 rfl) (ct_X3_hoursAndMinutes l h hI a ha f hf x28 rx28) rfl trivial rfl (fun x29 h30 rx29 p31 => ?_)
            subst p31
            exact to_iret rfl (dat dk_X3_timeIn 48 rfl) (ri_mk rx29 rfl)
          · skip
            refine to_iconst (dat dk_X3_timeIn 40 rfl) ?_
            exact to_iret rfl (dat dk_X3_timeIn 41 rfl) (ri_mk (by decide) rfl)
    · skip
      refine to_iconst (dat dk_X3_timeIn 17 rfl) ?_
      exact to_iret rfl (dat dk_X3_timeIn 18 rfl) (ri_mk (by decide) rfl)
  · skip
    refine to_iload_n (dat dk_X3_timeIn 7 rfl) rfl (to_bipush (dat dk_X3_timeIn 8 rfl) (by decide) ?_)
    refine to_ine 27 (dat dk_X3_timeIn 9 rfl) rfl rx1 (by decide) (fun c32 => ?_) (fun c32 => ?_)
    · skip
      refine to_iconst (dat dk_X3_timeIn 17 rfl) ?_
      exact to_iret rfl (dat dk_X3_timeIn 18 rfl) (ri_mk (by decide) rfl)
    · skip
      refine to_aload_np (dat dk_X3_timeIn 10 rfl) (hI.1.2.2.2 _ _ (hI.bty ha)).1 rfl (to_iload_n (dat dk_X3_timeIn 11 rfl) rfl (to_iconst (dat dk_X3_timeIn 12 rfl) ?_))
      refine to_iaddA (dat dk_X3_timeIn 13 rfl) (fun x33 rx33 => ?_)
      obtain ⟨x34, ex34⟩ : ∃ y : Int, h.2.2 a 1 = y := ⟨_, rfl⟩
      have rx34 := hI.blen ha
      rw [ex34] at rx34
      refine to_cI ca_c4_64 (dat dk_X3_timeIn 14 rfl) (ct_X1_byteAt l h hI a ha x33 rx33) rfl ⟨_, _, rfl, (hI.bty ha)⟩ rfl (fun x35 h36 rx35 p37 => ?_)
      obtain ⟨rfl, p37_0⟩ := p37
      refine to_bipush (dat dk_X3_timeIn 15 rfl) (by decide) ?_
      refine to_ieq 29 (dat dk_X3_timeIn 16 rfl) rfl rx35 (by decide) (fun c38 => ?_) (fun c38 => ?_)
      · skip
        refine to_iload_n (dat dk_X3_timeIn 19 rfl) rfl (to_bipush (dat dk_X3_timeIn 20 rfl) (by decide) ?_)
        refine to_ine 69 (dat dk_X3_timeIn 21 rfl) rfl rx1 (by decide) (fun c39 => ?_) (fun c39 => ?_)
        · skip
          refine to_aload_np (dat dk_X3_timeIn 42 rfl) (hI.1.2.2.2 _ _ (hI.bty ha)).1 rfl (to_iload_n (dat dk_X3_timeIn 43 rfl) rfl (to_iload_n (dat dk_X3_timeIn 44 rfl) rfl (to_iconst (dat dk_X3_timeIn 45 rfl) ?_)))
          refine to_iaddA (dat dk_X3_timeIn 46 rfl) (fun x40 rx40 => ?_)
          refine to_cI ca_c4_95 (dat dk_X3_timeIn 47 rfl) (ct_X3_hoursAndMinutes l h hI a ha f hf x40 rx40) rfl trivial rfl (fun x41 h42 rx41 p43 => ?_)
          subst p43
          exact to_iret rfl (dat dk_X3_timeIn 48 rfl) (ri_mk rx41 rfl)
        · skip
          refine to_aload_np (dat dk_X3_timeIn 22 rfl) (hI.1.2.2.2 _ _ (hI.bty ha)).1 rfl (to_iload_n (dat dk_X3_timeIn 23 rfl) rfl (to_iconst (dat dk_X3_timeIn 24 rfl) ?_))
          refine to_iaddA (dat dk_X3_timeIn 25 rfl) (fun x44 rx44 => ?_)
          refine to_cI ca_c4_64 (dat dk_X3_timeIn 26 rfl) (ct_X1_byteAt l h hI a ha x44 rx44) rfl ⟨_, _, rfl, (hI.bty ha)⟩ rfl (fun x45 h46 rx45 p47 => ?_)
          obtain ⟨rfl, p47_0⟩ := p47
          refine to_bipush (dat dk_X3_timeIn 27 rfl) (by decide) ?_
          refine to_ine 67 (dat dk_X3_timeIn 28 rfl) rfl rx45 (by decide) (fun c48 => ?_) (fun c48 => ?_)
          · skip
            refine to_iconst (dat dk_X3_timeIn 40 rfl) ?_
            exact to_iret rfl (dat dk_X3_timeIn 41 rfl) (ri_mk (by decide) rfl)
          · skip
            refine to_aload_np (dat dk_X3_timeIn 29 rfl) (hI.1.2.2.2 _ _ (hI.bty ha)).1 rfl (to_iload_n (dat dk_X3_timeIn 30 rfl) rfl (to_bipush (dat dk_X3_timeIn 31 rfl) (by decide) ?_))
            refine to_iaddA (dat dk_X3_timeIn 32 rfl) (fun x49 rx49 => ?_)
            refine to_iload_n (dat dk_X3_timeIn 33 rfl) rfl (to_bipush (dat dk_X3_timeIn 34 rfl) (by decide) ?_)
            refine to_iaddA (dat dk_X3_timeIn 35 rfl) (fun x50 rx50 => ?_)
            refine to_cI ca_c4_17 (dat dk_X3_timeIn 36 rfl) (ct_X1_numberIn l h hI a ha x49 rx49 x50 rx50) rfl ⟨_, _, rfl, (hI.bty ha)⟩ rfl (fun x51 h52 rx51 p53 => ?_)
            subst p53
            refine to_bipush (dat dk_X3_timeIn 37 rfl) (by decide) ?_
            refine to_cI ca_c4_91 (dat dk_X3_timeIn 38 rfl) (ct_X3_isBelow l h hI x51 rx51 61 (by decide)) rfl trivial rfl (fun x54 h55 rx54 p56 => ?_)
            obtain ⟨rfl, zx54⟩ := p56
            refine to_ifne 69 (dat dk_X3_timeIn 39 rfl) rfl rx54 (fun c57 => ?_) (fun c57 => ?_)
            · skip
              refine to_aload_np (dat dk_X3_timeIn 42 rfl) (hI.1.2.2.2 _ _ (hI.bty ha)).1 rfl (to_iload_n (dat dk_X3_timeIn 43 rfl) rfl (to_iload_n (dat dk_X3_timeIn 44 rfl) rfl (to_iconst (dat dk_X3_timeIn 45 rfl) ?_)))
              refine to_iaddA (dat dk_X3_timeIn 46 rfl) (fun x58 rx58 => ?_)
              refine to_cI ca_c4_95 (dat dk_X3_timeIn 47 rfl) (ct_X3_hoursAndMinutes l h hI a ha f hf x58 rx58) rfl trivial rfl (fun x59 h60 rx59 p61 => ?_)
              subst p61
              exact to_iret rfl (dat dk_X3_timeIn 48 rfl) (ri_mk rx59 rfl)
            · skip
              refine to_iconst (dat dk_X3_timeIn 40 rfl) ?_
              exact to_iret rfl (dat dk_X3_timeIn 41 rfl) (ri_mk (by decide) rfl)
      · skip
        refine to_iconst (dat dk_X3_timeIn 17 rfl) ?_
        exact to_iret rfl (dat dk_X3_timeIn 18 rfl) (ri_mk (by decide) rfl)
abbrev Q_X3_zoneIn (h : Hp) (a : Nat) (f : Int) (t : Int) : Option V → Hp → Nat → Nat → Prop := RI (fun x H => h = H)
set_option maxRecDepth 100000 in
theorem ct_X3_zoneIn (l : Launch) (h : Hp) (hI : Inv h) (a : Nat) (ha : isB a = true) (f : Int) (hf : I32 f) (t : Int) (ht : I32 t) : Ct l D_X3_zoneIn 3 69 [.inr (.inr a), .inl f, .inl t] h (Q_X3_zoneIn h a f t) := by
  refine ct_of pn_X3_zoneIn (Nat.le_of_ble_eq_true rfl) ?_
  show To l E_X3_zoneIn (0, [(0, .inr (.inr a)), (1, .inl f), (2, .inl t)], [], h, 0, 0) _
  refine to_aload_np (dat dk_X3_zoneIn 0 rfl) (hI.1.2.2.2 _ _ (hI.bty ha)).1 rfl (to_iload_n (dat dk_X3_zoneIn 1 rfl) rfl ?_)
  obtain ⟨x1, ex1⟩ : ∃ y : Int, h.2.2 a 1 = y := ⟨_, rfl⟩
  have rx1 := hI.blen ha
  rw [ex1] at rx1
  refine to_cI ca_c4_64 (dat dk_X3_zoneIn 2 rfl) (ct_X1_byteAt l h hI a ha f hf) rfl ⟨_, _, rfl, (hI.bty ha)⟩ rfl (fun x2 h3 rx2 p4 => ?_)
  obtain ⟨rfl, p4_0⟩ := p4
  refine to_istore_n (L' := [(0, .inr (.inr a)), (1, .inl f), (2, .inl t), (3, .inl x2)]) (dat dk_X3_zoneIn 3 rfl) (by decide) rfl (to_iload_n (dat dk_X3_zoneIn 4 rfl) rfl (to_iload_n (dat dk_X3_zoneIn 5 rfl) rfl ?_))
  refine to_isubA (dat dk_X3_zoneIn 6 rfl) (fun x5 rx5 => ?_)
  refine to_iconst (dat dk_X3_zoneIn 7 rfl) ?_
  refine to_ine 25 (dat dk_X3_zoneIn 8 rfl) rfl rx5 (by decide) (fun c6 => ?_) (fun c6 => ?_)
  · skip
    refine to_iconst (dat dk_X3_zoneIn 15 rfl) ?_
    exact to_iret rfl (dat dk_X3_zoneIn 16 rfl) (ri_mk (by decide) rfl)
  · skip
    refine to_iload_n (dat dk_X3_zoneIn 9 rfl) rfl (to_bipush (dat dk_X3_zoneIn 10 rfl) (by decide) ?_)
    refine to_ieq 27 (dat dk_X3_zoneIn 11 rfl) rfl rx2 (by decide) (fun c7 => ?_) (fun c7 => ?_)
    · skip
      refine to_aload_np (dat dk_X3_zoneIn 17 rfl) (hI.1.2.2.2 _ _ (hI.bty ha)).1 rfl (to_iload_n (dat dk_X3_zoneIn 18 rfl) rfl (to_iconst (dat dk_X3_zoneIn 19 rfl) ?_))
      refine to_iaddA (dat dk_X3_zoneIn 20 rfl) (fun x8 rx8 => ?_)
      refine to_iload_n (dat dk_X3_zoneIn 21 rfl) rfl (to_iconst (dat dk_X3_zoneIn 22 rfl) ?_)
      refine to_iaddA (dat dk_X3_zoneIn 23 rfl) (fun x9 rx9 => ?_)
      refine to_cI ca_c4_95 (dat dk_X3_zoneIn 24 rfl) (ct_X3_hoursAndMinutes l h hI a ha x8 rx8 x9 rx9) rfl trivial rfl (fun x10 h11 rx10 p12 => ?_)
      subst p12
      refine to_istore (L' := [(0, .inr (.inr a)), (1, .inl f), (2, .inl t), (3, .inl x2), (4, .inl x10)]) (dat dk_X3_zoneIn 25 rfl) (by decide) rfl (to_iload (dat dk_X3_zoneIn 26 rfl) rfl (to_iconst (dat dk_X3_zoneIn 27 rfl) ?_))
      refine to_ine 47 (dat dk_X3_zoneIn 28 rfl) rfl rx10 (by decide) (fun c13 => ?_) (fun c13 => ?_)
      · skip
        refine to_iload_n (dat dk_X3_zoneIn 31 rfl) rfl (to_bipush (dat dk_X3_zoneIn 32 rfl) (by decide) ?_)
        refine to_ine 58 (dat dk_X3_zoneIn 33 rfl) rfl rx2 (by decide) (fun c14 => ?_) (fun c14 => ?_)
        · skip
          refine to_iload (dat dk_X3_zoneIn 36 rfl) rfl ?_
          refine to_inegA (dat dk_X3_zoneIn 37 rfl) (fun x15 rx15 => ?_)
          exact to_iret rfl (dat dk_X3_zoneIn 38 rfl) (ri_mk rx15 rfl)
        · skip
          refine to_iload (dat dk_X3_zoneIn 34 rfl) rfl (to_goto (dat dk_X3_zoneIn 35 rfl) rfl ?_)
          exact to_iret rfl (dat dk_X3_zoneIn 38 rfl) (ri_mk rx10 rfl)
      · skip
        refine to_iconst (dat dk_X3_zoneIn 29 rfl) ?_
        exact to_iret rfl (dat dk_X3_zoneIn 30 rfl) (ri_mk (by decide) rfl)
    · skip
      refine to_iload_n (dat dk_X3_zoneIn 12 rfl) rfl (to_bipush (dat dk_X3_zoneIn 13 rfl) (by decide) ?_)
      refine to_ieq 27 (dat dk_X3_zoneIn 14 rfl) rfl rx2 (by decide) (fun c16 => ?_) (fun c16 => ?_)
      · skip
        refine to_aload_np (dat dk_X3_zoneIn 17 rfl) (hI.1.2.2.2 _ _ (hI.bty ha)).1 rfl (to_iload_n (dat dk_X3_zoneIn 18 rfl) rfl (to_iconst (dat dk_X3_zoneIn 19 rfl) ?_))
        refine to_iaddA (dat dk_X3_zoneIn 20 rfl) (fun x17 rx17 => ?_)
        refine to_iload_n (dat dk_X3_zoneIn 21 rfl) rfl (to_iconst (dat dk_X3_zoneIn 22 rfl) ?_)
        refine to_iaddA (dat dk_X3_zoneIn 23 rfl) (fun x18 rx18 => ?_)
        refine to_cI ca_c4_95 (dat dk_X3_zoneIn 24 rfl) (ct_X3_hoursAndMinutes l h hI a ha x17 rx17 x18 rx18) rfl trivial rfl (fun x19 h20 rx19 p21 => ?_)
        subst p21
        refine to_istore (L' := [(0, .inr (.inr a)), (1, .inl f), (2, .inl t), (3, .inl x2), (4, .inl x19)]) (dat dk_X3_zoneIn 25 rfl) (by decide) rfl (to_iload (dat dk_X3_zoneIn 26 rfl) rfl (to_iconst (dat dk_X3_zoneIn 27 rfl) ?_))
        refine to_ine 47 (dat dk_X3_zoneIn 28 rfl) rfl rx19 (by decide) (fun c22 => ?_) (fun c22 => ?_)
        · skip
          refine to_iload_n (dat dk_X3_zoneIn 31 rfl) rfl (to_bipush (dat dk_X3_zoneIn 32 rfl) (by decide) ?_)
          refine to_ine 58 (dat dk_X3_zoneIn 33 rfl) rfl rx2 (by decide) (fun c23 => ?_) (fun c23 => ?_)
          · skip
            refine to_iload (dat dk_X3_zoneIn 36 rfl) rfl ?_
            refine to_inegA (dat dk_X3_zoneIn 37 rfl) (fun x24 rx24 => ?_)
            exact to_iret rfl (dat dk_X3_zoneIn 38 rfl) (ri_mk rx24 rfl)
          · skip
            refine to_iload (dat dk_X3_zoneIn 34 rfl) rfl (to_goto (dat dk_X3_zoneIn 35 rfl) rfl ?_)
            exact to_iret rfl (dat dk_X3_zoneIn 38 rfl) (ri_mk rx19 rfl)
        · skip
          refine to_iconst (dat dk_X3_zoneIn 29 rfl) ?_
          exact to_iret rfl (dat dk_X3_zoneIn 30 rfl) (ri_mk (by decide) rfl)
      · skip
        refine to_iconst (dat dk_X3_zoneIn 15 rfl) ?_
        exact to_iret rfl (dat dk_X3_zoneIn 16 rfl) (ri_mk (by decide) rfl)
abbrev Q_X3_minutes (h : Hp) (a : Nat) : Option V → Hp → Nat → Nat → Prop := RI (fun x H => h = H)
set_option maxRecDepth 100000 in
theorem ct_X3_minutes (l : Launch) (h : Hp) (hI : Inv h) (a : Nat) (ha : isB a = true) : Ct l D_X3_minutes 7 151 [.inr (.inr a)] h (Q_X3_minutes h a) := by
  refine ct_of pn_X3_minutes (Nat.le_of_ble_eq_true rfl) ?_
  show To l E_X3_minutes (0, [(0, .inr (.inr a))], [], h, 0, 0) _
  refine to_aload_np (dat dk_X3_minutes 0 rfl) (hI.1.2.2.2 _ _ (hI.bty ha)).1 rfl (to_iconst (dat dk_X3_minutes 1 rfl) ?_)
  refine to_cI ca_c4_26 (dat dk_X3_minutes 2 rfl) (ct_X3_wordStart l h hI a ha 0 (by decide)) rfl trivial rfl (fun x1 h2 rx1 p3 => ?_)
  obtain ⟨rfl, p3_0⟩ := p3
  refine to_istore_n (L' := [(0, .inr (.inr a)), (1, .inl x1)]) (dat dk_X3_minutes 3 rfl) (by decide) rfl (to_aload_np (dat dk_X3_minutes 4 rfl) (hI.1.2.2.2 _ _ (hI.bty ha)).1 rfl (to_iload_n (dat dk_X3_minutes 5 rfl) rfl ?_))
  refine to_cI ca_c4_30 (dat dk_X3_minutes 6 rfl) (ct_X3_wordStop l h hI a ha x1 rx1) rfl trivial rfl (fun x4 h5 rx4 p6 => ?_)
  obtain ⟨rfl, p6_0⟩ := p6
  refine to_istore_n (L' := [(0, .inr (.inr a)), (1, .inl x1), (2, .inl x4)]) (dat dk_X3_minutes 7 rfl) (by decide) rfl (to_aload_np (dat dk_X3_minutes 8 rfl) (hI.1.2.2.2 _ _ (hI.bty ha)).1 rfl (to_iload_n (dat dk_X3_minutes 9 rfl) rfl (to_iload_n (dat dk_X3_minutes 10 rfl) rfl ?_)))
  refine to_cI ca_c4_33 (dat dk_X3_minutes 11 rfl) (ct_X3_isOfLetters l h hI a ha x1 rx1 x4 rx4) rfl trivial rfl (fun x7 h8 rx7 p9 => ?_)
  obtain ⟨rfl, zx7⟩ := p9
  refine to_ifeq 33 (dat dk_X3_minutes 12 rfl) rfl rx7 (fun c10 => ?_) (fun c10 => ?_)
  · skip
    refine to_iload_n (dat dk_X3_minutes 21 rfl) rfl (to_iload_n (dat dk_X3_minutes 22 rfl) rfl ?_)
    refine to_isubA (dat dk_X3_minutes 23 rfl) (fun x11 rx11 => ?_)
    refine to_iconst (dat dk_X3_minutes 24 rfl) ?_
    refine to_igt 49 (dat dk_X3_minutes 25 rfl) rfl rx11 (by decide) (fun c12 => ?_) (fun c12 => ?_)
    · skip
      refine to_iconst (dat dk_X3_minutes 31 rfl) (to_istore_n (L' := [(0, .inr (.inr a)), (1, .inl x1), (2, .inl x4), (3, .inl (-1))]) (dat dk_X3_minutes 32 rfl) (by decide) rfl (to_aload_np (dat dk_X3_minutes 33 rfl) (hI.1.2.2.2 _ _ (hI.bty ha)).1 rfl (to_iload_n (dat dk_X3_minutes 34 rfl) rfl ?_)))
      refine to_cI ca_c4_26 (dat dk_X3_minutes 35 rfl) (ct_X3_wordStart l h hI a ha x4 rx4) rfl trivial rfl (fun x13 h14 rx13 p15 => ?_)
      obtain ⟨rfl, p15_0⟩ := p15
      refine to_istore_n (L' := [(0, .inr (.inr a)), (1, .inl x13), (2, .inl x4), (3, .inl (-1))]) (dat dk_X3_minutes 36 rfl) (by decide) rfl (to_aload_np (dat dk_X3_minutes 37 rfl) (hI.1.2.2.2 _ _ (hI.bty ha)).1 rfl (to_iload_n (dat dk_X3_minutes 38 rfl) rfl ?_))
      refine to_cI ca_c4_30 (dat dk_X3_minutes 39 rfl) (ct_X3_wordStop l h hI a ha x13 rx13) rfl trivial rfl (fun x16 h17 rx16 p18 => ?_)
      obtain ⟨rfl, p18_0⟩ := p18
      refine to_istore_n (L' := [(0, .inr (.inr a)), (1, .inl x13), (2, .inl x16), (3, .inl (-1))]) (dat dk_X3_minutes 40 rfl) (by decide) rfl (to_aload_np (dat dk_X3_minutes 41 rfl) (hI.1.2.2.2 _ _ (hI.bty ha)).1 rfl (to_iload_n (dat dk_X3_minutes 42 rfl) rfl ?_))
      refine to_cI ca_c4_37 (dat dk_X3_minutes 43 rfl) (ct_X3_monthAt l h hI a ha x13 rx13) rfl trivial rfl (fun x19 h20 rx19 p21 => ?_)
      subst p21
      refine to_istore (L' := [(0, .inr (.inr a)), (1, .inl x13), (2, .inl x16), (3, .inl (-1)), (4, .inl x19)]) (dat dk_X3_minutes 44 rfl) (by decide) rfl (to_aload_np (dat dk_X3_minutes 45 rfl) (hI.1.2.2.2 _ _ (hI.bty ha)).1 rfl (to_iload_n (dat dk_X3_minutes 46 rfl) rfl ?_))
      refine to_cI ca_c4_26 (dat dk_X3_minutes 47 rfl) (ct_X3_wordStart l h hI a ha x16 rx16) rfl trivial rfl (fun x22 h23 rx22 p24 => ?_)
      obtain ⟨rfl, p24_0⟩ := p24
      refine to_istore_n (L' := [(0, .inr (.inr a)), (1, .inl x22), (2, .inl x16), (3, .inl (-1)), (4, .inl x19)]) (dat dk_X3_minutes 48 rfl) (by decide) rfl (to_aload_np (dat dk_X3_minutes 49 rfl) (hI.1.2.2.2 _ _ (hI.bty ha)).1 rfl (to_iload_n (dat dk_X3_minutes 50 rfl) rfl ?_))
      refine to_cI ca_c4_30 (dat dk_X3_minutes 51 rfl) (ct_X3_wordStop l h hI a ha x22 rx22) rfl trivial rfl (fun x25 h26 rx25 p27 => ?_)
      obtain ⟨rfl, p27_0⟩ := p27
      refine to_istore_n (L' := [(0, .inr (.inr a)), (1, .inl x22), (2, .inl x25), (3, .inl (-1)), (4, .inl x19)]) (dat dk_X3_minutes 52 rfl) (by decide) rfl (to_aload_np (dat dk_X3_minutes 53 rfl) (hI.1.2.2.2 _ _ (hI.bty ha)).1 rfl (to_iload_n (dat dk_X3_minutes 54 rfl) rfl (to_iload_n (dat dk_X3_minutes 55 rfl) rfl ?_)))
      refine to_cI ca_c4_40 (dat dk_X3_minutes 56 rfl) (ct_X3_yearIn l h hI a ha x22 rx22 x25 rx25) rfl trivial rfl (fun x28 h29 rx28 p30 => ?_)
      subst p30
      refine to_istore (L' := [(0, .inr (.inr a)), (1, .inl x22), (2, .inl x25), (3, .inl (-1)), (4, .inl x19), (5, .inl x28)]) (dat dk_X3_minutes 57 rfl) (by decide) rfl (to_aload_np (dat dk_X3_minutes 58 rfl) (hI.1.2.2.2 _ _ (hI.bty ha)).1 rfl (to_iload_n (dat dk_X3_minutes 59 rfl) rfl ?_))
      refine to_cI ca_c4_26 (dat dk_X3_minutes 60 rfl) (ct_X3_wordStart l h hI a ha x25 rx25) rfl trivial rfl (fun x31 h32 rx31 p33 => ?_)
      obtain ⟨rfl, p33_0⟩ := p33
      refine to_istore_n (L' := [(0, .inr (.inr a)), (1, .inl x31), (2, .inl x25), (3, .inl (-1)), (4, .inl x19), (5, .inl x28)]) (dat dk_X3_minutes 61 rfl) (by decide) rfl (to_aload_np (dat dk_X3_minutes 62 rfl) (hI.1.2.2.2 _ _ (hI.bty ha)).1 rfl (to_iload_n (dat dk_X3_minutes 63 rfl) rfl ?_))
      refine to_cI ca_c4_30 (dat dk_X3_minutes 64 rfl) (ct_X3_wordStop l h hI a ha x31 rx31) rfl trivial rfl (fun x34 h35 rx34 p36 => ?_)
      obtain ⟨rfl, p36_0⟩ := p36
      refine to_istore_n (L' := [(0, .inr (.inr a)), (1, .inl x31), (2, .inl x34), (3, .inl (-1)), (4, .inl x19), (5, .inl x28)]) (dat dk_X3_minutes 65 rfl) (by decide) rfl (to_aload_np (dat dk_X3_minutes 66 rfl) (hI.1.2.2.2 _ _ (hI.bty ha)).1 rfl (to_iload_n (dat dk_X3_minutes 67 rfl) rfl (to_iload_n (dat dk_X3_minutes 68 rfl) rfl ?_)))
      refine to_cI ca_c4_44 (dat dk_X3_minutes 69 rfl) (ct_X3_timeIn l h hI a ha x31 rx31 x34 rx34) rfl trivial rfl (fun x37 h38 rx37 p39 => ?_)
      subst p39
      refine to_istore (L' := [(0, .inr (.inr a)), (1, .inl x31), (2, .inl x34), (3, .inl (-1)), (4, .inl x19), (5, .inl x28), (6, .inl x37)]) (dat dk_X3_minutes 70 rfl) (by decide) rfl (to_aload_np (dat dk_X3_minutes 71 rfl) (hI.1.2.2.2 _ _ (hI.bty ha)).1 rfl (to_iload_n (dat dk_X3_minutes 72 rfl) rfl ?_))
      refine to_cI ca_c4_26 (dat dk_X3_minutes 73 rfl) (ct_X3_wordStart l h hI a ha x34 rx34) rfl trivial rfl (fun x40 h41 rx40 p42 => ?_)
      obtain ⟨rfl, p42_0⟩ := p42
      refine to_istore_n (L' := [(0, .inr (.inr a)), (1, .inl x40), (2, .inl x34), (3, .inl (-1)), (4, .inl x19), (5, .inl x28), (6, .inl x37)]) (dat dk_X3_minutes 74 rfl) (by decide) rfl (to_aload_np (dat dk_X3_minutes 75 rfl) (hI.1.2.2.2 _ _ (hI.bty ha)).1 rfl (to_iload_n (dat dk_X3_minutes 76 rfl) rfl ?_))
      refine to_cI ca_c4_30 (dat dk_X3_minutes 77 rfl) (ct_X3_wordStop l h hI a ha x40 rx40) rfl trivial rfl (fun x43 h44 rx43 p45 => ?_)
      obtain ⟨rfl, p45_0⟩ := p45
      refine to_istore_n (L' := [(0, .inr (.inr a)), (1, .inl x40), (2, .inl x43), (3, .inl (-1)), (4, .inl x19), (5, .inl x28), (6, .inl x37)]) (dat dk_X3_minutes 78 rfl) (by decide) rfl (to_iload (dat dk_X3_minutes 79 rfl) rfl (to_iload (dat dk_X3_minutes 80 rfl) rfl (to_iload_n (dat dk_X3_minutes 81 rfl) rfl ?_)))
      refine to_cI ca_c4_22 (dat dk_X3_minutes 82 rfl) (ct_X3_dayNumber l h hI x28 rx28 x19 rx19 (-1) (by decide)) rfl trivial rfl (fun x46 h47 rx46 p48 => ?_)
      subst p48
      refine to_istore (L' := [(0, .inr (.inr a)), (1, .inl x40), (2, .inl x43), (3, .inl (-1)), (4, .inl x19), (5, .inl x28), (6, .inl x37), (7, .inl x46)]) (dat dk_X3_minutes 83 rfl) (by decide) rfl (to_iload (dat dk_X3_minutes 84 rfl) rfl (to_ldc (v := (-1000000)) (x := -1000000) (tin 4 97 (by decide +kernel) rfl) (by decide +kernel) (dat dk_X3_minutes 85 rfl) ?_))
      refine to_ieq 161 (dat dk_X3_minutes 86 rfl) rfl rx46 (by decide) (fun c49 => ?_) (fun c49 => ?_)
      · skip
        refine to_iconst (dat dk_X3_minutes 96 rfl) ?_
        exact to_iret rfl (dat dk_X3_minutes 97 rfl) (ri_mk (by decide) rfl)
      · skip
        refine to_iload (dat dk_X3_minutes 87 rfl) rfl (to_iconst (dat dk_X3_minutes 88 rfl) ?_)
        refine to_ieq 161 (dat dk_X3_minutes 89 rfl) rfl rx37 (by decide) (fun c50 => ?_) (fun c50 => ?_)
        · skip
          refine to_iconst (dat dk_X3_minutes 96 rfl) ?_
          exact to_iret rfl (dat dk_X3_minutes 97 rfl) (ri_mk (by decide) rfl)
        · skip
          refine to_iload (dat dk_X3_minutes 90 rfl) rfl (to_sipush (dat dk_X3_minutes 91 rfl) (by decide) ?_)
          refine to_ilt 161 (dat dk_X3_minutes 92 rfl) rfl rx28 (by decide) (fun c51 => ?_) (fun c51 => ?_)
          · skip
            refine to_iconst (dat dk_X3_minutes 96 rfl) ?_
            exact to_iret rfl (dat dk_X3_minutes 97 rfl) (ri_mk (by decide) rfl)
          · skip
            refine to_iload (dat dk_X3_minutes 93 rfl) rfl (to_sipush (dat dk_X3_minutes 94 rfl) (by decide) ?_)
            refine to_ile 163 (dat dk_X3_minutes 95 rfl) rfl rx28 (by decide) (fun c52 => ?_) (fun c52 => ?_)
            · skip
              refine to_iload (dat dk_X3_minutes 98 rfl) rfl (to_sipush (dat dk_X3_minutes 99 rfl) (by decide) ?_)
              refine to_imulA (dat dk_X3_minutes 100 rfl) (fun x53 rx53 => ?_)
              refine to_iload (dat dk_X3_minutes 101 rfl) rfl ?_
              refine to_iaddA (dat dk_X3_minutes 102 rfl) (fun x54 rx54 => ?_)
              refine to_aload_np (dat dk_X3_minutes 103 rfl) (hI.1.2.2.2 _ _ (hI.bty ha)).1 rfl (to_iload_n (dat dk_X3_minutes 104 rfl) rfl (to_iload_n (dat dk_X3_minutes 105 rfl) rfl ?_))
              refine to_cI ca_c4_47 (dat dk_X3_minutes 106 rfl) (ct_X3_zoneIn l h hI a ha x40 rx40 x43 rx43) rfl trivial rfl (fun x55 h56 rx55 p57 => ?_)
              subst p57
              refine to_isubA (dat dk_X3_minutes 107 rfl) (fun x58 rx58 => ?_)
              exact to_iret rfl (dat dk_X3_minutes 108 rfl) (ri_mk rx58 rfl)
            · skip
              refine to_iconst (dat dk_X3_minutes 96 rfl) ?_
              exact to_iret rfl (dat dk_X3_minutes 97 rfl) (ri_mk (by decide) rfl)
    · skip
      refine to_aload_np (dat dk_X3_minutes 26 rfl) (hI.1.2.2.2 _ _ (hI.bty ha)).1 rfl (to_iload_n (dat dk_X3_minutes 27 rfl) rfl (to_iload_n (dat dk_X3_minutes 28 rfl) rfl ?_))
      refine to_cI ca_c4_17 (dat dk_X3_minutes 29 rfl) (ct_X1_numberIn l h hI a ha x1 rx1 x4 rx4) rfl ⟨_, _, rfl, (hI.bty ha)⟩ rfl (fun x59 h60 rx59 p61 => ?_)
      subst p61
      refine to_goto (dat dk_X3_minutes 30 rfl) rfl (to_istore_n (L' := [(0, .inr (.inr a)), (1, .inl x1), (2, .inl x4), (3, .inl x59)]) (dat dk_X3_minutes 32 rfl) (by decide) rfl (to_aload_np (dat dk_X3_minutes 33 rfl) (hI.1.2.2.2 _ _ (hI.bty ha)).1 rfl (to_iload_n (dat dk_X3_minutes 34 rfl) rfl ?_)))
      refine to_cI ca_c4_26 (dat dk_X3_minutes 35 rfl) (ct_X3_wordStart l h hI a ha x4 rx4) rfl trivial rfl (fun x62 h63 rx62 p64 => ?_)
      obtain ⟨rfl, p64_0⟩ := p64
      refine to_istore_n (L' := [(0, .inr (.inr a)), (1, .inl x62), (2, .inl x4), (3, .inl x59)]) (dat dk_X3_minutes 36 rfl) (by decide) rfl (to_aload_np (dat dk_X3_minutes 37 rfl) (hI.1.2.2.2 _ _ (hI.bty ha)).1 rfl (to_iload_n (dat dk_X3_minutes 38 rfl) rfl ?_))
      refine to_cI ca_c4_30 (dat dk_X3_minutes 39 rfl) (ct_X3_wordStop l h hI a ha x62 rx62) rfl trivial rfl (fun x65 h66 rx65 p67 => ?_)
      obtain ⟨rfl, p67_0⟩ := p67
      refine to_istore_n (L' := [(0, .inr (.inr a)), (1, .inl x62), (2, .inl x65), (3, .inl x59)]) (dat dk_X3_minutes 40 rfl) (by decide) rfl (to_aload_np (dat dk_X3_minutes 41 rfl) (hI.1.2.2.2 _ _ (hI.bty ha)).1 rfl (to_iload_n (dat dk_X3_minutes 42 rfl) rfl ?_))
      refine to_cI ca_c4_37 (dat dk_X3_minutes 43 rfl) (ct_X3_monthAt l h hI a ha x62 rx62) rfl trivial rfl (fun x68 h69 rx68 p70 => ?_)
      subst p70
      refine to_istore (L' := [(0, .inr (.inr a)), (1, .inl x62), (2, .inl x65), (3, .inl x59), (4, .inl x68)]) (dat dk_X3_minutes 44 rfl) (by decide) rfl (to_aload_np (dat dk_X3_minutes 45 rfl) (hI.1.2.2.2 _ _ (hI.bty ha)).1 rfl (to_iload_n (dat dk_X3_minutes 46 rfl) rfl ?_))
      refine to_cI ca_c4_26 (dat dk_X3_minutes 47 rfl) (ct_X3_wordStart l h hI a ha x65 rx65) rfl trivial rfl (fun x71 h72 rx71 p73 => ?_)
      obtain ⟨rfl, p73_0⟩ := p73
      refine to_istore_n (L' := [(0, .inr (.inr a)), (1, .inl x71), (2, .inl x65), (3, .inl x59), (4, .inl x68)]) (dat dk_X3_minutes 48 rfl) (by decide) rfl (to_aload_np (dat dk_X3_minutes 49 rfl) (hI.1.2.2.2 _ _ (hI.bty ha)).1 rfl (to_iload_n (dat dk_X3_minutes 50 rfl) rfl ?_))
      refine to_cI ca_c4_30 (dat dk_X3_minutes 51 rfl) (ct_X3_wordStop l h hI a ha x71 rx71) rfl trivial rfl (fun x74 h75 rx74 p76 => ?_)
      obtain ⟨rfl, p76_0⟩ := p76
      refine to_istore_n (L' := [(0, .inr (.inr a)), (1, .inl x71), (2, .inl x74), (3, .inl x59), (4, .inl x68)]) (dat dk_X3_minutes 52 rfl) (by decide) rfl (to_aload_np (dat dk_X3_minutes 53 rfl) (hI.1.2.2.2 _ _ (hI.bty ha)).1 rfl (to_iload_n (dat dk_X3_minutes 54 rfl) rfl (to_iload_n (dat dk_X3_minutes 55 rfl) rfl ?_)))
      refine to_cI ca_c4_40 (dat dk_X3_minutes 56 rfl) (ct_X3_yearIn l h hI a ha x71 rx71 x74 rx74) rfl trivial rfl (fun x77 h78 rx77 p79 => ?_)
      subst p79
      refine to_istore (L' := [(0, .inr (.inr a)), (1, .inl x71), (2, .inl x74), (3, .inl x59), (4, .inl x68), (5, .inl x77)]) (dat dk_X3_minutes 57 rfl) (by decide) rfl (to_aload_np (dat dk_X3_minutes 58 rfl) (hI.1.2.2.2 _ _ (hI.bty ha)).1 rfl (to_iload_n (dat dk_X3_minutes 59 rfl) rfl ?_))
      refine to_cI ca_c4_26 (dat dk_X3_minutes 60 rfl) (ct_X3_wordStart l h hI a ha x74 rx74) rfl trivial rfl (fun x80 h81 rx80 p82 => ?_)
      obtain ⟨rfl, p82_0⟩ := p82
      refine to_istore_n (L' := [(0, .inr (.inr a)), (1, .inl x80), (2, .inl x74), (3, .inl x59), (4, .inl x68), (5, .inl x77)]) (dat dk_X3_minutes 61 rfl) (by decide) rfl (to_aload_np (dat dk_X3_minutes 62 rfl) (hI.1.2.2.2 _ _ (hI.bty ha)).1 rfl (to_iload_n (dat dk_X3_minutes 63 rfl) rfl ?_))
      refine to_cI ca_c4_30 (dat dk_X3_minutes 64 rfl) (ct_X3_wordStop l h hI a ha x80 rx80) rfl trivial rfl (fun x83 h84 rx83 p85 => ?_)
      obtain ⟨rfl, p85_0⟩ := p85
      refine to_istore_n (L' := [(0, .inr (.inr a)), (1, .inl x80), (2, .inl x83), (3, .inl x59), (4, .inl x68), (5, .inl x77)]) (dat dk_X3_minutes 65 rfl) (by decide) rfl (to_aload_np (dat dk_X3_minutes 66 rfl) (hI.1.2.2.2 _ _ (hI.bty ha)).1 rfl (to_iload_n (dat dk_X3_minutes 67 rfl) rfl (to_iload_n (dat dk_X3_minutes 68 rfl) rfl ?_)))
      refine to_cI ca_c4_44 (dat dk_X3_minutes 69 rfl) (ct_X3_timeIn l h hI a ha x80 rx80 x83 rx83) rfl trivial rfl (fun x86 h87 rx86 p88 => ?_)
      subst p88
      refine to_istore (L' := [(0, .inr (.inr a)), (1, .inl x80), (2, .inl x83), (3, .inl x59), (4, .inl x68), (5, .inl x77), (6, .inl x86)]) (dat dk_X3_minutes 70 rfl) (by decide) rfl (to_aload_np (dat dk_X3_minutes 71 rfl) (hI.1.2.2.2 _ _ (hI.bty ha)).1 rfl (to_iload_n (dat dk_X3_minutes 72 rfl) rfl ?_))
      refine to_cI ca_c4_26 (dat dk_X3_minutes 73 rfl) (ct_X3_wordStart l h hI a ha x83 rx83) rfl trivial rfl (fun x89 h90 rx89 p91 => ?_)
      obtain ⟨rfl, p91_0⟩ := p91
      refine to_istore_n (L' := [(0, .inr (.inr a)), (1, .inl x89), (2, .inl x83), (3, .inl x59), (4, .inl x68), (5, .inl x77), (6, .inl x86)]) (dat dk_X3_minutes 74 rfl) (by decide) rfl (to_aload_np (dat dk_X3_minutes 75 rfl) (hI.1.2.2.2 _ _ (hI.bty ha)).1 rfl (to_iload_n (dat dk_X3_minutes 76 rfl) rfl ?_))
      refine to_cI ca_c4_30 (dat dk_X3_minutes 77 rfl) (ct_X3_wordStop l h hI a ha x89 rx89) rfl trivial rfl (fun x92 h93 rx92 p94 => ?_)
      obtain ⟨rfl, p94_0⟩ := p94
      refine to_istore_n (L' := [(0, .inr (.inr a)), (1, .inl x89), (2, .inl x92), (3, .inl x59), (4, .inl x68), (5, .inl x77), (6, .inl x86)]) (dat dk_X3_minutes 78 rfl) (by decide) rfl (to_iload (dat dk_X3_minutes 79 rfl) rfl (to_iload (dat dk_X3_minutes 80 rfl) rfl (to_iload_n (dat dk_X3_minutes 81 rfl) rfl ?_)))
      refine to_cI ca_c4_22 (dat dk_X3_minutes 82 rfl) (ct_X3_dayNumber l h hI x77 rx77 x68 rx68 x59 rx59) rfl trivial rfl (fun x95 h96 rx95 p97 => ?_)
      subst p97
      refine to_istore (L' := [(0, .inr (.inr a)), (1, .inl x89), (2, .inl x92), (3, .inl x59), (4, .inl x68), (5, .inl x77), (6, .inl x86), (7, .inl x95)]) (dat dk_X3_minutes 83 rfl) (by decide) rfl (to_iload (dat dk_X3_minutes 84 rfl) rfl (to_ldc (v := (-1000000)) (x := -1000000) (tin 4 97 (by decide +kernel) rfl) (by decide +kernel) (dat dk_X3_minutes 85 rfl) ?_))
      refine to_ieq 161 (dat dk_X3_minutes 86 rfl) rfl rx95 (by decide) (fun c98 => ?_) (fun c98 => ?_)
      · skip
        refine to_iconst (dat dk_X3_minutes 96 rfl) ?_
        exact to_iret rfl (dat dk_X3_minutes 97 rfl) (ri_mk (by decide) rfl)
      · skip
        refine to_iload (dat dk_X3_minutes 87 rfl) rfl (to_iconst (dat dk_X3_minutes 88 rfl) ?_)
        refine to_ieq 161 (dat dk_X3_minutes 89 rfl) rfl rx86 (by decide) (fun c99 => ?_) (fun c99 => ?_)
        · skip
          refine to_iconst (dat dk_X3_minutes 96 rfl) ?_
          exact to_iret rfl (dat dk_X3_minutes 97 rfl) (ri_mk (by decide) rfl)
        · skip
          refine to_iload (dat dk_X3_minutes 90 rfl) rfl (to_sipush (dat dk_X3_minutes 91 rfl) (by decide) ?_)
          refine to_ilt 161 (dat dk_X3_minutes 92 rfl) rfl rx77 (by decide) (fun c100 => ?_) (fun c100 => ?_)
          · skip
            refine to_iconst (dat dk_X3_minutes 96 rfl) ?_
            exact to_iret rfl (dat dk_X3_minutes 97 rfl) (ri_mk (by decide) rfl)
          · skip
            refine to_iload (dat dk_X3_minutes 93 rfl) rfl (to_sipush (dat dk_X3_minutes 94 rfl) (by decide) ?_)
            refine to_ile 163 (dat dk_X3_minutes 95 rfl) rfl rx77 (by decide) (fun c101 => ?_) (fun c101 => ?_)
            · skip
              refine to_iload (dat dk_X3_minutes 98 rfl) rfl (to_sipush (dat dk_X3_minutes 99 rfl) (by decide) ?_)
              refine to_imulA (dat dk_X3_minutes 100 rfl) (fun x102 rx102 => ?_)
              refine to_iload (dat dk_X3_minutes 101 rfl) rfl ?_
              refine to_iaddA (dat dk_X3_minutes 102 rfl) (fun x103 rx103 => ?_)
              refine to_aload_np (dat dk_X3_minutes 103 rfl) (hI.1.2.2.2 _ _ (hI.bty ha)).1 rfl (to_iload_n (dat dk_X3_minutes 104 rfl) rfl (to_iload_n (dat dk_X3_minutes 105 rfl) rfl ?_))
              refine to_cI ca_c4_47 (dat dk_X3_minutes 106 rfl) (ct_X3_zoneIn l h hI a ha x89 rx89 x92 rx92) rfl trivial rfl (fun x104 h105 rx104 p106 => ?_)
              subst p106
              refine to_isubA (dat dk_X3_minutes 107 rfl) (fun x107 rx107 => ?_)
              exact to_iret rfl (dat dk_X3_minutes 108 rfl) (ri_mk rx107 rfl)
            · skip
              refine to_iconst (dat dk_X3_minutes 96 rfl) ?_
              exact to_iret rfl (dat dk_X3_minutes 97 rfl) (ri_mk (by decide) rfl)
  · skip
    refine to_aload_np (dat dk_X3_minutes 13 rfl) (hI.1.2.2.2 _ _ (hI.bty ha)).1 rfl (to_iload_n (dat dk_X3_minutes 14 rfl) rfl ?_)
    refine to_cI ca_c4_26 (dat dk_X3_minutes 15 rfl) (ct_X3_wordStart l h hI a ha x4 rx4) rfl trivial rfl (fun x108 h109 rx108 p110 => ?_)
    obtain ⟨rfl, p110_0⟩ := p110
    refine to_istore_n (L' := [(0, .inr (.inr a)), (1, .inl x108), (2, .inl x4)]) (dat dk_X3_minutes 16 rfl) (by decide) rfl (to_aload_np (dat dk_X3_minutes 17 rfl) (hI.1.2.2.2 _ _ (hI.bty ha)).1 rfl (to_iload_n (dat dk_X3_minutes 18 rfl) rfl ?_))
    refine to_cI ca_c4_30 (dat dk_X3_minutes 19 rfl) (ct_X3_wordStop l h hI a ha x108 rx108) rfl trivial rfl (fun x111 h112 rx111 p113 => ?_)
    obtain ⟨rfl, p113_0⟩ := p113
    refine to_istore_n (L' := [(0, .inr (.inr a)), (1, .inl x108), (2, .inl x111)]) (dat dk_X3_minutes 20 rfl) (by decide) rfl (to_iload_n (dat dk_X3_minutes 21 rfl) rfl (to_iload_n (dat dk_X3_minutes 22 rfl) rfl ?_))
    refine to_isubA (dat dk_X3_minutes 23 rfl) (fun x114 rx114 => ?_)
    refine to_iconst (dat dk_X3_minutes 24 rfl) ?_
    refine to_igt 49 (dat dk_X3_minutes 25 rfl) rfl rx114 (by decide) (fun c115 => ?_) (fun c115 => ?_)
    · skip
      refine to_iconst (dat dk_X3_minutes 31 rfl) (to_istore_n (L' := [(0, .inr (.inr a)), (1, .inl x108), (2, .inl x111), (3, .inl (-1))]) (dat dk_X3_minutes 32 rfl) (by decide) rfl (to_aload_np (dat dk_X3_minutes 33 rfl) (hI.1.2.2.2 _ _ (hI.bty ha)).1 rfl (to_iload_n (dat dk_X3_minutes 34 rfl) rfl ?_)))
      refine to_cI ca_c4_26 (dat dk_X3_minutes 35 rfl) (ct_X3_wordStart l h hI a ha x111 rx111) rfl trivial rfl (fun x116 h117 rx116 p118 => ?_)
      obtain ⟨rfl, p118_0⟩ := p118
      refine to_istore_n (L' := [(0, .inr (.inr a)), (1, .inl x116), (2, .inl x111), (3, .inl (-1))]) (dat dk_X3_minutes 36 rfl) (by decide) rfl (to_aload_np (dat dk_X3_minutes 37 rfl) (hI.1.2.2.2 _ _ (hI.bty ha)).1 rfl (to_iload_n (dat dk_X3_minutes 38 rfl) rfl ?_))
      refine to_cI ca_c4_30 (dat dk_X3_minutes 39 rfl) (ct_X3_wordStop l h hI a ha x116 rx116) rfl trivial rfl (fun x119 h120 rx119 p121 => ?_)
      obtain ⟨rfl, p121_0⟩ := p121
      refine to_istore_n (L' := [(0, .inr (.inr a)), (1, .inl x116), (2, .inl x119), (3, .inl (-1))]) (dat dk_X3_minutes 40 rfl) (by decide) rfl (to_aload_np (dat dk_X3_minutes 41 rfl) (hI.1.2.2.2 _ _ (hI.bty ha)).1 rfl (to_iload_n (dat dk_X3_minutes 42 rfl) rfl ?_))
      refine to_cI ca_c4_37 (dat dk_X3_minutes 43 rfl) (ct_X3_monthAt l h hI a ha x116 rx116) rfl trivial rfl (fun x122 h123 rx122 p124 => ?_)
      subst p124
      refine to_istore (L' := [(0, .inr (.inr a)), (1, .inl x116), (2, .inl x119), (3, .inl (-1)), (4, .inl x122)]) (dat dk_X3_minutes 44 rfl) (by decide) rfl (to_aload_np (dat dk_X3_minutes 45 rfl) (hI.1.2.2.2 _ _ (hI.bty ha)).1 rfl (to_iload_n (dat dk_X3_minutes 46 rfl) rfl ?_))
      refine to_cI ca_c4_26 (dat dk_X3_minutes 47 rfl) (ct_X3_wordStart l h hI a ha x119 rx119) rfl trivial rfl (fun x125 h126 rx125 p127 => ?_)
      obtain ⟨rfl, p127_0⟩ := p127
      refine to_istore_n (L' := [(0, .inr (.inr a)), (1, .inl x125), (2, .inl x119), (3, .inl (-1)), (4, .inl x122)]) (dat dk_X3_minutes 48 rfl) (by decide) rfl (to_aload_np (dat dk_X3_minutes 49 rfl) (hI.1.2.2.2 _ _ (hI.bty ha)).1 rfl (to_iload_n (dat dk_X3_minutes 50 rfl) rfl ?_))
      refine to_cI ca_c4_30 (dat dk_X3_minutes 51 rfl) (ct_X3_wordStop l h hI a ha x125 rx125) rfl trivial rfl (fun x128 h129 rx128 p130 => ?_)
      obtain ⟨rfl, p130_0⟩ := p130
      refine to_istore_n (L' := [(0, .inr (.inr a)), (1, .inl x125), (2, .inl x128), (3, .inl (-1)), (4, .inl x122)]) (dat dk_X3_minutes 52 rfl) (by decide) rfl (to_aload_np (dat dk_X3_minutes 53 rfl) (hI.1.2.2.2 _ _ (hI.bty ha)).1 rfl (to_iload_n (dat dk_X3_minutes 54 rfl) rfl (to_iload_n (dat dk_X3_minutes 55 rfl) rfl ?_)))
      refine to_cI ca_c4_40 (dat dk_X3_minutes 56 rfl) (ct_X3_yearIn l h hI a ha x125 rx125 x128 rx128) rfl trivial rfl (fun x131 h132 rx131 p133 => ?_)
      subst p133
      refine to_istore (L' := [(0, .inr (.inr a)), (1, .inl x125), (2, .inl x128), (3, .inl (-1)), (4, .inl x122), (5, .inl x131)]) (dat dk_X3_minutes 57 rfl) (by decide) rfl (to_aload_np (dat dk_X3_minutes 58 rfl) (hI.1.2.2.2 _ _ (hI.bty ha)).1 rfl (to_iload_n (dat dk_X3_minutes 59 rfl) rfl ?_))
      refine to_cI ca_c4_26 (dat dk_X3_minutes 60 rfl) (ct_X3_wordStart l h hI a ha x128 rx128) rfl trivial rfl (fun x134 h135 rx134 p136 => ?_)
      obtain ⟨rfl, p136_0⟩ := p136
      refine to_istore_n (L' := [(0, .inr (.inr a)), (1, .inl x134), (2, .inl x128), (3, .inl (-1)), (4, .inl x122), (5, .inl x131)]) (dat dk_X3_minutes 61 rfl) (by decide) rfl (to_aload_np (dat dk_X3_minutes 62 rfl) (hI.1.2.2.2 _ _ (hI.bty ha)).1 rfl (to_iload_n (dat dk_X3_minutes 63 rfl) rfl ?_))
      refine to_cI ca_c4_30 (dat dk_X3_minutes 64 rfl) (ct_X3_wordStop l h hI a ha x134 rx134) rfl trivial rfl (fun x137 h138 rx137 p139 => ?_)
      obtain ⟨rfl, p139_0⟩ := p139
      refine to_istore_n (L' := [(0, .inr (.inr a)), (1, .inl x134), (2, .inl x137), (3, .inl (-1)), (4, .inl x122), (5, .inl x131)]) (dat dk_X3_minutes 65 rfl) (by decide) rfl (to_aload_np (dat dk_X3_minutes 66 rfl) (hI.1.2.2.2 _ _ (hI.bty ha)).1 rfl (to_iload_n (dat dk_X3_minutes 67 rfl) rfl (to_iload_n (dat dk_X3_minutes 68 rfl) rfl ?_)))
      refine to_cI ca_c4_44 (dat dk_X3_minutes 69 rfl) (ct_X3_timeIn l h hI a ha x134 rx134 x137 rx137) rfl trivial rfl (fun x140 h141 rx140 p142 => ?_)
      subst p142
      refine to_istore (L' := [(0, .inr (.inr a)), (1, .inl x134), (2, .inl x137), (3, .inl (-1)), (4, .inl x122), (5, .inl x131), (6, .inl x140)]) (dat dk_X3_minutes 70 rfl) (by decide) rfl (to_aload_np (dat dk_X3_minutes 71 rfl) (hI.1.2.2.2 _ _ (hI.bty ha)).1 rfl (to_iload_n (dat dk_X3_minutes 72 rfl) rfl ?_))
      refine to_cI ca_c4_26 (dat dk_X3_minutes 73 rfl) (ct_X3_wordStart l h hI a ha x137 rx137) rfl trivial rfl (fun x143 h144 rx143 p145 => ?_)
      obtain ⟨rfl, p145_0⟩ := p145
      refine to_istore_n (L' := [(0, .inr (.inr a)), (1, .inl x143), (2, .inl x137), (3, .inl (-1)), (4, .inl x122), (5, .inl x131), (6, .inl x140)]) (dat dk_X3_minutes 74 rfl) (by decide) rfl (to_aload_np (dat dk_X3_minutes 75 rfl) (hI.1.2.2.2 _ _ (hI.bty ha)).1 rfl (to_iload_n (dat dk_X3_minutes 76 rfl) rfl ?_))
      refine to_cI ca_c4_30 (dat dk_X3_minutes 77 rfl) (ct_X3_wordStop l h hI a ha x143 rx143) rfl trivial rfl (fun x146 h147 rx146 p148 => ?_)
      obtain ⟨rfl, p148_0⟩ := p148
      refine to_istore_n (L' := [(0, .inr (.inr a)), (1, .inl x143), (2, .inl x146), (3, .inl (-1)), (4, .inl x122), (5, .inl x131), (6, .inl x140)]) (dat dk_X3_minutes 78 rfl) (by decide) rfl (to_iload (dat dk_X3_minutes 79 rfl) rfl (to_iload (dat dk_X3_minutes 80 rfl) rfl (to_iload_n (dat dk_X3_minutes 81 rfl) rfl ?_)))
      refine to_cI ca_c4_22 (dat dk_X3_minutes 82 rfl) (ct_X3_dayNumber l h hI x131 rx131 x122 rx122 (-1) (by decide)) rfl trivial rfl (fun x149 h150 rx149 p151 => ?_)
      subst p151
      refine to_istore (L' := [(0, .inr (.inr a)), (1, .inl x143), (2, .inl x146), (3, .inl (-1)), (4, .inl x122), (5, .inl x131), (6, .inl x140), (7, .inl x149)]) (dat dk_X3_minutes 83 rfl) (by decide) rfl (to_iload (dat dk_X3_minutes 84 rfl) rfl (to_ldc (v := (-1000000)) (x := -1000000) (tin 4 97 (by decide +kernel) rfl) (by decide +kernel) (dat dk_X3_minutes 85 rfl) ?_))
      refine to_ieq 161 (dat dk_X3_minutes 86 rfl) rfl rx149 (by decide) (fun c152 => ?_) (fun c152 => ?_)
      · skip
        refine to_iconst (dat dk_X3_minutes 96 rfl) ?_
        exact to_iret rfl (dat dk_X3_minutes 97 rfl) (ri_mk (by decide) rfl)
      · skip
        refine to_iload (dat dk_X3_minutes 87 rfl) rfl (to_iconst (dat dk_X3_minutes 88 rfl) ?_)
        refine to_ieq 161 (dat dk_X3_minutes 89 rfl) rfl rx140 (by decide) (fun c153 => ?_) (fun c153 => ?_)
        · skip
          refine to_iconst (dat dk_X3_minutes 96 rfl) ?_
          exact to_iret rfl (dat dk_X3_minutes 97 rfl) (ri_mk (by decide) rfl)
        · skip
          refine to_iload (dat dk_X3_minutes 90 rfl) rfl (to_sipush (dat dk_X3_minutes 91 rfl) (by decide) ?_)
          refine to_ilt 161 (dat dk_X3_minutes 92 rfl) rfl rx131 (by decide) (fun c154 => ?_) (fun c154 => ?_)
          · skip
            refine to_iconst (dat dk_X3_minutes 96 rfl) ?_
            exact to_iret rfl (dat dk_X3_minutes 97 rfl) (ri_mk (by decide) rfl)
          · skip
            refine to_iload (dat dk_X3_minutes 93 rfl) rfl (to_sipush (dat dk_X3_minutes 94 rfl) (by decide) ?_)
            refine to_ile 163 (dat dk_X3_minutes 95 rfl) rfl rx131 (by decide) (fun c155 => ?_) (fun c155 => ?_)
            · skip
              refine to_iload (dat dk_X3_minutes 98 rfl) rfl (to_sipush (dat dk_X3_minutes 99 rfl) (by decide) ?_)
              refine to_imulA (dat dk_X3_minutes 100 rfl) (fun x156 rx156 => ?_)
              refine to_iload (dat dk_X3_minutes 101 rfl) rfl ?_
              refine to_iaddA (dat dk_X3_minutes 102 rfl) (fun x157 rx157 => ?_)
              refine to_aload_np (dat dk_X3_minutes 103 rfl) (hI.1.2.2.2 _ _ (hI.bty ha)).1 rfl (to_iload_n (dat dk_X3_minutes 104 rfl) rfl (to_iload_n (dat dk_X3_minutes 105 rfl) rfl ?_))
              refine to_cI ca_c4_47 (dat dk_X3_minutes 106 rfl) (ct_X3_zoneIn l h hI a ha x143 rx143 x146 rx146) rfl trivial rfl (fun x158 h159 rx158 p160 => ?_)
              subst p160
              refine to_isubA (dat dk_X3_minutes 107 rfl) (fun x161 rx161 => ?_)
              exact to_iret rfl (dat dk_X3_minutes 108 rfl) (ri_mk rx161 rfl)
            · skip
              refine to_iconst (dat dk_X3_minutes 96 rfl) ?_
              exact to_iret rfl (dat dk_X3_minutes 97 rfl) (ri_mk (by decide) rfl)
    · skip
      refine to_aload_np (dat dk_X3_minutes 26 rfl) (hI.1.2.2.2 _ _ (hI.bty ha)).1 rfl (to_iload_n (dat dk_X3_minutes 27 rfl) rfl (to_iload_n (dat dk_X3_minutes 28 rfl) rfl ?_))
      refine to_cI ca_c4_17 (dat dk_X3_minutes 29 rfl) (ct_X1_numberIn l h hI a ha x108 rx108 x111 rx111) rfl ⟨_, _, rfl, (hI.bty ha)⟩ rfl (fun x162 h163 rx162 p164 => ?_)
      subst p164
      refine to_goto (dat dk_X3_minutes 30 rfl) rfl (to_istore_n (L' := [(0, .inr (.inr a)), (1, .inl x108), (2, .inl x111), (3, .inl x162)]) (dat dk_X3_minutes 32 rfl) (by decide) rfl (to_aload_np (dat dk_X3_minutes 33 rfl) (hI.1.2.2.2 _ _ (hI.bty ha)).1 rfl (to_iload_n (dat dk_X3_minutes 34 rfl) rfl ?_)))
      refine to_cI ca_c4_26 (dat dk_X3_minutes 35 rfl) (ct_X3_wordStart l h hI a ha x111 rx111) rfl trivial rfl (fun x165 h166 rx165 p167 => ?_)
      obtain ⟨rfl, p167_0⟩ := p167
      refine to_istore_n (L' := [(0, .inr (.inr a)), (1, .inl x165), (2, .inl x111), (3, .inl x162)]) (dat dk_X3_minutes 36 rfl) (by decide) rfl (to_aload_np (dat dk_X3_minutes 37 rfl) (hI.1.2.2.2 _ _ (hI.bty ha)).1 rfl (to_iload_n (dat dk_X3_minutes 38 rfl) rfl ?_))
      refine to_cI ca_c4_30 (dat dk_X3_minutes 39 rfl) (ct_X3_wordStop l h hI a ha x165 rx165) rfl trivial rfl (fun x168 h169 rx168 p170 => ?_)
      obtain ⟨rfl, p170_0⟩ := p170
      refine to_istore_n (L' := [(0, .inr (.inr a)), (1, .inl x165), (2, .inl x168), (3, .inl x162)]) (dat dk_X3_minutes 40 rfl) (by decide) rfl (to_aload_np (dat dk_X3_minutes 41 rfl) (hI.1.2.2.2 _ _ (hI.bty ha)).1 rfl (to_iload_n (dat dk_X3_minutes 42 rfl) rfl ?_))
      refine to_cI ca_c4_37 (dat dk_X3_minutes 43 rfl) (ct_X3_monthAt l h hI a ha x165 rx165) rfl trivial rfl (fun x171 h172 rx171 p173 => ?_)
      subst p173
      refine to_istore (L' := [(0, .inr (.inr a)), (1, .inl x165), (2, .inl x168), (3, .inl x162), (4, .inl x171)]) (dat dk_X3_minutes 44 rfl) (by decide) rfl (to_aload_np (dat dk_X3_minutes 45 rfl) (hI.1.2.2.2 _ _ (hI.bty ha)).1 rfl (to_iload_n (dat dk_X3_minutes 46 rfl) rfl ?_))
      refine to_cI ca_c4_26 (dat dk_X3_minutes 47 rfl) (ct_X3_wordStart l h hI a ha x168 rx168) rfl trivial rfl (fun x174 h175 rx174 p176 => ?_)
      obtain ⟨rfl, p176_0⟩ := p176
      refine to_istore_n (L' := [(0, .inr (.inr a)), (1, .inl x174), (2, .inl x168), (3, .inl x162), (4, .inl x171)]) (dat dk_X3_minutes 48 rfl) (by decide) rfl (to_aload_np (dat dk_X3_minutes 49 rfl) (hI.1.2.2.2 _ _ (hI.bty ha)).1 rfl (to_iload_n (dat dk_X3_minutes 50 rfl) rfl ?_))
      refine to_cI ca_c4_30 (dat dk_X3_minutes 51 rfl) (ct_X3_wordStop l h hI a ha x174 rx174) rfl trivial rfl (fun x177 h178 rx177 p179 => ?_)
      obtain ⟨rfl, p179_0⟩ := p179
      refine to_istore_n (L' := [(0, .inr (.inr a)), (1, .inl x174), (2, .inl x177), (3, .inl x162), (4, .inl x171)]) (dat dk_X3_minutes 52 rfl) (by decide) rfl (to_aload_np (dat dk_X3_minutes 53 rfl) (hI.1.2.2.2 _ _ (hI.bty ha)).1 rfl (to_iload_n (dat dk_X3_minutes 54 rfl) rfl (to_iload_n (dat dk_X3_minutes 55 rfl) rfl ?_)))
      refine to_cI ca_c4_40 (dat dk_X3_minutes 56 rfl) (ct_X3_yearIn l h hI a ha x174 rx174 x177 rx177) rfl trivial rfl (fun x180 h181 rx180 p182 => ?_)
      subst p182
      refine to_istore (L' := [(0, .inr (.inr a)), (1, .inl x174), (2, .inl x177), (3, .inl x162), (4, .inl x171), (5, .inl x180)]) (dat dk_X3_minutes 57 rfl) (by decide) rfl (to_aload_np (dat dk_X3_minutes 58 rfl) (hI.1.2.2.2 _ _ (hI.bty ha)).1 rfl (to_iload_n (dat dk_X3_minutes 59 rfl) rfl ?_))
      refine to_cI ca_c4_26 (dat dk_X3_minutes 60 rfl) (ct_X3_wordStart l h hI a ha x177 rx177) rfl trivial rfl (fun x183 h184 rx183 p185 => ?_)
      obtain ⟨rfl, p185_0⟩ := p185
      refine to_istore_n (L' := [(0, .inr (.inr a)), (1, .inl x183), (2, .inl x177), (3, .inl x162), (4, .inl x171), (5, .inl x180)]) (dat dk_X3_minutes 61 rfl) (by decide) rfl (to_aload_np (dat dk_X3_minutes 62 rfl) (hI.1.2.2.2 _ _ (hI.bty ha)).1 rfl (to_iload_n (dat dk_X3_minutes 63 rfl) rfl ?_))
      refine to_cI ca_c4_30 (dat dk_X3_minutes 64 rfl) (ct_X3_wordStop l h hI a ha x183 rx183) rfl trivial rfl (fun x186 h187 rx186 p188 => ?_)
      obtain ⟨rfl, p188_0⟩ := p188
      refine to_istore_n (L' := [(0, .inr (.inr a)), (1, .inl x183), (2, .inl x186), (3, .inl x162), (4, .inl x171), (5, .inl x180)]) (dat dk_X3_minutes 65 rfl) (by decide) rfl (to_aload_np (dat dk_X3_minutes 66 rfl) (hI.1.2.2.2 _ _ (hI.bty ha)).1 rfl (to_iload_n (dat dk_X3_minutes 67 rfl) rfl (to_iload_n (dat dk_X3_minutes 68 rfl) rfl ?_)))
      refine to_cI ca_c4_44 (dat dk_X3_minutes 69 rfl) (ct_X3_timeIn l h hI a ha x183 rx183 x186 rx186) rfl trivial rfl (fun x189 h190 rx189 p191 => ?_)
      subst p191
      refine to_istore (L' := [(0, .inr (.inr a)), (1, .inl x183), (2, .inl x186), (3, .inl x162), (4, .inl x171), (5, .inl x180), (6, .inl x189)]) (dat dk_X3_minutes 70 rfl) (by decide) rfl (to_aload_np (dat dk_X3_minutes 71 rfl) (hI.1.2.2.2 _ _ (hI.bty ha)).1 rfl (to_iload_n (dat dk_X3_minutes 72 rfl) rfl ?_))
      refine to_cI ca_c4_26 (dat dk_X3_minutes 73 rfl) (ct_X3_wordStart l h hI a ha x186 rx186) rfl trivial rfl (fun x192 h193 rx192 p194 => ?_)
      obtain ⟨rfl, p194_0⟩ := p194
      refine to_istore_n (L' := [(0, .inr (.inr a)), (1, .inl x192), (2, .inl x186), (3, .inl x162), (4, .inl x171), (5, .inl x180), (6, .inl x189)]) (dat dk_X3_minutes 74 rfl) (by decide) rfl (to_aload_np (dat dk_X3_minutes 75 rfl) (hI.1.2.2.2 _ _ (hI.bty ha)).1 rfl (to_iload_n (dat dk_X3_minutes 76 rfl) rfl ?_))
      refine to_cI ca_c4_30 (dat dk_X3_minutes 77 rfl) (ct_X3_wordStop l h hI a ha x192 rx192) rfl trivial rfl (fun x195 h196 rx195 p197 => ?_)
      obtain ⟨rfl, p197_0⟩ := p197
      refine to_istore_n (L' := [(0, .inr (.inr a)), (1, .inl x192), (2, .inl x195), (3, .inl x162), (4, .inl x171), (5, .inl x180), (6, .inl x189)]) (dat dk_X3_minutes 78 rfl) (by decide) rfl (to_iload (dat dk_X3_minutes 79 rfl) rfl (to_iload (dat dk_X3_minutes 80 rfl) rfl (to_iload_n (dat dk_X3_minutes 81 rfl) rfl ?_)))
      refine to_cI ca_c4_22 (dat dk_X3_minutes 82 rfl) (ct_X3_dayNumber l h hI x180 rx180 x171 rx171 x162 rx162) rfl trivial rfl (fun x198 h199 rx198 p200 => ?_)
      subst p200
      refine to_istore (L' := [(0, .inr (.inr a)), (1, .inl x192), (2, .inl x195), (3, .inl x162), (4, .inl x171), (5, .inl x180), (6, .inl x189), (7, .inl x198)]) (dat dk_X3_minutes 83 rfl) (by decide) rfl (to_iload (dat dk_X3_minutes 84 rfl) rfl (to_ldc (v := (-1000000)) (x := -1000000) (tin 4 97 (by decide +kernel) rfl) (by decide +kernel) (dat dk_X3_minutes 85 rfl) ?_))
      refine to_ieq 161 (dat dk_X3_minutes 86 rfl) rfl rx198 (by decide) (fun c201 => ?_) (fun c201 => ?_)
      · skip
        refine to_iconst (dat dk_X3_minutes 96 rfl) ?_
        exact to_iret rfl (dat dk_X3_minutes 97 rfl) (ri_mk (by decide) rfl)
      · skip
        refine to_iload (dat dk_X3_minutes 87 rfl) rfl (to_iconst (dat dk_X3_minutes 88 rfl) ?_)
        refine to_ieq 161 (dat dk_X3_minutes 89 rfl) rfl rx189 (by decide) (fun c202 => ?_) (fun c202 => ?_)
        · skip
          refine to_iconst (dat dk_X3_minutes 96 rfl) ?_
          exact to_iret rfl (dat dk_X3_minutes 97 rfl) (ri_mk (by decide) rfl)
        · skip
          refine to_iload (dat dk_X3_minutes 90 rfl) rfl (to_sipush (dat dk_X3_minutes 91 rfl) (by decide) ?_)
          refine to_ilt 161 (dat dk_X3_minutes 92 rfl) rfl rx180 (by decide) (fun c203 => ?_) (fun c203 => ?_)
          · skip
            refine to_iconst (dat dk_X3_minutes 96 rfl) ?_
            exact to_iret rfl (dat dk_X3_minutes 97 rfl) (ri_mk (by decide) rfl)
          · skip
            refine to_iload (dat dk_X3_minutes 93 rfl) rfl (to_sipush (dat dk_X3_minutes 94 rfl) (by decide) ?_)
            refine to_ile 163 (dat dk_X3_minutes 95 rfl) rfl rx180 (by decide) (fun c204 => ?_) (fun c204 => ?_)
            · skip
              refine to_iload (dat dk_X3_minutes 98 rfl) rfl (to_sipush (dat dk_X3_minutes 99 rfl) (by decide) ?_)
              refine to_imulA (dat dk_X3_minutes 100 rfl) (fun x205 rx205 => ?_)
              refine to_iload (dat dk_X3_minutes 101 rfl) rfl ?_
              refine to_iaddA (dat dk_X3_minutes 102 rfl) (fun x206 rx206 => ?_)
              refine to_aload_np (dat dk_X3_minutes 103 rfl) (hI.1.2.2.2 _ _ (hI.bty ha)).1 rfl (to_iload_n (dat dk_X3_minutes 104 rfl) rfl (to_iload_n (dat dk_X3_minutes 105 rfl) rfl ?_))
              refine to_cI ca_c4_47 (dat dk_X3_minutes 106 rfl) (ct_X3_zoneIn l h hI a ha x192 rx192 x195 rx195) rfl trivial rfl (fun x207 h208 rx207 p209 => ?_)
              subst p209
              refine to_isubA (dat dk_X3_minutes 107 rfl) (fun x210 rx210 => ?_)
              exact to_iret rfl (dat dk_X3_minutes 108 rfl) (ri_mk rx210 rfl)
            · skip
              refine to_iconst (dat dk_X3_minutes 96 rfl) ?_
              exact to_iret rfl (dat dk_X3_minutes 97 rfl) (ri_mk (by decide) rfl)
