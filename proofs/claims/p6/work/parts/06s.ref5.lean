/-! Contracts, by program. -/
abbrev Q_X12_days (h : Hp) (y : Int) (m : Int) (d : Int) : Option V → Hp → Nat → Nat → Prop := RLo (fun x H => h = H)
set_option maxRecDepth 100000 in
theorem ct_X12_days (l : Launch) (h : Hp) (hI : Inv h) (y : Int) (hy : I32 y) (m : Int) (hm : I32 m) (d : Int) (hd : I32 d) : Ct l D_X12_days 2 41 [.inl y, .inl m, .inl d] h (Q_X12_days h y m d) := by
  refine ct_of pn_X12_days (Nat.le_of_ble_eq_true rfl) ?_
  show To l E_X12_days (0, [(0, .inl y), (1, .inl m), (2, .inl d)], [], h, 0, 0) _
  refine to_ldc2 (v := 365) (x := 365) (tin 8 23 (by decide +kernel) rfl) (by decide +kernel) (dat dk_X12_days 0 rfl) (to_iload_n (dat dk_X12_days 1 rfl) rfl ?_)
  refine to_i2l (dat dk_X12_days 2 rfl) (fun w1 => ?_)
  refine to_lmul (dat dk_X12_days 3 rfl) (fun w2 => ?_)
  refine to_iload_n (dat dk_X12_days 4 rfl) rfl (to_iconst (dat dk_X12_days 5 rfl) ?_)
  refine to_iaddA (dat dk_X12_days 6 rfl) (fun x3 rx3 => ?_)
  refine to_iconst (dat dk_X12_days 7 rfl) ?_
  refine to_idiv (dat dk_X12_days 8 rfl) (by decide) (fun x4 rx4 => ?_)
  refine to_i2l (dat dk_X12_days 9 rfl) (fun w5 => ?_)
  refine to_ladd (dat dk_X12_days 10 rfl) (fun w6 => ?_)
  refine to_iload_n (dat dk_X12_days 11 rfl) rfl (to_bipush (dat dk_X12_days 12 rfl) (by decide) ?_)
  refine to_iaddA (dat dk_X12_days 13 rfl) (fun x7 rx7 => ?_)
  refine to_bipush (dat dk_X12_days 14 rfl) (by decide) ?_
  refine to_idiv (dat dk_X12_days 15 rfl) (by decide) (fun x8 rx8 => ?_)
  refine to_i2l (dat dk_X12_days 16 rfl) (fun w9 => ?_)
  refine to_lsub (dat dk_X12_days 17 rfl) (fun w10 => ?_)
  refine to_iload_n (dat dk_X12_days 18 rfl) rfl (to_sipush (dat dk_X12_days 19 rfl) (by decide) ?_)
  refine to_iaddA (dat dk_X12_days 20 rfl) (fun x11 rx11 => ?_)
  refine to_sipush (dat dk_X12_days 21 rfl) (by decide) ?_
  refine to_idiv (dat dk_X12_days 22 rfl) (by decide) (fun x12 rx12 => ?_)
  refine to_i2l (dat dk_X12_days 23 rfl) (fun w13 => ?_)
  refine to_ladd (dat dk_X12_days 24 rfl) (fun w14 => ?_)
  refine to_lstore_n (L' := [(3, .inr (.inl w14)), (0, .inl y), (1, .inl m), (2, .inl d)]) (dat dk_X12_days 25 rfl) (by decide) rfl (to_iconst (dat dk_X12_days 26 rfl) (to_istore (L' := [(3, .inr (.inl w14)), (0, .inl y), (1, .inl m), (2, .inl d), (5, .inl 1)]) (dat dk_X12_days 27 rfl) (by decide) rfl ?_))
  have lp37_n18 : ∀ (n18 : Nat) (w15 : Int) (y16 : Int), (I32 y16) → (0 ≤ y16) → (m - y16 ≤ (n18 : Int)) → To l E_X12_days (37, [(3, .inr (.inl w15)), (0, .inl y), (1, .inl m), (2, .inl d), (5, .inl y16)], [], h, 0, 0) (Q_X12_days h y m d) := by
    intro n18
    induction n18 using Nat.strongRecOn with
    | _ n18 ihn18 =>
    intro w15 y16 ry16 c17 c19
    refine to_iload (dat dk_X12_days 28 rfl) rfl (to_iload_n (dat dk_X12_days 29 rfl) rfl ?_)
    refine to_ige 59 (dat dk_X12_days 30 rfl) rfl ry16 hm (fun c20 => ?_) (fun c20 => ?_)
    · skip
      refine to_lload_n (dat dk_X12_days 40 rfl) rfl (to_iload_n (dat dk_X12_days 41 rfl) rfl ?_)
      refine to_i2l (dat dk_X12_days 42 rfl) (fun w21 => ?_)
      refine to_ladd (dat dk_X12_days 43 rfl) (fun w22 => ?_)
      refine to_lconst (v := 1) (dat dk_X12_days 44 rfl) rfl ?_
      refine to_lsub (dat dk_X12_days 45 rfl) (fun w23 => ?_)
      exact to_lret rfl (dat dk_X12_days 46 rfl) (rl_mk rfl)
    · skip
      refine to_lload_n (dat dk_X12_days 31 rfl) rfl (to_iload_n (dat dk_X12_days 32 rfl) rfl (to_iload (dat dk_X12_days 33 rfl) rfl ?_))
      refine to_cI ca_c13_305 (dat dk_X12_days 34 rfl) (ct_X12_monthDays l h hI y hy y16 ry16) rfl trivial rfl (fun x24 h25 rx24 p26 => ?_)
      obtain ⟨rfl, p26_0⟩ := p26
      refine to_i2l (dat dk_X12_days 35 rfl) (fun w27 => ?_)
      refine to_ladd (dat dk_X12_days 36 rfl) (fun w28 => ?_)
      refine to_lstore_n (L' := [(3, .inr (.inl w28)), (0, .inl y), (1, .inl m), (2, .inl d), (5, .inl y16)]) (dat dk_X12_days 37 rfl) (by decide) rfl (to_iinc (L' := [(3, .inr (.inl w28)), (0, .inl y), (1, .inl m), (2, .inl d), (5, .inl (y16 + 1))]) (dat dk_X12_days 38 rfl) rfl (by decide) rfl (to_goto (dat dk_X12_days 39 rfl) rfl ?_))
      exact ihn18 (n18 - 1) (by omega) w28 (y16 + 1) (by omega) (show 0 ≤ (y16 + 1) by omega) (show m - (y16 + 1) ≤ ((n18 - 1 : Nat) : Int) by omega)
  exact lp37_n18 (m - (1 : Int)).toNat w14 1 (by decide) (show 0 ≤ (1 : Int) by omega) (by omega)
abbrev Q_X12_dateWord (h : Hp) : Option V → Hp → Nat → Nat → Prop := RI (fun x H => Inv H ∧ Fr [236] h H ∧ (H.2.2 60 36 ≤ x ∧ x ≤ H.2.2 60 23))
set_option maxRecDepth 100000 in
theorem ct_X12_dateWord (l : Launch) (h : Hp) (hI : Inv h) (g0 : h.2.2 60 36 ≤ h.2.2 60 23) : Ct l D_X12_dateWord 1 20 [.inr (.inr 60)] h (Q_X12_dateWord h) := by
  refine ct_of pn_X12_dateWord (Nat.le_of_ble_eq_true rfl) ?_
  show To l E_X12_dateWord (0, [(0, .inr (.inr 60))], [], h, 0, 0) _
  obtain ⟨x1, ex1⟩ : ∃ y : Int, h.2.2 60 36 = y := ⟨_, rfl⟩
  have rx1 := hI.atR (a := 60) (j := 36) rfl
  rw [ex1] at rx1
  obtain ⟨x2, ex2⟩ : ∃ y : Int, h.2.2 60 23 = y := ⟨_, rfl⟩
  have rx2 := hI.atR (a := 60) (j := 23) rfl
  rw [ex2] at rx2
  have lp0_n5 : ∀ (n5 : Nat) (h3 : Hp), (Inv h3) → (Fr [236] h h3) → (h3.2.2 60 36 ≤ h3.2.2 60 23) → (h3.2.2 60 23 - h3.2.2 60 36 ≤ (n5 : Int)) → To l E_X12_dateWord (0, [(0, .inr (.inr 60))], [], h3, 0, 0) (Q_X12_dateWord h) := by
    intro n5
    induction n5 using Nat.strongRecOn with
    | _ n5 ihn5 =>
    intro h3 Ih3 fh3 c4 c6
    obtain ⟨x7, ex7⟩ : ∃ y : Int, h3.2.2 60 36 = y := ⟨_, rfl⟩
    have rx7 := Ih3.atR (a := 60) (j := 36) rfl
    rw [ex7] at rx7
    have e8 : h3.2.2 60 23 = x2 := ((Fr.get fh3 (by have := hI.1.1; omega) rfl).trans ex2)
    refine to_aload_n (dat dk_X12_dateWord 0 rfl) rfl (to_getIv (y := x7) ex7 g_c13_308 (dat dk_X12_dateWord 1 rfl) (Ih3.atS rfl) (to_aload_n (dat dk_X12_dateWord 2 rfl) rfl (to_getIv (y := x2) e8 g_c13_171 (dat dk_X12_dateWord 3 rfl) (Ih3.atS rfl) ?_)))
    refine to_ige 53 (dat dk_X12_dateWord 4 rfl) rfl (by omega) (by omega) (fun c9 => ?_) (fun c9 => ?_)
    · skip
      refine to_aload_n (dat dk_X12_dateWord 26 rfl) rfl (to_getIv (y := x7) ex7 g_c13_308 (dat dk_X12_dateWord 27 rfl) (Ih3.atS rfl) (to_istore_n (L' := [(0, .inr (.inr 60)), (1, .inl x7)]) (dat dk_X12_dateWord 28 rfl) (by decide) rfl ?_))
      have lp58_n12 : ∀ (n12 : Nat) (y10 : Int), (I32 y10) → (h3.2.2 60 36 ≤ y10 ∧ y10 ≤ h3.2.2 60 23) → (h3.2.2 60 23 - y10 ≤ (n12 : Int)) → To l E_X12_dateWord (58, [(0, .inr (.inr 60)), (1, .inl y10)], [], h3, 0, 0) (Q_X12_dateWord h) := by
        intro n12
        induction n12 using Nat.strongRecOn with
        | _ n12 ihn12 =>
        intro y10 ry10 c11 c13
        refine to_iload_n (dat dk_X12_dateWord 29 rfl) rfl (to_aload_n (dat dk_X12_dateWord 30 rfl) rfl (to_getIv (y := x2) e8 g_c13_171 (dat dk_X12_dateWord 31 rfl) (Ih3.atS rfl) ?_))
        refine to_ige 95 (dat dk_X12_dateWord 32 rfl) rfl ry10 (by omega) (fun c14 => ?_) (fun c14 => ?_)
        · skip
          refine to_iload_n (dat dk_X12_dateWord 47 rfl) rfl ?_
          exact to_iret rfl (dat dk_X12_dateWord 48 rfl) (ri_mk ry10 ⟨Ih3, fh3, (show h3.2.2 60 36 ≤ y10 ∧ y10 ≤ h3.2.2 60 23 by omega)⟩)
        · skip
          refine to_aload_n (dat dk_X12_dateWord 33 rfl) rfl (to_getR 75 g_c13_60 (dat dk_X12_dateWord 34 rfl) (Ih3.atS rfl) (Ih3.atE rfl) (to_iload_n (dat dk_X12_dateWord 35 rfl) rfl ?_))
          obtain ⟨x15, ex15⟩ : ∃ y : Int, h3.2.2 75 (Int.toNat y10) = y := ⟨_, rfl⟩
          have rx15 := Ih3.atR (a := 75) (j := Int.toNat y10) rfl
          rw [ex15] at rx15
          refine to_baldv (q := 1) ex15 (dat dk_X12_dateWord 36 rfl) (by decide) (Ih3.atS rfl) rfl (by decide) (by omega) ?_
          refine to_cI ca_c13_182 (dat dk_X12_dateWord 37 rfl) (ct_X12_isBlank l h3 Ih3 x15 (by omega)) rfl trivial rfl (fun x16 h17 rx16 p18 => ?_)
          obtain ⟨rfl, zx16⟩ := p18
          refine to_ifne 95 (dat dk_X12_dateWord 38 rfl) rfl rx16 (fun c19 => ?_) (fun c19 => ?_)
          · skip
            refine to_iload_n (dat dk_X12_dateWord 47 rfl) rfl ?_
            exact to_iret rfl (dat dk_X12_dateWord 48 rfl) (ri_mk ry10 ⟨Ih3, fh3, (show h3.2.2 60 36 ≤ y10 ∧ y10 ≤ h3.2.2 60 23 by omega)⟩)
          · skip
            refine to_aload_n (dat dk_X12_dateWord 39 rfl) rfl (to_getR 75 g_c13_60 (dat dk_X12_dateWord 40 rfl) (Ih3.atS rfl) (Ih3.atE rfl) (to_iload_n (dat dk_X12_dateWord 41 rfl) rfl ?_))
            obtain ⟨x20, ex20⟩ : ∃ y : Int, h3.2.2 75 (Int.toNat y10) = y := ⟨_, rfl⟩
            have rx20 := Ih3.atR (a := 75) (j := Int.toNat y10) rfl
            rw [ex20] at rx20
            refine to_baldv (q := 1) ex20 (dat dk_X12_dateWord 42 rfl) (by decide) (Ih3.atS rfl) rfl (by decide) (by omega) (to_bipush (dat dk_X12_dateWord 43 rfl) (by decide) ?_)
            refine to_ieq 95 (dat dk_X12_dateWord 44 rfl) rfl (by omega) (by decide) (fun c21 => ?_) (fun c21 => ?_)
            · skip
              refine to_iload_n (dat dk_X12_dateWord 47 rfl) rfl ?_
              exact to_iret rfl (dat dk_X12_dateWord 48 rfl) (ri_mk ry10 ⟨Ih3, fh3, (show h3.2.2 60 36 ≤ y10 ∧ y10 ≤ h3.2.2 60 23 by omega)⟩)
            · skip
              refine to_iinc (L' := [(0, .inr (.inr 60)), (1, .inl (y10 + 1))]) (dat dk_X12_dateWord 45 rfl) rfl (by decide) rfl (to_goto (dat dk_X12_dateWord 46 rfl) rfl ?_)
              exact ihn12 (n12 - 1) (by omega) (y10 + 1) (by omega) (show h3.2.2 60 36 ≤ (y10 + 1) ∧ (y10 + 1) ≤ h3.2.2 60 23 by omega) (show h3.2.2 60 23 - (y10 + 1) ≤ ((n12 - 1 : Nat) : Int) by omega)
      exact lp58_n12 (h3.2.2 60 23 - x7).toNat x7 (by omega) (show h3.2.2 60 36 ≤ x7 ∧ x7 ≤ h3.2.2 60 23 by omega) (by omega)
    · skip
      refine to_aload_n (dat dk_X12_dateWord 5 rfl) rfl (to_getR 75 g_c13_60 (dat dk_X12_dateWord 6 rfl) (Ih3.atS rfl) (Ih3.atE rfl) (to_aload_n (dat dk_X12_dateWord 7 rfl) rfl (to_getIv (y := x7) ex7 g_c13_308 (dat dk_X12_dateWord 8 rfl) (Ih3.atS rfl) ?_)))
      obtain ⟨x22, ex22⟩ : ∃ y : Int, h3.2.2 75 (Int.toNat x7) = y := ⟨_, rfl⟩
      have rx22 := Ih3.atR (a := 75) (j := Int.toNat x7) rfl
      rw [ex22] at rx22
      refine to_baldv (q := 1) ex22 (dat dk_X12_dateWord 9 rfl) (by decide) (Ih3.atS rfl) rfl (by decide) (by omega) ?_
      refine to_cI ca_c13_182 (dat dk_X12_dateWord 10 rfl) (ct_X12_isBlank l h3 Ih3 x22 (by omega)) rfl trivial rfl (fun x23 h24 rx23 p25 => ?_)
      obtain ⟨rfl, zx23⟩ := p25
      refine to_ifne 40 (dat dk_X12_dateWord 11 rfl) rfl rx23 (fun c26 => ?_) (fun c26 => ?_)
      · skip
        refine to_aload_n (dat dk_X12_dateWord 19 rfl) rfl (to_dup (dat dk_X12_dateWord 20 rfl) rfl (to_getIv (y := x7) ex7 g_c13_308 (dat dk_X12_dateWord 21 rfl) (Ih3.atS rfl) (to_iconst (dat dk_X12_dateWord 22 rfl) (to_iadd (dat dk_X12_dateWord 23 rfl) (to_putIw p_c13_308 (dat dk_X12_dateWord 24 rfl) (Ih3.atS rfl) ?_)))))
        intro h29 wh29
        have I27 : Inv h29 := by rw [wh29]; exact Ih3.put (a := 60) (j := 36) (x := (x7 + 1)) (0) (1301) rfl rfl (show (0 : Int) ≤ (x7 + 1) ∧ (x7 + 1) ≤ 1301 by omega)
        have f28 : Fr [236] h h29 := by rw [wh29]; exact Fr.putF (a := 60) (j := 36) (x := (x7 + 1)) fh3 rfl
        refine to_goto (dat dk_X12_dateWord 25 rfl) rfl ?_
        have e30 : h29.2.2 60 36 = (x7 + 1) := (by rw [wh29]; exact wr_eq)
        have e31 : h29.2.2 60 23 = x2 := (by rw [wh29]; exact e8)
        exact ihn5 (n5 - 1) (by omega) h29 I27 f28 (show h29.2.2 60 36 ≤ h29.2.2 60 23 by omega) (show h29.2.2 60 23 - h29.2.2 60 36 ≤ ((n5 - 1 : Nat) : Int) by omega)
      · skip
        refine to_aload_n (dat dk_X12_dateWord 12 rfl) rfl (to_getR 75 g_c13_60 (dat dk_X12_dateWord 13 rfl) (Ih3.atS rfl) (Ih3.atE rfl) (to_aload_n (dat dk_X12_dateWord 14 rfl) rfl (to_getIv (y := x7) ex7 g_c13_308 (dat dk_X12_dateWord 15 rfl) (Ih3.atS rfl) ?_)))
        obtain ⟨x32, ex32⟩ : ∃ y : Int, h3.2.2 75 (Int.toNat x7) = y := ⟨_, rfl⟩
        have rx32 := Ih3.atR (a := 75) (j := Int.toNat x7) rfl
        rw [ex32] at rx32
        refine to_baldv (q := 1) ex32 (dat dk_X12_dateWord 16 rfl) (by decide) (Ih3.atS rfl) rfl (by decide) (by omega) (to_bipush (dat dk_X12_dateWord 17 rfl) (by decide) ?_)
        refine to_ine 53 (dat dk_X12_dateWord 18 rfl) rfl (by omega) (by decide) (fun c33 => ?_) (fun c33 => ?_)
        · skip
          refine to_aload_n (dat dk_X12_dateWord 26 rfl) rfl (to_getIv (y := x7) ex7 g_c13_308 (dat dk_X12_dateWord 27 rfl) (Ih3.atS rfl) (to_istore_n (L' := [(0, .inr (.inr 60)), (1, .inl x7)]) (dat dk_X12_dateWord 28 rfl) (by decide) rfl ?_))
          have lp58_n36 : ∀ (n36 : Nat) (y34 : Int), (I32 y34) → (h3.2.2 60 36 ≤ y34 ∧ y34 ≤ h3.2.2 60 23) → (h3.2.2 60 23 - y34 ≤ (n36 : Int)) → To l E_X12_dateWord (58, [(0, .inr (.inr 60)), (1, .inl y34)], [], h3, 0, 0) (Q_X12_dateWord h) := by
            intro n36
            induction n36 using Nat.strongRecOn with
            | _ n36 ihn36 =>
            intro y34 ry34 c35 c37
            refine to_iload_n (dat dk_X12_dateWord 29 rfl) rfl (to_aload_n (dat dk_X12_dateWord 30 rfl) rfl (to_getIv (y := x2) e8 g_c13_171 (dat dk_X12_dateWord 31 rfl) (Ih3.atS rfl) ?_))
            refine to_ige 95 (dat dk_X12_dateWord 32 rfl) rfl ry34 (by omega) (fun c38 => ?_) (fun c38 => ?_)
            · skip
              refine to_iload_n (dat dk_X12_dateWord 47 rfl) rfl ?_
              exact to_iret rfl (dat dk_X12_dateWord 48 rfl) (ri_mk ry34 ⟨Ih3, fh3, (show h3.2.2 60 36 ≤ y34 ∧ y34 ≤ h3.2.2 60 23 by omega)⟩)
            · skip
              refine to_aload_n (dat dk_X12_dateWord 33 rfl) rfl (to_getR 75 g_c13_60 (dat dk_X12_dateWord 34 rfl) (Ih3.atS rfl) (Ih3.atE rfl) (to_iload_n (dat dk_X12_dateWord 35 rfl) rfl ?_))
              obtain ⟨x39, ex39⟩ : ∃ y : Int, h3.2.2 75 (Int.toNat y34) = y := ⟨_, rfl⟩
              have rx39 := Ih3.atR (a := 75) (j := Int.toNat y34) rfl
              rw [ex39] at rx39
              refine to_baldv (q := 1) ex39 (dat dk_X12_dateWord 36 rfl) (by decide) (Ih3.atS rfl) rfl (by decide) (by omega) ?_
              refine to_cI ca_c13_182 (dat dk_X12_dateWord 37 rfl) (ct_X12_isBlank l h3 Ih3 x39 (by omega)) rfl trivial rfl (fun x40 h41 rx40 p42 => ?_)
              obtain ⟨rfl, zx40⟩ := p42
              refine to_ifne 95 (dat dk_X12_dateWord 38 rfl) rfl rx40 (fun c43 => ?_) (fun c43 => ?_)
              · skip
                refine to_iload_n (dat dk_X12_dateWord 47 rfl) rfl ?_
                exact to_iret rfl (dat dk_X12_dateWord 48 rfl) (ri_mk ry34 ⟨Ih3, fh3, (show h3.2.2 60 36 ≤ y34 ∧ y34 ≤ h3.2.2 60 23 by omega)⟩)
              · skip
                refine to_aload_n (dat dk_X12_dateWord 39 rfl) rfl (to_getR 75 g_c13_60 (dat dk_X12_dateWord 40 rfl) (Ih3.atS rfl) (Ih3.atE rfl) (to_iload_n (dat dk_X12_dateWord 41 rfl) rfl ?_))
                obtain ⟨x44, ex44⟩ : ∃ y : Int, h3.2.2 75 (Int.toNat y34) = y := ⟨_, rfl⟩
                have rx44 := Ih3.atR (a := 75) (j := Int.toNat y34) rfl
                rw [ex44] at rx44
                refine to_baldv (q := 1) ex44 (dat dk_X12_dateWord 42 rfl) (by decide) (Ih3.atS rfl) rfl (by decide) (by omega) (to_bipush (dat dk_X12_dateWord 43 rfl) (by decide) ?_)
                refine to_ieq 95 (dat dk_X12_dateWord 44 rfl) rfl (by omega) (by decide) (fun c45 => ?_) (fun c45 => ?_)
                · skip
                  refine to_iload_n (dat dk_X12_dateWord 47 rfl) rfl ?_
                  exact to_iret rfl (dat dk_X12_dateWord 48 rfl) (ri_mk ry34 ⟨Ih3, fh3, (show h3.2.2 60 36 ≤ y34 ∧ y34 ≤ h3.2.2 60 23 by omega)⟩)
                · skip
                  refine to_iinc (L' := [(0, .inr (.inr 60)), (1, .inl (y34 + 1))]) (dat dk_X12_dateWord 45 rfl) rfl (by decide) rfl (to_goto (dat dk_X12_dateWord 46 rfl) rfl ?_)
                  exact ihn36 (n36 - 1) (by omega) (y34 + 1) (by omega) (show h3.2.2 60 36 ≤ (y34 + 1) ∧ (y34 + 1) ≤ h3.2.2 60 23 by omega) (show h3.2.2 60 23 - (y34 + 1) ≤ ((n36 - 1 : Nat) : Int) by omega)
          exact lp58_n36 (h3.2.2 60 23 - x7).toNat x7 (by omega) (show h3.2.2 60 36 ≤ x7 ∧ x7 ≤ h3.2.2 60 23 by omega) (by omega)
        · skip
          refine to_aload_n (dat dk_X12_dateWord 19 rfl) rfl (to_dup (dat dk_X12_dateWord 20 rfl) rfl (to_getIv (y := x7) ex7 g_c13_308 (dat dk_X12_dateWord 21 rfl) (Ih3.atS rfl) (to_iconst (dat dk_X12_dateWord 22 rfl) (to_iadd (dat dk_X12_dateWord 23 rfl) (to_putIw p_c13_308 (dat dk_X12_dateWord 24 rfl) (Ih3.atS rfl) ?_)))))
          intro h48 wh48
          have I46 : Inv h48 := by rw [wh48]; exact Ih3.put (a := 60) (j := 36) (x := (x7 + 1)) (0) (1301) rfl rfl (show (0 : Int) ≤ (x7 + 1) ∧ (x7 + 1) ≤ 1301 by omega)
          have f47 : Fr [236] h h48 := by rw [wh48]; exact Fr.putF (a := 60) (j := 36) (x := (x7 + 1)) fh3 rfl
          refine to_goto (dat dk_X12_dateWord 25 rfl) rfl ?_
          have e49 : h48.2.2 60 36 = (x7 + 1) := (by rw [wh48]; exact wr_eq)
          have e50 : h48.2.2 60 23 = x2 := (by rw [wh48]; exact e8)
          exact ihn5 (n5 - 1) (by omega) h48 I46 f47 (show h48.2.2 60 36 ≤ h48.2.2 60 23 by omega) (show h48.2.2 60 23 - h48.2.2 60 36 ≤ ((n5 - 1 : Nat) : Int) by omega)
  exact lp0_n5 (h.2.2 60 23 - h.2.2 60 36).toNat h hI (Fr.rf _ _) (show h.2.2 60 36 ≤ h.2.2 60 23 by omega) (by omega)
abbrev Q_X12_number (h : Hp) (f : Int) (g : Int) : Option V → Hp → Nat → Nat → Prop := RI (fun x H => h = H)
set_option maxRecDepth 100000 in
theorem ct_X12_number (l : Launch) (h : Hp) (hI : Inv h) (f : Int) (hf : I32 f) (g : Int) (hg : I32 g) (g0 : 0 ≤ f ∧ f ≤ 1300) (g1 : 0 ≤ g ∧ g ≤ 1300) : Ct l D_X12_number 1 20 [.inr (.inr 60), .inl f, .inl g] h (Q_X12_number h f g) := by
  refine ct_of pn_X12_number (Nat.le_of_ble_eq_true rfl) ?_
  show To l E_X12_number (0, [(0, .inr (.inr 60)), (1, .inl f), (2, .inl g)], [], h, 0, 0) _
  refine to_iconst (dat dk_X12_number 0 rfl) (to_istore_n (L' := [(0, .inr (.inr 60)), (1, .inl f), (2, .inl g), (3, .inl 0)]) (dat dk_X12_number 1 rfl) (by decide) rfl (to_iload_n (dat dk_X12_number 2 rfl) rfl (to_istore (L' := [(0, .inr (.inr 60)), (1, .inl f), (2, .inl g), (3, .inl 0), (4, .inl f)]) (dat dk_X12_number 3 rfl) (by decide) rfl ?_)))
  have lp5_n4 : ∀ (n4 : Nat) (y1 : Int) (y2 : Int), (I32 y1) → (I32 y2) → (f ≤ y2) → (g - y2 ≤ (n4 : Int)) → To l E_X12_number (5, [(0, .inr (.inr 60)), (1, .inl f), (2, .inl g), (3, .inl y1), (4, .inl y2)], [], h, 0, 0) (Q_X12_number h f g) := by
    intro n4
    induction n4 using Nat.strongRecOn with
    | _ n4 ihn4 =>
    intro y1 y2 ry1 ry2 c3 c5
    refine to_iload (dat dk_X12_number 4 rfl) rfl (to_iload_n (dat dk_X12_number 5 rfl) rfl ?_)
    refine to_ige 48 (dat dk_X12_number 6 rfl) rfl ry2 hg (fun c6 => ?_) (fun c6 => ?_)
    · skip
      refine to_iload_n (dat dk_X12_number 28 rfl) rfl (to_iload_n (dat dk_X12_number 29 rfl) rfl ?_)
      refine to_ile 57 (dat dk_X12_number 30 rfl) rfl hg hf (fun c7 => ?_) (fun c7 => ?_)
      · skip
        refine to_iconst (dat dk_X12_number 33 rfl) ?_
        exact to_iret rfl (dat dk_X12_number 34 rfl) (ri_mk (by decide) rfl)
      · skip
        refine to_iload_n (dat dk_X12_number 31 rfl) rfl (to_goto (dat dk_X12_number 32 rfl) rfl ?_)
        exact to_iret rfl (dat dk_X12_number 34 rfl) (ri_mk ry1 rfl)
    · skip
      refine to_aload_n (dat dk_X12_number 7 rfl) rfl (to_getR 75 g_c13_60 (dat dk_X12_number 8 rfl) (hI.atS rfl) (hI.atE rfl) (to_iload (dat dk_X12_number 9 rfl) rfl ?_))
      obtain ⟨x8, ex8⟩ : ∃ y : Int, h.2.2 75 (Int.toNat y2) = y := ⟨_, rfl⟩
      have rx8 := hI.atR (a := 75) (j := Int.toNat y2) rfl
      rw [ex8] at rx8
      refine to_baldv (q := 1) ex8 (dat dk_X12_number 10 rfl) (by decide) (hI.atS rfl) rfl (by decide) (by omega) ?_
      refine to_cI ca_c13_161 (dat dk_X12_number 11 rfl) (ct_X12_isDigit l h hI x8 (by omega)) rfl trivial rfl (fun x9 h10 rx9 p11 => ?_)
      obtain ⟨rfl, zx9, p11_0⟩ := p11
      refine to_ifne 26 (dat dk_X12_number 12 rfl) rfl rx9 (fun c12 => ?_) (fun c12 => ?_)
      · skip
        refine to_bipush (dat dk_X12_number 15 rfl) (by decide) (to_iload_n (dat dk_X12_number 16 rfl) rfl ?_)
        refine to_imulA (dat dk_X12_number 17 rfl) (fun x13 rx13 => ?_)
        refine to_aload_n (dat dk_X12_number 18 rfl) rfl (to_getR 75 g_c13_60 (dat dk_X12_number 19 rfl) (hI.atS rfl) (hI.atE rfl) (to_iload (dat dk_X12_number 20 rfl) rfl ?_))
        obtain ⟨x14, ex14⟩ : ∃ y : Int, h.2.2 75 (Int.toNat y2) = y := ⟨_, rfl⟩
        have rx14 := hI.atR (a := 75) (j := Int.toNat y2) rfl
        rw [ex14] at rx14
        refine to_baldv (q := 1) ex14 (dat dk_X12_number 21 rfl) (by decide) (hI.atS rfl) rfl (by decide) (by omega) ?_
        refine to_iaddA (dat dk_X12_number 22 rfl) (fun x15 rx15 => ?_)
        refine to_bipush (dat dk_X12_number 23 rfl) (by decide) ?_
        refine to_isubA (dat dk_X12_number 24 rfl) (fun x16 rx16 => ?_)
        refine to_istore_n (L' := [(0, .inr (.inr 60)), (1, .inl f), (2, .inl g), (3, .inl x16), (4, .inl y2)]) (dat dk_X12_number 25 rfl) (by decide) rfl (to_iinc (L' := [(0, .inr (.inr 60)), (1, .inl f), (2, .inl g), (3, .inl x16), (4, .inl (y2 + 1))]) (dat dk_X12_number 26 rfl) rfl (by decide) rfl (to_goto (dat dk_X12_number 27 rfl) rfl ?_))
        exact ihn4 (n4 - 1) (by omega) x16 (y2 + 1) rx16 (by omega) (show f ≤ (y2 + 1) by omega) (show g - (y2 + 1) ≤ ((n4 - 1 : Nat) : Int) by omega)
      · skip
        refine to_iconst (dat dk_X12_number 13 rfl) ?_
        exact to_iret rfl (dat dk_X12_number 14 rfl) (ri_mk (by decide) rfl)
  exact lp5_n4 (g - f).toNat 0 f (by decide) hf (show f ≤ f by omega) (by omega)
abbrev Q_X12_month (h : Hp) (f : Int) (g : Int) : Option V → Hp → Nat → Nat → Prop := RI (fun x H => h = H ∧ (0 ≤ x ∧ x ≤ 12))
set_option maxRecDepth 100000 in
theorem ct_X12_month (l : Launch) (h : Hp) (hI : Inv h) (f : Int) (hf : I32 f) (g : Int) (hg : I32 g) (g0 : 0 ≤ f ∧ f ≤ 1300) (g1 : 0 ≤ g ∧ g ≤ 1300) : Ct l D_X12_month 2 46 [.inr (.inr 60), .inl f, .inl g] h (Q_X12_month h f g) := by
  refine ct_of pn_X12_month (Nat.le_of_ble_eq_true rfl) ?_
  show To l E_X12_month (0, [(0, .inr (.inr 60)), (1, .inl f), (2, .inl g)], [], h, 0, 0) _
  refine to_iload_n (dat dk_X12_month 0 rfl) rfl (to_iload_n (dat dk_X12_month 1 rfl) rfl (to_isub (dat dk_X12_month 2 rfl) (to_iconst (dat dk_X12_month 3 rfl) ?_)))
  refine to_ige 9 (dat dk_X12_month 4 rfl) rfl (by omega) (by decide) (fun c1 => ?_) (fun c1 => ?_)
  · skip
    refine to_iconst (dat dk_X12_month 7 rfl) (to_istore_n (L' := [(0, .inr (.inr 60)), (1, .inl f), (2, .inl g), (3, .inl 0)]) (dat dk_X12_month 8 rfl) (by decide) rfl ?_)
    have lp11_n4 : ∀ (n4 : Nat) (y2 : Int), (I32 y2) → (0 ≤ y2) → (12 - y2 ≤ (n4 : Int)) → To l E_X12_month (11, [(0, .inr (.inr 60)), (1, .inl f), (2, .inl g), (3, .inl y2)], [], h, 0, 0) (Q_X12_month h f g) := by
      intro n4
      induction n4 using Nat.strongRecOn with
      | _ n4 ihn4 =>
      intro y2 ry2 c3 c5
      refine to_iload_n (dat dk_X12_month 9 rfl) rfl (to_bipush (dat dk_X12_month 10 rfl) (by decide) ?_)
      refine to_ige 52 (dat dk_X12_month 11 rfl) rfl ry2 (by decide) (fun c6 => ?_) (fun c6 => ?_)
      · skip
        refine to_iconst (dat dk_X12_month 35 rfl) ?_
        exact to_iret rfl (dat dk_X12_month 36 rfl) (ri_mk (by decide) ⟨rfl, (show 0 ≤ (0 : Int) ∧ (0 : Int) ≤ 12 by omega)⟩)
      · skip
        refine to_aload_n (dat dk_X12_month 12 rfl) rfl (to_getR 75 g_c13_60 (dat dk_X12_month 13 rfl) (hI.atS rfl) (hI.atE rfl) (to_iload_n (dat dk_X12_month 14 rfl) rfl (to_iload_n (dat dk_X12_month 15 rfl) rfl (to_iconst (dat dk_X12_month 16 rfl) (to_iadd (dat dk_X12_month 17 rfl) (to_gst (C := "MailArchiveModel") (f9 := "MONTHS") (d9 := "[I") (List.mem_of_getElem? (i := 9) rfl) (tin 8 173 (by decide +kernel) rfl) (dat dk_X12_month 18 rfl) (to_iconst (dat dk_X12_month 19 rfl) (to_iload_n (dat dk_X12_month 20 rfl) rfl (to_imul (dat dk_X12_month 21 rfl) (to_iconst (dat dk_X12_month 22 rfl) (to_iload_n (dat dk_X12_month 23 rfl) rfl (to_imul (dat dk_X12_month 24 rfl) (to_iconst (dat dk_X12_month 25 rfl) (to_iadd (dat dk_X12_month 26 rfl) ?_))))))))))))))
        refine to_cI ca_c13_198 (dat dk_X12_month 27 rfl) (ct_X12_same l h hI 75 1300 rfl f hf (f + 3) (by omega) 1000208 36 (List.mem_of_getElem? (i := 7) rfl) (3 * y2) (by omega) ((3 * y2) + 3) (by omega) (show 0 ≤ f ∧ f ≤ 640000 by omega) (show -1 ≤ (f + 3) ∧ (f + 3) ≤ 640000 by omega) (show 0 ≤ (3 * y2) ∧ (3 * y2) ≤ 100 by omega) (show 0 ≤ ((3 * y2) + 3) ∧ ((3 * y2) + 3) ≤ (36 : Int) by omega) (show (f + 3) ≤ (1300 : Int) ∨ f + (((3 * y2) + 3) - (3 * y2)) ≤ (1300 : Int) by omega)) rfl trivial rfl (fun x7 h8 rx7 p9 => ?_)
        obtain ⟨rfl, zx7⟩ := p9
        refine to_ifeq 46 (dat dk_X12_month 28 rfl) rfl rx7 (fun c10 => ?_) (fun c10 => ?_)
        · skip
          refine to_iinc (L' := [(0, .inr (.inr 60)), (1, .inl f), (2, .inl g), (3, .inl (y2 + 1))]) (dat dk_X12_month 33 rfl) rfl (by decide) rfl (to_goto (dat dk_X12_month 34 rfl) rfl ?_)
          exact ihn4 (n4 - 1) (by omega) (y2 + 1) (by omega) (show 0 ≤ (y2 + 1) by omega) (show 12 - (y2 + 1) ≤ ((n4 - 1 : Nat) : Int) by omega)
        · skip
          refine to_iload_n (dat dk_X12_month 29 rfl) rfl (to_iconst (dat dk_X12_month 30 rfl) (to_iadd (dat dk_X12_month 31 rfl) ?_))
          exact to_iret rfl (dat dk_X12_month 32 rfl) (ri_mk (by omega) ⟨rfl, (show 0 ≤ (y2 + 1) ∧ (y2 + 1) ≤ 12 by omega)⟩)
    exact lp11_n4 (12 - (0 : Int)).toNat 0 (by decide) (show 0 ≤ (0 : Int) by omega) (by omega)
  · skip
    refine to_iconst (dat dk_X12_month 5 rfl) ?_
    exact to_iret rfl (dat dk_X12_month 6 rfl) (ri_mk (by decide) ⟨rfl, (show 0 ≤ (0 : Int) ∧ (0 : Int) ≤ 12 by omega)⟩)
abbrev Q_X12_clock (h : Hp) (f : Int) (g : Int) : Option V → Hp → Nat → Nat → Prop := RI (fun x H => h = H)
set_option maxRecDepth 100000 in
theorem ct_X12_clock (l : Launch) (h : Hp) (hI : Inv h) (f : Int) (hf : I32 f) (g : Int) (hg : I32 g) (g0 : 0 ≤ f ∧ f ≤ 1300) (g1 : 0 ≤ g ∧ g ≤ 1300) : Ct l D_X12_clock 2 44 [.inr (.inr 60), .inl f, .inl g] h (Q_X12_clock h f g) := by
  refine ct_of pn_X12_clock (Nat.le_of_ble_eq_true rfl) ?_
  show To l E_X12_clock (0, [(0, .inr (.inr 60)), (1, .inl f), (2, .inl g)], [], h, 0, 0) _
  refine to_iload_n (dat dk_X12_clock 0 rfl) rfl (to_iload_n (dat dk_X12_clock 1 rfl) rfl (to_isub (dat dk_X12_clock 2 rfl) (to_istore_n (L' := [(0, .inr (.inr 60)), (1, .inl f), (2, .inl g), (3, .inl (g - f))]) (dat dk_X12_clock 3 rfl) (by decide) rfl (to_iload_n (dat dk_X12_clock 4 rfl) rfl (to_iconst (dat dk_X12_clock 5 rfl) ?_)))))
  refine to_ieq 15 (dat dk_X12_clock 6 rfl) rfl (by omega) (by decide) (fun c1 => ?_) (fun c1 => ?_)
  · skip
    refine to_aload_n (dat dk_X12_clock 10 rfl) rfl (to_getR 75 g_c13_60 (dat dk_X12_clock 11 rfl) (hI.atS rfl) (hI.atE rfl) (to_iload_n (dat dk_X12_clock 12 rfl) rfl (to_iconst (dat dk_X12_clock 13 rfl) (to_iadd (dat dk_X12_clock 14 rfl) ?_))))
    obtain ⟨x2, ex2⟩ : ∃ y : Int, h.2.2 75 (Int.toNat (f + 2)) = y := ⟨_, rfl⟩
    have rx2 := hI.atR (a := 75) (j := Int.toNat (f + 2)) rfl
    rw [ex2] at rx2
    refine to_baldv (q := 1) ex2 (dat dk_X12_clock 15 rfl) (by decide) (hI.atS rfl) rfl (by decide) (by omega) (to_bipush (dat dk_X12_clock 16 rfl) (by decide) ?_)
    refine to_ine 47 (dat dk_X12_clock 17 rfl) rfl (by omega) (by decide) (fun c3 => ?_) (fun c3 => ?_)
    · skip
      refine to_iconst (dat dk_X12_clock 29 rfl) ?_
      exact to_iret rfl (dat dk_X12_clock 30 rfl) (ri_mk (by decide) rfl)
    · skip
      refine to_iload_n (dat dk_X12_clock 18 rfl) rfl (to_bipush (dat dk_X12_clock 19 rfl) (by decide) ?_)
      refine to_ine 49 (dat dk_X12_clock 20 rfl) rfl (by omega) (by decide) (fun c4 => ?_) (fun c4 => ?_)
      · skip
        refine to_aload_n (dat dk_X12_clock 31 rfl) rfl (to_iload_n (dat dk_X12_clock 32 rfl) rfl (to_iload_n (dat dk_X12_clock 33 rfl) rfl (to_iconst (dat dk_X12_clock 34 rfl) (to_iadd (dat dk_X12_clock 35 rfl) ?_))))
        refine to_cI ca_c13_314 (dat dk_X12_clock 36 rfl) (ct_X12_number l h hI f hf (f + 2) (by omega) (show 0 ≤ f ∧ f ≤ 1300 by omega) (show 0 ≤ (f + 2) ∧ (f + 2) ≤ 1300 by omega)) rfl ⟨_, _, rfl, (hI.atS rfl)⟩ rfl (fun x5 h6 rx5 p7 => ?_)
        subst p7
        refine to_istore (L' := [(0, .inr (.inr 60)), (1, .inl f), (2, .inl g), (3, .inl (g - f)), (4, .inl x5)]) (dat dk_X12_clock 37 rfl) (by decide) rfl (to_aload_n (dat dk_X12_clock 38 rfl) rfl (to_iload_n (dat dk_X12_clock 39 rfl) rfl (to_iconst (dat dk_X12_clock 40 rfl) (to_iadd (dat dk_X12_clock 41 rfl) (to_iload_n (dat dk_X12_clock 42 rfl) rfl (to_iconst (dat dk_X12_clock 43 rfl) (to_iadd (dat dk_X12_clock 44 rfl) ?_)))))))
        refine to_cI ca_c13_314 (dat dk_X12_clock 45 rfl) (ct_X12_number l h hI (f + 3) (by omega) (f + 5) (by omega) (show 0 ≤ (f + 3) ∧ (f + 3) ≤ 1300 by omega) (show 0 ≤ (f + 5) ∧ (f + 5) ≤ 1300 by omega)) rfl ⟨_, _, rfl, (hI.atS rfl)⟩ rfl (fun x8 h9 rx8 p10 => ?_)
        subst p10
        refine to_istore (L' := [(0, .inr (.inr 60)), (1, .inl f), (2, .inl g), (3, .inl (g - f)), (4, .inl x5), (5, .inl x8)]) (dat dk_X12_clock 46 rfl) (by decide) rfl ?_
        have jn90_n12 : ∀ (y11 : Int), (I32 y11) → To l E_X12_clock (90, [(0, .inr (.inr 60)), (1, .inl f), (2, .inl g), (3, .inl (g - f)), (4, .inl x5), (5, .inl x8)], [.inl y11], h, 0, 0) (Q_X12_clock h f g) := by
          intro y11 ry11
          refine to_istore (L' := [(0, .inr (.inr 60)), (1, .inl f), (2, .inl g), (3, .inl (g - f)), (4, .inl x5), (5, .inl x8), (6, .inl y11)]) (dat dk_X12_clock 58 rfl) (by decide) rfl (to_iload (dat dk_X12_clock 59 rfl) rfl ?_)
          refine to_iflt 128 (dat dk_X12_clock 60 rfl) rfl rx5 (fun c13 => ?_) (fun c13 => ?_)
          · skip
            refine to_iconst (dat dk_X12_clock 74 rfl) (to_goto (dat dk_X12_clock 75 rfl) rfl ?_)
            exact to_iret rfl (dat dk_X12_clock 81 rfl) (ri_mk (by decide) rfl)
          · skip
            refine to_iload (dat dk_X12_clock 61 rfl) rfl (to_bipush (dat dk_X12_clock 62 rfl) (by decide) ?_)
            refine to_igt 128 (dat dk_X12_clock 63 rfl) rfl rx5 (by decide) (fun c14 => ?_) (fun c14 => ?_)
            · skip
              refine to_iconst (dat dk_X12_clock 74 rfl) (to_goto (dat dk_X12_clock 75 rfl) rfl ?_)
              exact to_iret rfl (dat dk_X12_clock 81 rfl) (ri_mk (by decide) rfl)
            · skip
              refine to_iload (dat dk_X12_clock 64 rfl) rfl ?_
              refine to_iflt 128 (dat dk_X12_clock 65 rfl) rfl rx8 (fun c15 => ?_) (fun c15 => ?_)
              · skip
                refine to_iconst (dat dk_X12_clock 74 rfl) (to_goto (dat dk_X12_clock 75 rfl) rfl ?_)
                exact to_iret rfl (dat dk_X12_clock 81 rfl) (ri_mk (by decide) rfl)
              · skip
                refine to_iload (dat dk_X12_clock 66 rfl) rfl (to_bipush (dat dk_X12_clock 67 rfl) (by decide) ?_)
                refine to_igt 128 (dat dk_X12_clock 68 rfl) rfl rx8 (by decide) (fun c16 => ?_) (fun c16 => ?_)
                · skip
                  refine to_iconst (dat dk_X12_clock 74 rfl) (to_goto (dat dk_X12_clock 75 rfl) rfl ?_)
                  exact to_iret rfl (dat dk_X12_clock 81 rfl) (ri_mk (by decide) rfl)
                · skip
                  refine to_iload (dat dk_X12_clock 69 rfl) rfl ?_
                  refine to_iflt 128 (dat dk_X12_clock 70 rfl) rfl ry11 (fun c17 => ?_) (fun c17 => ?_)
                  · skip
                    refine to_iconst (dat dk_X12_clock 74 rfl) (to_goto (dat dk_X12_clock 75 rfl) rfl ?_)
                    exact to_iret rfl (dat dk_X12_clock 81 rfl) (ri_mk (by decide) rfl)
                  · skip
                    refine to_iload (dat dk_X12_clock 71 rfl) rfl (to_bipush (dat dk_X12_clock 72 rfl) (by decide) ?_)
                    refine to_ile 132 (dat dk_X12_clock 73 rfl) rfl ry11 (by decide) (fun c18 => ?_) (fun c18 => ?_)
                    · skip
                      refine to_bipush (dat dk_X12_clock 76 rfl) (by decide) (to_iload (dat dk_X12_clock 77 rfl) rfl (to_imul (dat dk_X12_clock 78 rfl) (to_iload (dat dk_X12_clock 79 rfl) rfl (to_iadd (dat dk_X12_clock 80 rfl) ?_))))
                      exact to_iret rfl (dat dk_X12_clock 81 rfl) (ri_mk (by omega) rfl)
                    · skip
                      refine to_iconst (dat dk_X12_clock 74 rfl) (to_goto (dat dk_X12_clock 75 rfl) rfl ?_)
                      exact to_iret rfl (dat dk_X12_clock 81 rfl) (ri_mk (by decide) rfl)
        refine to_iload_n (dat dk_X12_clock 47 rfl) rfl (to_bipush (dat dk_X12_clock 48 rfl) (by decide) ?_)
        refine to_ine 89 (dat dk_X12_clock 49 rfl) rfl (by omega) (by decide) (fun c19 => ?_) (fun c19 => ?_)
        · skip
          refine to_iconst (dat dk_X12_clock 57 rfl) ?_
          exact jn90_n12 0 (by decide)
        · skip
          refine to_aload_n (dat dk_X12_clock 50 rfl) rfl (to_iload_n (dat dk_X12_clock 51 rfl) rfl (to_bipush (dat dk_X12_clock 52 rfl) (by decide) (to_iadd (dat dk_X12_clock 53 rfl) (to_iload_n (dat dk_X12_clock 54 rfl) rfl ?_))))
          refine to_cI ca_c13_314 (dat dk_X12_clock 55 rfl) (ct_X12_number l h hI (f + 6) (by omega) g hg (show 0 ≤ (f + 6) ∧ (f + 6) ≤ 1300 by omega) (show 0 ≤ g ∧ g ≤ 1300 by omega)) rfl ⟨_, _, rfl, (hI.atS rfl)⟩ rfl (fun x20 h21 rx20 p22 => ?_)
          subst p22
          refine to_goto (dat dk_X12_clock 56 rfl) rfl ?_
          exact jn90_n12 x20 rx20
      · skip
        refine to_aload_n (dat dk_X12_clock 21 rfl) rfl (to_getR 75 g_c13_60 (dat dk_X12_clock 22 rfl) (hI.atS rfl) (hI.atE rfl) (to_iload_n (dat dk_X12_clock 23 rfl) rfl (to_iconst (dat dk_X12_clock 24 rfl) (to_iadd (dat dk_X12_clock 25 rfl) ?_))))
        obtain ⟨x23, ex23⟩ : ∃ y : Int, h.2.2 75 (Int.toNat (f + 5)) = y := ⟨_, rfl⟩
        have rx23 := hI.atR (a := 75) (j := Int.toNat (f + 5)) rfl
        rw [ex23] at rx23
        refine to_baldv (q := 1) ex23 (dat dk_X12_clock 26 rfl) (by decide) (hI.atS rfl) rfl (by decide) (by omega) (to_bipush (dat dk_X12_clock 27 rfl) (by decide) ?_)
        refine to_ieq 49 (dat dk_X12_clock 28 rfl) rfl (by omega) (by decide) (fun c24 => ?_) (fun c24 => ?_)
        · skip
          refine to_aload_n (dat dk_X12_clock 31 rfl) rfl (to_iload_n (dat dk_X12_clock 32 rfl) rfl (to_iload_n (dat dk_X12_clock 33 rfl) rfl (to_iconst (dat dk_X12_clock 34 rfl) (to_iadd (dat dk_X12_clock 35 rfl) ?_))))
          refine to_cI ca_c13_314 (dat dk_X12_clock 36 rfl) (ct_X12_number l h hI f hf (f + 2) (by omega) (show 0 ≤ f ∧ f ≤ 1300 by omega) (show 0 ≤ (f + 2) ∧ (f + 2) ≤ 1300 by omega)) rfl ⟨_, _, rfl, (hI.atS rfl)⟩ rfl (fun x25 h26 rx25 p27 => ?_)
          subst p27
          refine to_istore (L' := [(0, .inr (.inr 60)), (1, .inl f), (2, .inl g), (3, .inl (g - f)), (4, .inl x25)]) (dat dk_X12_clock 37 rfl) (by decide) rfl (to_aload_n (dat dk_X12_clock 38 rfl) rfl (to_iload_n (dat dk_X12_clock 39 rfl) rfl (to_iconst (dat dk_X12_clock 40 rfl) (to_iadd (dat dk_X12_clock 41 rfl) (to_iload_n (dat dk_X12_clock 42 rfl) rfl (to_iconst (dat dk_X12_clock 43 rfl) (to_iadd (dat dk_X12_clock 44 rfl) ?_)))))))
          refine to_cI ca_c13_314 (dat dk_X12_clock 45 rfl) (ct_X12_number l h hI (f + 3) (by omega) (f + 5) (by omega) (show 0 ≤ (f + 3) ∧ (f + 3) ≤ 1300 by omega) (show 0 ≤ (f + 5) ∧ (f + 5) ≤ 1300 by omega)) rfl ⟨_, _, rfl, (hI.atS rfl)⟩ rfl (fun x28 h29 rx28 p30 => ?_)
          subst p30
          refine to_istore (L' := [(0, .inr (.inr 60)), (1, .inl f), (2, .inl g), (3, .inl (g - f)), (4, .inl x25), (5, .inl x28)]) (dat dk_X12_clock 46 rfl) (by decide) rfl ?_
          have jn90_n32 : ∀ (y31 : Int), (I32 y31) → To l E_X12_clock (90, [(0, .inr (.inr 60)), (1, .inl f), (2, .inl g), (3, .inl (g - f)), (4, .inl x25), (5, .inl x28)], [.inl y31], h, 0, 0) (Q_X12_clock h f g) := by
            intro y31 ry31
            refine to_istore (L' := [(0, .inr (.inr 60)), (1, .inl f), (2, .inl g), (3, .inl (g - f)), (4, .inl x25), (5, .inl x28), (6, .inl y31)]) (dat dk_X12_clock 58 rfl) (by decide) rfl (to_iload (dat dk_X12_clock 59 rfl) rfl ?_)
            refine to_iflt 128 (dat dk_X12_clock 60 rfl) rfl rx25 (fun c33 => ?_) (fun c33 => ?_)
            · skip
              refine to_iconst (dat dk_X12_clock 74 rfl) (to_goto (dat dk_X12_clock 75 rfl) rfl ?_)
              exact to_iret rfl (dat dk_X12_clock 81 rfl) (ri_mk (by decide) rfl)
            · skip
              refine to_iload (dat dk_X12_clock 61 rfl) rfl (to_bipush (dat dk_X12_clock 62 rfl) (by decide) ?_)
              refine to_igt 128 (dat dk_X12_clock 63 rfl) rfl rx25 (by decide) (fun c34 => ?_) (fun c34 => ?_)
              · skip
                refine to_iconst (dat dk_X12_clock 74 rfl) (to_goto (dat dk_X12_clock 75 rfl) rfl ?_)
                exact to_iret rfl (dat dk_X12_clock 81 rfl) (ri_mk (by decide) rfl)
              · skip
                refine to_iload (dat dk_X12_clock 64 rfl) rfl ?_
                refine to_iflt 128 (dat dk_X12_clock 65 rfl) rfl rx28 (fun c35 => ?_) (fun c35 => ?_)
                · skip
                  refine to_iconst (dat dk_X12_clock 74 rfl) (to_goto (dat dk_X12_clock 75 rfl) rfl ?_)
                  exact to_iret rfl (dat dk_X12_clock 81 rfl) (ri_mk (by decide) rfl)
                · skip
                  refine to_iload (dat dk_X12_clock 66 rfl) rfl (to_bipush (dat dk_X12_clock 67 rfl) (by decide) ?_)
                  refine to_igt 128 (dat dk_X12_clock 68 rfl) rfl rx28 (by decide) (fun c36 => ?_) (fun c36 => ?_)
                  · skip
                    refine to_iconst (dat dk_X12_clock 74 rfl) (to_goto (dat dk_X12_clock 75 rfl) rfl ?_)
                    exact to_iret rfl (dat dk_X12_clock 81 rfl) (ri_mk (by decide) rfl)
                  · skip
                    refine to_iload (dat dk_X12_clock 69 rfl) rfl ?_
                    refine to_iflt 128 (dat dk_X12_clock 70 rfl) rfl ry31 (fun c37 => ?_) (fun c37 => ?_)
                    · skip
                      refine to_iconst (dat dk_X12_clock 74 rfl) (to_goto (dat dk_X12_clock 75 rfl) rfl ?_)
                      exact to_iret rfl (dat dk_X12_clock 81 rfl) (ri_mk (by decide) rfl)
                    · skip
                      refine to_iload (dat dk_X12_clock 71 rfl) rfl (to_bipush (dat dk_X12_clock 72 rfl) (by decide) ?_)
                      refine to_ile 132 (dat dk_X12_clock 73 rfl) rfl ry31 (by decide) (fun c38 => ?_) (fun c38 => ?_)
                      · skip
                        refine to_bipush (dat dk_X12_clock 76 rfl) (by decide) (to_iload (dat dk_X12_clock 77 rfl) rfl (to_imul (dat dk_X12_clock 78 rfl) (to_iload (dat dk_X12_clock 79 rfl) rfl (to_iadd (dat dk_X12_clock 80 rfl) ?_))))
                        exact to_iret rfl (dat dk_X12_clock 81 rfl) (ri_mk (by omega) rfl)
                      · skip
                        refine to_iconst (dat dk_X12_clock 74 rfl) (to_goto (dat dk_X12_clock 75 rfl) rfl ?_)
                        exact to_iret rfl (dat dk_X12_clock 81 rfl) (ri_mk (by decide) rfl)
          refine to_iload_n (dat dk_X12_clock 47 rfl) rfl (to_bipush (dat dk_X12_clock 48 rfl) (by decide) ?_)
          refine to_ine 89 (dat dk_X12_clock 49 rfl) rfl (by omega) (by decide) (fun c39 => ?_) (fun c39 => ?_)
          · skip
            refine to_iconst (dat dk_X12_clock 57 rfl) ?_
            exact jn90_n32 0 (by decide)
          · skip
            refine to_aload_n (dat dk_X12_clock 50 rfl) rfl (to_iload_n (dat dk_X12_clock 51 rfl) rfl (to_bipush (dat dk_X12_clock 52 rfl) (by decide) (to_iadd (dat dk_X12_clock 53 rfl) (to_iload_n (dat dk_X12_clock 54 rfl) rfl ?_))))
            refine to_cI ca_c13_314 (dat dk_X12_clock 55 rfl) (ct_X12_number l h hI (f + 6) (by omega) g hg (show 0 ≤ (f + 6) ∧ (f + 6) ≤ 1300 by omega) (show 0 ≤ g ∧ g ≤ 1300 by omega)) rfl ⟨_, _, rfl, (hI.atS rfl)⟩ rfl (fun x40 h41 rx40 p42 => ?_)
            subst p42
            refine to_goto (dat dk_X12_clock 56 rfl) rfl ?_
            exact jn90_n32 x40 rx40
        · skip
          refine to_iconst (dat dk_X12_clock 29 rfl) ?_
          exact to_iret rfl (dat dk_X12_clock 30 rfl) (ri_mk (by decide) rfl)
  · skip
    refine to_iload_n (dat dk_X12_clock 7 rfl) rfl (to_bipush (dat dk_X12_clock 8 rfl) (by decide) ?_)
    refine to_ine 47 (dat dk_X12_clock 9 rfl) rfl (by omega) (by decide) (fun c43 => ?_) (fun c43 => ?_)
    · skip
      refine to_iconst (dat dk_X12_clock 29 rfl) ?_
      exact to_iret rfl (dat dk_X12_clock 30 rfl) (ri_mk (by decide) rfl)
    · skip
      refine to_aload_n (dat dk_X12_clock 10 rfl) rfl (to_getR 75 g_c13_60 (dat dk_X12_clock 11 rfl) (hI.atS rfl) (hI.atE rfl) (to_iload_n (dat dk_X12_clock 12 rfl) rfl (to_iconst (dat dk_X12_clock 13 rfl) (to_iadd (dat dk_X12_clock 14 rfl) ?_))))
      obtain ⟨x44, ex44⟩ : ∃ y : Int, h.2.2 75 (Int.toNat (f + 2)) = y := ⟨_, rfl⟩
      have rx44 := hI.atR (a := 75) (j := Int.toNat (f + 2)) rfl
      rw [ex44] at rx44
      refine to_baldv (q := 1) ex44 (dat dk_X12_clock 15 rfl) (by decide) (hI.atS rfl) rfl (by decide) (by omega) (to_bipush (dat dk_X12_clock 16 rfl) (by decide) ?_)
      refine to_ine 47 (dat dk_X12_clock 17 rfl) rfl (by omega) (by decide) (fun c45 => ?_) (fun c45 => ?_)
      · skip
        refine to_iconst (dat dk_X12_clock 29 rfl) ?_
        exact to_iret rfl (dat dk_X12_clock 30 rfl) (ri_mk (by decide) rfl)
      · skip
        refine to_iload_n (dat dk_X12_clock 18 rfl) rfl (to_bipush (dat dk_X12_clock 19 rfl) (by decide) ?_)
        refine to_ine 49 (dat dk_X12_clock 20 rfl) rfl (by omega) (by decide) (fun c46 => ?_) (fun c46 => ?_)
        · skip
          refine to_aload_n (dat dk_X12_clock 31 rfl) rfl (to_iload_n (dat dk_X12_clock 32 rfl) rfl (to_iload_n (dat dk_X12_clock 33 rfl) rfl (to_iconst (dat dk_X12_clock 34 rfl) (to_iadd (dat dk_X12_clock 35 rfl) ?_))))
          refine to_cI ca_c13_314 (dat dk_X12_clock 36 rfl) (ct_X12_number l h hI f hf (f + 2) (by omega) (show 0 ≤ f ∧ f ≤ 1300 by omega) (show 0 ≤ (f + 2) ∧ (f + 2) ≤ 1300 by omega)) rfl ⟨_, _, rfl, (hI.atS rfl)⟩ rfl (fun x47 h48 rx47 p49 => ?_)
          subst p49
          refine to_istore (L' := [(0, .inr (.inr 60)), (1, .inl f), (2, .inl g), (3, .inl (g - f)), (4, .inl x47)]) (dat dk_X12_clock 37 rfl) (by decide) rfl (to_aload_n (dat dk_X12_clock 38 rfl) rfl (to_iload_n (dat dk_X12_clock 39 rfl) rfl (to_iconst (dat dk_X12_clock 40 rfl) (to_iadd (dat dk_X12_clock 41 rfl) (to_iload_n (dat dk_X12_clock 42 rfl) rfl (to_iconst (dat dk_X12_clock 43 rfl) (to_iadd (dat dk_X12_clock 44 rfl) ?_)))))))
          refine to_cI ca_c13_314 (dat dk_X12_clock 45 rfl) (ct_X12_number l h hI (f + 3) (by omega) (f + 5) (by omega) (show 0 ≤ (f + 3) ∧ (f + 3) ≤ 1300 by omega) (show 0 ≤ (f + 5) ∧ (f + 5) ≤ 1300 by omega)) rfl ⟨_, _, rfl, (hI.atS rfl)⟩ rfl (fun x50 h51 rx50 p52 => ?_)
          subst p52
          refine to_istore (L' := [(0, .inr (.inr 60)), (1, .inl f), (2, .inl g), (3, .inl (g - f)), (4, .inl x47), (5, .inl x50)]) (dat dk_X12_clock 46 rfl) (by decide) rfl ?_
          have jn90_n54 : ∀ (y53 : Int), (I32 y53) → To l E_X12_clock (90, [(0, .inr (.inr 60)), (1, .inl f), (2, .inl g), (3, .inl (g - f)), (4, .inl x47), (5, .inl x50)], [.inl y53], h, 0, 0) (Q_X12_clock h f g) := by
            intro y53 ry53
            refine to_istore (L' := [(0, .inr (.inr 60)), (1, .inl f), (2, .inl g), (3, .inl (g - f)), (4, .inl x47), (5, .inl x50), (6, .inl y53)]) (dat dk_X12_clock 58 rfl) (by decide) rfl (to_iload (dat dk_X12_clock 59 rfl) rfl ?_)
            refine to_iflt 128 (dat dk_X12_clock 60 rfl) rfl rx47 (fun c55 => ?_) (fun c55 => ?_)
            · skip
              refine to_iconst (dat dk_X12_clock 74 rfl) (to_goto (dat dk_X12_clock 75 rfl) rfl ?_)
              exact to_iret rfl (dat dk_X12_clock 81 rfl) (ri_mk (by decide) rfl)
            · skip
              refine to_iload (dat dk_X12_clock 61 rfl) rfl (to_bipush (dat dk_X12_clock 62 rfl) (by decide) ?_)
              refine to_igt 128 (dat dk_X12_clock 63 rfl) rfl rx47 (by decide) (fun c56 => ?_) (fun c56 => ?_)
              · skip
                refine to_iconst (dat dk_X12_clock 74 rfl) (to_goto (dat dk_X12_clock 75 rfl) rfl ?_)
                exact to_iret rfl (dat dk_X12_clock 81 rfl) (ri_mk (by decide) rfl)
              · skip
                refine to_iload (dat dk_X12_clock 64 rfl) rfl ?_
                refine to_iflt 128 (dat dk_X12_clock 65 rfl) rfl rx50 (fun c57 => ?_) (fun c57 => ?_)
                · skip
                  refine to_iconst (dat dk_X12_clock 74 rfl) (to_goto (dat dk_X12_clock 75 rfl) rfl ?_)
                  exact to_iret rfl (dat dk_X12_clock 81 rfl) (ri_mk (by decide) rfl)
                · skip
                  refine to_iload (dat dk_X12_clock 66 rfl) rfl (to_bipush (dat dk_X12_clock 67 rfl) (by decide) ?_)
                  refine to_igt 128 (dat dk_X12_clock 68 rfl) rfl rx50 (by decide) (fun c58 => ?_) (fun c58 => ?_)
                  · skip
                    refine to_iconst (dat dk_X12_clock 74 rfl) (to_goto (dat dk_X12_clock 75 rfl) rfl ?_)
                    exact to_iret rfl (dat dk_X12_clock 81 rfl) (ri_mk (by decide) rfl)
                  · skip
                    refine to_iload (dat dk_X12_clock 69 rfl) rfl ?_
                    refine to_iflt 128 (dat dk_X12_clock 70 rfl) rfl ry53 (fun c59 => ?_) (fun c59 => ?_)
                    · skip
                      refine to_iconst (dat dk_X12_clock 74 rfl) (to_goto (dat dk_X12_clock 75 rfl) rfl ?_)
                      exact to_iret rfl (dat dk_X12_clock 81 rfl) (ri_mk (by decide) rfl)
                    · skip
                      refine to_iload (dat dk_X12_clock 71 rfl) rfl (to_bipush (dat dk_X12_clock 72 rfl) (by decide) ?_)
                      refine to_ile 132 (dat dk_X12_clock 73 rfl) rfl ry53 (by decide) (fun c60 => ?_) (fun c60 => ?_)
                      · skip
                        refine to_bipush (dat dk_X12_clock 76 rfl) (by decide) (to_iload (dat dk_X12_clock 77 rfl) rfl (to_imul (dat dk_X12_clock 78 rfl) (to_iload (dat dk_X12_clock 79 rfl) rfl (to_iadd (dat dk_X12_clock 80 rfl) ?_))))
                        exact to_iret rfl (dat dk_X12_clock 81 rfl) (ri_mk (by omega) rfl)
                      · skip
                        refine to_iconst (dat dk_X12_clock 74 rfl) (to_goto (dat dk_X12_clock 75 rfl) rfl ?_)
                        exact to_iret rfl (dat dk_X12_clock 81 rfl) (ri_mk (by decide) rfl)
          refine to_iload_n (dat dk_X12_clock 47 rfl) rfl (to_bipush (dat dk_X12_clock 48 rfl) (by decide) ?_)
          refine to_ine 89 (dat dk_X12_clock 49 rfl) rfl (by omega) (by decide) (fun c61 => ?_) (fun c61 => ?_)
          · skip
            refine to_iconst (dat dk_X12_clock 57 rfl) ?_
            exact jn90_n54 0 (by decide)
          · skip
            refine to_aload_n (dat dk_X12_clock 50 rfl) rfl (to_iload_n (dat dk_X12_clock 51 rfl) rfl (to_bipush (dat dk_X12_clock 52 rfl) (by decide) (to_iadd (dat dk_X12_clock 53 rfl) (to_iload_n (dat dk_X12_clock 54 rfl) rfl ?_))))
            refine to_cI ca_c13_314 (dat dk_X12_clock 55 rfl) (ct_X12_number l h hI (f + 6) (by omega) g hg (show 0 ≤ (f + 6) ∧ (f + 6) ≤ 1300 by omega) (show 0 ≤ g ∧ g ≤ 1300 by omega)) rfl ⟨_, _, rfl, (hI.atS rfl)⟩ rfl (fun x62 h63 rx62 p64 => ?_)
            subst p64
            refine to_goto (dat dk_X12_clock 56 rfl) rfl ?_
            exact jn90_n54 x62 rx62
        · skip
          refine to_aload_n (dat dk_X12_clock 21 rfl) rfl (to_getR 75 g_c13_60 (dat dk_X12_clock 22 rfl) (hI.atS rfl) (hI.atE rfl) (to_iload_n (dat dk_X12_clock 23 rfl) rfl (to_iconst (dat dk_X12_clock 24 rfl) (to_iadd (dat dk_X12_clock 25 rfl) ?_))))
          obtain ⟨x65, ex65⟩ : ∃ y : Int, h.2.2 75 (Int.toNat (f + 5)) = y := ⟨_, rfl⟩
          have rx65 := hI.atR (a := 75) (j := Int.toNat (f + 5)) rfl
          rw [ex65] at rx65
          refine to_baldv (q := 1) ex65 (dat dk_X12_clock 26 rfl) (by decide) (hI.atS rfl) rfl (by decide) (by omega) (to_bipush (dat dk_X12_clock 27 rfl) (by decide) ?_)
          refine to_ieq 49 (dat dk_X12_clock 28 rfl) rfl (by omega) (by decide) (fun c66 => ?_) (fun c66 => ?_)
          · skip
            refine to_aload_n (dat dk_X12_clock 31 rfl) rfl (to_iload_n (dat dk_X12_clock 32 rfl) rfl (to_iload_n (dat dk_X12_clock 33 rfl) rfl (to_iconst (dat dk_X12_clock 34 rfl) (to_iadd (dat dk_X12_clock 35 rfl) ?_))))
            refine to_cI ca_c13_314 (dat dk_X12_clock 36 rfl) (ct_X12_number l h hI f hf (f + 2) (by omega) (show 0 ≤ f ∧ f ≤ 1300 by omega) (show 0 ≤ (f + 2) ∧ (f + 2) ≤ 1300 by omega)) rfl ⟨_, _, rfl, (hI.atS rfl)⟩ rfl (fun x67 h68 rx67 p69 => ?_)
            subst p69
            refine to_istore (L' := [(0, .inr (.inr 60)), (1, .inl f), (2, .inl g), (3, .inl (g - f)), (4, .inl x67)]) (dat dk_X12_clock 37 rfl) (by decide) rfl (to_aload_n (dat dk_X12_clock 38 rfl) rfl (to_iload_n (dat dk_X12_clock 39 rfl) rfl (to_iconst (dat dk_X12_clock 40 rfl) (to_iadd (dat dk_X12_clock 41 rfl) (to_iload_n (dat dk_X12_clock 42 rfl) rfl (to_iconst (dat dk_X12_clock 43 rfl) (to_iadd (dat dk_X12_clock 44 rfl) ?_)))))))
            refine to_cI ca_c13_314 (dat dk_X12_clock 45 rfl) (ct_X12_number l h hI (f + 3) (by omega) (f + 5) (by omega) (show 0 ≤ (f + 3) ∧ (f + 3) ≤ 1300 by omega) (show 0 ≤ (f + 5) ∧ (f + 5) ≤ 1300 by omega)) rfl ⟨_, _, rfl, (hI.atS rfl)⟩ rfl (fun x70 h71 rx70 p72 => ?_)
            subst p72
            refine to_istore (L' := [(0, .inr (.inr 60)), (1, .inl f), (2, .inl g), (3, .inl (g - f)), (4, .inl x67), (5, .inl x70)]) (dat dk_X12_clock 46 rfl) (by decide) rfl ?_
            have jn90_n74 : ∀ (y73 : Int), (I32 y73) → To l E_X12_clock (90, [(0, .inr (.inr 60)), (1, .inl f), (2, .inl g), (3, .inl (g - f)), (4, .inl x67), (5, .inl x70)], [.inl y73], h, 0, 0) (Q_X12_clock h f g) := by
              intro y73 ry73
              refine to_istore (L' := [(0, .inr (.inr 60)), (1, .inl f), (2, .inl g), (3, .inl (g - f)), (4, .inl x67), (5, .inl x70), (6, .inl y73)]) (dat dk_X12_clock 58 rfl) (by decide) rfl (to_iload (dat dk_X12_clock 59 rfl) rfl ?_)
              refine to_iflt 128 (dat dk_X12_clock 60 rfl) rfl rx67 (fun c75 => ?_) (fun c75 => ?_)
              · skip
                refine to_iconst (dat dk_X12_clock 74 rfl) (to_goto (dat dk_X12_clock 75 rfl) rfl ?_)
                exact to_iret rfl (dat dk_X12_clock 81 rfl) (ri_mk (by decide) rfl)
              · skip
                refine to_iload (dat dk_X12_clock 61 rfl) rfl (to_bipush (dat dk_X12_clock 62 rfl) (by decide) ?_)
                refine to_igt 128 (dat dk_X12_clock 63 rfl) rfl rx67 (by decide) (fun c76 => ?_) (fun c76 => ?_)
                · skip
                  refine to_iconst (dat dk_X12_clock 74 rfl) (to_goto (dat dk_X12_clock 75 rfl) rfl ?_)
                  exact to_iret rfl (dat dk_X12_clock 81 rfl) (ri_mk (by decide) rfl)
                · skip
                  refine to_iload (dat dk_X12_clock 64 rfl) rfl ?_
                  refine to_iflt 128 (dat dk_X12_clock 65 rfl) rfl rx70 (fun c77 => ?_) (fun c77 => ?_)
                  · skip
                    refine to_iconst (dat dk_X12_clock 74 rfl) (to_goto (dat dk_X12_clock 75 rfl) rfl ?_)
                    exact to_iret rfl (dat dk_X12_clock 81 rfl) (ri_mk (by decide) rfl)
                  · skip
                    refine to_iload (dat dk_X12_clock 66 rfl) rfl (to_bipush (dat dk_X12_clock 67 rfl) (by decide) ?_)
                    refine to_igt 128 (dat dk_X12_clock 68 rfl) rfl rx70 (by decide) (fun c78 => ?_) (fun c78 => ?_)
                    · skip
                      refine to_iconst (dat dk_X12_clock 74 rfl) (to_goto (dat dk_X12_clock 75 rfl) rfl ?_)
                      exact to_iret rfl (dat dk_X12_clock 81 rfl) (ri_mk (by decide) rfl)
                    · skip
                      refine to_iload (dat dk_X12_clock 69 rfl) rfl ?_
                      refine to_iflt 128 (dat dk_X12_clock 70 rfl) rfl ry73 (fun c79 => ?_) (fun c79 => ?_)
                      · skip
                        refine to_iconst (dat dk_X12_clock 74 rfl) (to_goto (dat dk_X12_clock 75 rfl) rfl ?_)
                        exact to_iret rfl (dat dk_X12_clock 81 rfl) (ri_mk (by decide) rfl)
                      · skip
                        refine to_iload (dat dk_X12_clock 71 rfl) rfl (to_bipush (dat dk_X12_clock 72 rfl) (by decide) ?_)
                        refine to_ile 132 (dat dk_X12_clock 73 rfl) rfl ry73 (by decide) (fun c80 => ?_) (fun c80 => ?_)
                        · skip
                          refine to_bipush (dat dk_X12_clock 76 rfl) (by decide) (to_iload (dat dk_X12_clock 77 rfl) rfl (to_imul (dat dk_X12_clock 78 rfl) (to_iload (dat dk_X12_clock 79 rfl) rfl (to_iadd (dat dk_X12_clock 80 rfl) ?_))))
                          exact to_iret rfl (dat dk_X12_clock 81 rfl) (ri_mk (by omega) rfl)
                        · skip
                          refine to_iconst (dat dk_X12_clock 74 rfl) (to_goto (dat dk_X12_clock 75 rfl) rfl ?_)
                          exact to_iret rfl (dat dk_X12_clock 81 rfl) (ri_mk (by decide) rfl)
            refine to_iload_n (dat dk_X12_clock 47 rfl) rfl (to_bipush (dat dk_X12_clock 48 rfl) (by decide) ?_)
            refine to_ine 89 (dat dk_X12_clock 49 rfl) rfl (by omega) (by decide) (fun c81 => ?_) (fun c81 => ?_)
            · skip
              refine to_iconst (dat dk_X12_clock 57 rfl) ?_
              exact jn90_n74 0 (by decide)
            · skip
              refine to_aload_n (dat dk_X12_clock 50 rfl) rfl (to_iload_n (dat dk_X12_clock 51 rfl) rfl (to_bipush (dat dk_X12_clock 52 rfl) (by decide) (to_iadd (dat dk_X12_clock 53 rfl) (to_iload_n (dat dk_X12_clock 54 rfl) rfl ?_))))
              refine to_cI ca_c13_314 (dat dk_X12_clock 55 rfl) (ct_X12_number l h hI (f + 6) (by omega) g hg (show 0 ≤ (f + 6) ∧ (f + 6) ≤ 1300 by omega) (show 0 ≤ g ∧ g ≤ 1300 by omega)) rfl ⟨_, _, rfl, (hI.atS rfl)⟩ rfl (fun x82 h83 rx82 p84 => ?_)
              subst p84
              refine to_goto (dat dk_X12_clock 56 rfl) rfl ?_
              exact jn90_n74 x82 rx82
          · skip
            refine to_iconst (dat dk_X12_clock 29 rfl) ?_
            exact to_iret rfl (dat dk_X12_clock 30 rfl) (ri_mk (by decide) rfl)
abbrev Q_X12_zone (h : Hp) (f : Int) (g : Int) : Option V → Hp → Nat → Nat → Prop := RI (fun x H => h = H)
set_option maxRecDepth 100000 in
theorem ct_X12_zone (l : Launch) (h : Hp) (hI : Inv h) (f : Int) (hf : I32 f) (g : Int) (hg : I32 g) (g0 : 0 ≤ f ∧ f ≤ 1300) (g1 : 0 ≤ g ∧ g ≤ 1300) : Ct l D_X12_zone 2 44 [.inr (.inr 60), .inl f, .inl g] h (Q_X12_zone h f g) := by
  refine ct_of pn_X12_zone (Nat.le_of_ble_eq_true rfl) ?_
  show To l E_X12_zone (0, [(0, .inr (.inr 60)), (1, .inl f), (2, .inl g)], [], h, 0, 0) _
  refine to_iload_n (dat dk_X12_zone 0 rfl) rfl (to_iload_n (dat dk_X12_zone 1 rfl) rfl (to_isub (dat dk_X12_zone 2 rfl) (to_iconst (dat dk_X12_zone 3 rfl) ?_)))
  refine to_ine 29 (dat dk_X12_zone 4 rfl) rfl (by omega) (by decide) (fun c1 => ?_) (fun c1 => ?_)
  · skip
    refine to_iconst (dat dk_X12_zone 17 rfl) ?_
    exact to_iret rfl (dat dk_X12_zone 18 rfl) (ri_mk (by decide) rfl)
  · skip
    refine to_aload_n (dat dk_X12_zone 5 rfl) rfl (to_getR 75 g_c13_60 (dat dk_X12_zone 6 rfl) (hI.atS rfl) (hI.atE rfl) (to_iload_n (dat dk_X12_zone 7 rfl) rfl ?_))
    obtain ⟨x2, ex2⟩ : ∃ y : Int, h.2.2 75 (Int.toNat f) = y := ⟨_, rfl⟩
    have rx2 := hI.atR (a := 75) (j := Int.toNat f) rfl
    rw [ex2] at rx2
    refine to_baldv (q := 1) ex2 (dat dk_X12_zone 8 rfl) (by decide) (hI.atS rfl) rfl (by decide) (by omega) (to_bipush (dat dk_X12_zone 9 rfl) (by decide) ?_)
    refine to_ieq 31 (dat dk_X12_zone 10 rfl) rfl (by omega) (by decide) (fun c3 => ?_) (fun c3 => ?_)
    · skip
      refine to_aload_n (dat dk_X12_zone 19 rfl) rfl (to_iload_n (dat dk_X12_zone 20 rfl) rfl (to_iconst (dat dk_X12_zone 21 rfl) (to_iadd (dat dk_X12_zone 22 rfl) (to_iload_n (dat dk_X12_zone 23 rfl) rfl (to_iconst (dat dk_X12_zone 24 rfl) (to_iadd (dat dk_X12_zone 25 rfl) ?_))))))
      refine to_cI ca_c13_314 (dat dk_X12_zone 26 rfl) (ct_X12_number l h hI (f + 1) (by omega) (f + 3) (by omega) (show 0 ≤ (f + 1) ∧ (f + 1) ≤ 1300 by omega) (show 0 ≤ (f + 3) ∧ (f + 3) ≤ 1300 by omega)) rfl ⟨_, _, rfl, (hI.atS rfl)⟩ rfl (fun x4 h5 rx4 p6 => ?_)
      subst p6
      refine to_istore_n (L' := [(0, .inr (.inr 60)), (1, .inl f), (2, .inl g), (3, .inl x4)]) (dat dk_X12_zone 27 rfl) (by decide) rfl (to_aload_n (dat dk_X12_zone 28 rfl) rfl (to_iload_n (dat dk_X12_zone 29 rfl) rfl (to_iconst (dat dk_X12_zone 30 rfl) (to_iadd (dat dk_X12_zone 31 rfl) (to_iload_n (dat dk_X12_zone 32 rfl) rfl ?_)))))
      refine to_cI ca_c13_314 (dat dk_X12_zone 33 rfl) (ct_X12_number l h hI (f + 3) (by omega) g hg (show 0 ≤ (f + 3) ∧ (f + 3) ≤ 1300 by omega) (show 0 ≤ g ∧ g ≤ 1300 by omega)) rfl ⟨_, _, rfl, (hI.atS rfl)⟩ rfl (fun x7 h8 rx7 p9 => ?_)
      subst p9
      refine to_istore (L' := [(0, .inr (.inr 60)), (1, .inl f), (2, .inl g), (3, .inl x4), (4, .inl x7)]) (dat dk_X12_zone 34 rfl) (by decide) rfl (to_iload_n (dat dk_X12_zone 35 rfl) rfl ?_)
      refine to_iflt 74 (dat dk_X12_zone 36 rfl) rfl rx4 (fun c10 => ?_) (fun c10 => ?_)
      · skip
        refine to_iconst (dat dk_X12_zone 45 rfl) ?_
        exact to_iret rfl (dat dk_X12_zone 46 rfl) (ri_mk (by decide) rfl)
      · skip
        refine to_iload_n (dat dk_X12_zone 37 rfl) rfl (to_bipush (dat dk_X12_zone 38 rfl) (by decide) ?_)
        refine to_igt 74 (dat dk_X12_zone 39 rfl) rfl rx4 (by decide) (fun c11 => ?_) (fun c11 => ?_)
        · skip
          refine to_iconst (dat dk_X12_zone 45 rfl) ?_
          exact to_iret rfl (dat dk_X12_zone 46 rfl) (ri_mk (by decide) rfl)
        · skip
          refine to_iload (dat dk_X12_zone 40 rfl) rfl ?_
          refine to_iflt 74 (dat dk_X12_zone 41 rfl) rfl rx7 (fun c12 => ?_) (fun c12 => ?_)
          · skip
            refine to_iconst (dat dk_X12_zone 45 rfl) ?_
            exact to_iret rfl (dat dk_X12_zone 46 rfl) (ri_mk (by decide) rfl)
          · skip
            refine to_iload (dat dk_X12_zone 42 rfl) rfl (to_bipush (dat dk_X12_zone 43 rfl) (by decide) ?_)
            refine to_ile 76 (dat dk_X12_zone 44 rfl) rfl rx7 (by decide) (fun c13 => ?_) (fun c13 => ?_)
            · skip
              refine to_aload_n (dat dk_X12_zone 47 rfl) rfl (to_getR 75 g_c13_60 (dat dk_X12_zone 48 rfl) (hI.atS rfl) (hI.atE rfl) (to_iload_n (dat dk_X12_zone 49 rfl) rfl ?_))
              obtain ⟨x14, ex14⟩ : ∃ y : Int, h.2.2 75 (Int.toNat f) = y := ⟨_, rfl⟩
              have rx14 := hI.atR (a := 75) (j := Int.toNat f) rfl
              rw [ex14] at rx14
              refine to_baldv (q := 1) ex14 (dat dk_X12_zone 50 rfl) (by decide) (hI.atS rfl) rfl (by decide) (by omega) (to_bipush (dat dk_X12_zone 51 rfl) (by decide) ?_)
              refine to_ine 97 (dat dk_X12_zone 52 rfl) rfl (by omega) (by decide) (fun c15 => ?_) (fun c15 => ?_)
              · skip
                refine to_bipush (dat dk_X12_zone 59 rfl) (by decide) (to_iload_n (dat dk_X12_zone 60 rfl) rfl (to_imul (dat dk_X12_zone 61 rfl) (to_iload (dat dk_X12_zone 62 rfl) rfl (to_isub (dat dk_X12_zone 63 rfl) ?_))))
                exact to_iret rfl (dat dk_X12_zone 64 rfl) (ri_mk (by omega) rfl)
              · skip
                refine to_bipush (dat dk_X12_zone 53 rfl) (by decide) (to_iload_n (dat dk_X12_zone 54 rfl) rfl (to_imul (dat dk_X12_zone 55 rfl) (to_iload (dat dk_X12_zone 56 rfl) rfl (to_iadd (dat dk_X12_zone 57 rfl) (to_goto (dat dk_X12_zone 58 rfl) rfl ?_)))))
                exact to_iret rfl (dat dk_X12_zone 64 rfl) (ri_mk (by omega) rfl)
            · skip
              refine to_iconst (dat dk_X12_zone 45 rfl) ?_
              exact to_iret rfl (dat dk_X12_zone 46 rfl) (ri_mk (by decide) rfl)
    · skip
      refine to_aload_n (dat dk_X12_zone 11 rfl) rfl (to_getR 75 g_c13_60 (dat dk_X12_zone 12 rfl) (hI.atS rfl) (hI.atE rfl) (to_iload_n (dat dk_X12_zone 13 rfl) rfl ?_))
      obtain ⟨x16, ex16⟩ : ∃ y : Int, h.2.2 75 (Int.toNat f) = y := ⟨_, rfl⟩
      have rx16 := hI.atR (a := 75) (j := Int.toNat f) rfl
      rw [ex16] at rx16
      refine to_baldv (q := 1) ex16 (dat dk_X12_zone 14 rfl) (by decide) (hI.atS rfl) rfl (by decide) (by omega) (to_bipush (dat dk_X12_zone 15 rfl) (by decide) ?_)
      refine to_ieq 31 (dat dk_X12_zone 16 rfl) rfl (by omega) (by decide) (fun c17 => ?_) (fun c17 => ?_)
      · skip
        refine to_aload_n (dat dk_X12_zone 19 rfl) rfl (to_iload_n (dat dk_X12_zone 20 rfl) rfl (to_iconst (dat dk_X12_zone 21 rfl) (to_iadd (dat dk_X12_zone 22 rfl) (to_iload_n (dat dk_X12_zone 23 rfl) rfl (to_iconst (dat dk_X12_zone 24 rfl) (to_iadd (dat dk_X12_zone 25 rfl) ?_))))))
        refine to_cI ca_c13_314 (dat dk_X12_zone 26 rfl) (ct_X12_number l h hI (f + 1) (by omega) (f + 3) (by omega) (show 0 ≤ (f + 1) ∧ (f + 1) ≤ 1300 by omega) (show 0 ≤ (f + 3) ∧ (f + 3) ≤ 1300 by omega)) rfl ⟨_, _, rfl, (hI.atS rfl)⟩ rfl (fun x18 h19 rx18 p20 => ?_)
        subst p20
        refine to_istore_n (L' := [(0, .inr (.inr 60)), (1, .inl f), (2, .inl g), (3, .inl x18)]) (dat dk_X12_zone 27 rfl) (by decide) rfl (to_aload_n (dat dk_X12_zone 28 rfl) rfl (to_iload_n (dat dk_X12_zone 29 rfl) rfl (to_iconst (dat dk_X12_zone 30 rfl) (to_iadd (dat dk_X12_zone 31 rfl) (to_iload_n (dat dk_X12_zone 32 rfl) rfl ?_)))))
        refine to_cI ca_c13_314 (dat dk_X12_zone 33 rfl) (ct_X12_number l h hI (f + 3) (by omega) g hg (show 0 ≤ (f + 3) ∧ (f + 3) ≤ 1300 by omega) (show 0 ≤ g ∧ g ≤ 1300 by omega)) rfl ⟨_, _, rfl, (hI.atS rfl)⟩ rfl (fun x21 h22 rx21 p23 => ?_)
        subst p23
        refine to_istore (L' := [(0, .inr (.inr 60)), (1, .inl f), (2, .inl g), (3, .inl x18), (4, .inl x21)]) (dat dk_X12_zone 34 rfl) (by decide) rfl (to_iload_n (dat dk_X12_zone 35 rfl) rfl ?_)
        refine to_iflt 74 (dat dk_X12_zone 36 rfl) rfl rx18 (fun c24 => ?_) (fun c24 => ?_)
        · skip
          refine to_iconst (dat dk_X12_zone 45 rfl) ?_
          exact to_iret rfl (dat dk_X12_zone 46 rfl) (ri_mk (by decide) rfl)
        · skip
          refine to_iload_n (dat dk_X12_zone 37 rfl) rfl (to_bipush (dat dk_X12_zone 38 rfl) (by decide) ?_)
          refine to_igt 74 (dat dk_X12_zone 39 rfl) rfl rx18 (by decide) (fun c25 => ?_) (fun c25 => ?_)
          · skip
            refine to_iconst (dat dk_X12_zone 45 rfl) ?_
            exact to_iret rfl (dat dk_X12_zone 46 rfl) (ri_mk (by decide) rfl)
          · skip
            refine to_iload (dat dk_X12_zone 40 rfl) rfl ?_
            refine to_iflt 74 (dat dk_X12_zone 41 rfl) rfl rx21 (fun c26 => ?_) (fun c26 => ?_)
            · skip
              refine to_iconst (dat dk_X12_zone 45 rfl) ?_
              exact to_iret rfl (dat dk_X12_zone 46 rfl) (ri_mk (by decide) rfl)
            · skip
              refine to_iload (dat dk_X12_zone 42 rfl) rfl (to_bipush (dat dk_X12_zone 43 rfl) (by decide) ?_)
              refine to_ile 76 (dat dk_X12_zone 44 rfl) rfl rx21 (by decide) (fun c27 => ?_) (fun c27 => ?_)
              · skip
                refine to_aload_n (dat dk_X12_zone 47 rfl) rfl (to_getR 75 g_c13_60 (dat dk_X12_zone 48 rfl) (hI.atS rfl) (hI.atE rfl) (to_iload_n (dat dk_X12_zone 49 rfl) rfl ?_))
                obtain ⟨x28, ex28⟩ : ∃ y : Int, h.2.2 75 (Int.toNat f) = y := ⟨_, rfl⟩
                have rx28 := hI.atR (a := 75) (j := Int.toNat f) rfl
                rw [ex28] at rx28
                refine to_baldv (q := 1) ex28 (dat dk_X12_zone 50 rfl) (by decide) (hI.atS rfl) rfl (by decide) (by omega) (to_bipush (dat dk_X12_zone 51 rfl) (by decide) ?_)
                refine to_ine 97 (dat dk_X12_zone 52 rfl) rfl (by omega) (by decide) (fun c29 => ?_) (fun c29 => ?_)
                · skip
                  refine to_bipush (dat dk_X12_zone 59 rfl) (by decide) (to_iload_n (dat dk_X12_zone 60 rfl) rfl (to_imul (dat dk_X12_zone 61 rfl) (to_iload (dat dk_X12_zone 62 rfl) rfl (to_isub (dat dk_X12_zone 63 rfl) ?_))))
                  exact to_iret rfl (dat dk_X12_zone 64 rfl) (ri_mk (by omega) rfl)
                · skip
                  refine to_bipush (dat dk_X12_zone 53 rfl) (by decide) (to_iload_n (dat dk_X12_zone 54 rfl) rfl (to_imul (dat dk_X12_zone 55 rfl) (to_iload (dat dk_X12_zone 56 rfl) rfl (to_iadd (dat dk_X12_zone 57 rfl) (to_goto (dat dk_X12_zone 58 rfl) rfl ?_)))))
                  exact to_iret rfl (dat dk_X12_zone 64 rfl) (ri_mk (by omega) rfl)
              · skip
                refine to_iconst (dat dk_X12_zone 45 rfl) ?_
                exact to_iret rfl (dat dk_X12_zone 46 rfl) (ri_mk (by decide) rfl)
      · skip
        refine to_iconst (dat dk_X12_zone 17 rfl) ?_
        exact to_iret rfl (dat dk_X12_zone 18 rfl) (ri_mk (by decide) rfl)
abbrev Q_X12_angle (h : Hp) (f : Int) : Option V → Hp → Nat → Nat → Prop := RI (fun x H => Inv H ∧ Fr [236] h H ∧ (x = -1 ∨ (f ≤ x ∧ x < H.2.2 60 36 ∧ H.2.2 60 36 < H.2.2 60 23)) ∧ (f < H.2.2 60 36))
set_option maxRecDepth 100000 in
theorem ct_X12_angle (l : Launch) (h : Hp) (hI : Inv h) (f : Int) (hf : I32 f) (g0 : 0 ≤ f ∧ f ≤ h.2.2 60 23) : Ct l D_X12_angle 0 0 [.inr (.inr 60), .inl f] h (Q_X12_angle h f) := by
  refine ct_of pn_X12_angle (Nat.le_of_ble_eq_true rfl) ?_
  show To l E_X12_angle (0, [(0, .inr (.inr 60)), (1, .inl f)], [], h, 0, 0) _
  obtain ⟨x1, ex1⟩ : ∃ y : Int, h.2.2 60 36 = y := ⟨_, rfl⟩
  have rx1 := hI.atR (a := 60) (j := 36) rfl
  rw [ex1] at rx1
  obtain ⟨x2, ex2⟩ : ∃ y : Int, h.2.2 60 23 = y := ⟨_, rfl⟩
  have rx2 := hI.atR (a := 60) (j := 23) rfl
  rw [ex2] at rx2
  refine to_iload_n (dat dk_X12_angle 0 rfl) rfl (to_istore_n (L' := [(0, .inr (.inr 60)), (1, .inl f), (2, .inl f)]) (dat dk_X12_angle 1 rfl) (by decide) rfl ?_)
  have lp2_n5 : ∀ (n5 : Nat) (y3 : Int), (I32 y3) → (f ≤ y3 ∧ y3 ≤ h.2.2 60 23) → (h.2.2 60 23 - y3 ≤ (n5 : Int)) → To l E_X12_angle (2, [(0, .inr (.inr 60)), (1, .inl f), (2, .inl y3)], [], h, 0, 0) (Q_X12_angle h f) := by
    intro n5
    induction n5 using Nat.strongRecOn with
    | _ n5 ihn5 =>
    intro y3 ry3 c4 c6
    refine to_iload_n (dat dk_X12_angle 2 rfl) rfl (to_aload_n (dat dk_X12_angle 3 rfl) rfl (to_getIv (y := x2) ex2 g_c13_171 (dat dk_X12_angle 4 rfl) (hI.atS rfl) ?_))
    refine to_ige 27 (dat dk_X12_angle 5 rfl) rfl ry3 (by omega) (fun c7 => ?_) (fun c7 => ?_)
    · skip
      refine to_aload_n (dat dk_X12_angle 14 rfl) rfl (to_iload_n (dat dk_X12_angle 15 rfl) rfl (to_iconst (dat dk_X12_angle 16 rfl) (to_iadd (dat dk_X12_angle 17 rfl) (to_putIw p_c13_308 (dat dk_X12_angle 18 rfl) (hI.atS rfl) ?_))))
      intro h10 wh10
      have I8 : Inv h10 := by rw [wh10]; exact hI.put (a := 60) (j := 36) (x := (y3 + 1)) (0) (1301) rfl rfl (show (0 : Int) ≤ (y3 + 1) ∧ (y3 + 1) ≤ 1301 by omega)
      have f9 : Fr [236] h h10 := by rw [wh10]; exact Fr.putF (a := 60) (j := 36) (x := (y3 + 1)) (Fr.rf _ _) rfl
      have e12 : h10.2.2 60 36 = (y3 + 1) := (by rw [wh10]; exact wr_eq)
      have e14 : h10.2.2 60 23 = x2 := (by rw [wh10]; exact ex2)
      have lp34_n16 : ∀ (n16 : Nat) (h11 : Hp), (Inv h11) → (Fr [236] h h11) → (y3 < h11.2.2 60 36) → (h11.2.2 60 36 = y3 + 1 ∨ h11.2.2 60 36 ≤ h11.2.2 60 23) → (h11.2.2 60 23 - h11.2.2 60 36 ≤ (n16 : Int)) → To l E_X12_angle (34, [(0, .inr (.inr 60)), (1, .inl f), (2, .inl y3)], [], h11, 0, 0) (Q_X12_angle h f) := by
        intro n16
        induction n16 using Nat.strongRecOn with
        | _ n16 ihn16 =>
        intro h11 Ih11 fh11 c13 c15 c17
        obtain ⟨x18, ex18⟩ : ∃ y : Int, h11.2.2 60 36 = y := ⟨_, rfl⟩
        have rx18 := Ih11.atR (a := 60) (j := 36) rfl
        rw [ex18] at rx18
        have e19 : h11.2.2 60 23 = x2 := ((Fr.get fh11 (by have := hI.1.1; omega) rfl).trans ex2)
        refine to_aload_n (dat dk_X12_angle 19 rfl) rfl (to_getIv (y := x18) ex18 g_c13_308 (dat dk_X12_angle 20 rfl) (Ih11.atS rfl) (to_aload_n (dat dk_X12_angle 21 rfl) rfl (to_getIv (y := x2) e19 g_c13_171 (dat dk_X12_angle 22 rfl) (Ih11.atS rfl) ?_)))
        refine to_ige 72 (dat dk_X12_angle 23 rfl) rfl (by omega) (by omega) (fun c20 => ?_) (fun c20 => ?_)
        · skip
          refine to_aload_n (dat dk_X12_angle 38 rfl) rfl (to_getIv (y := x18) ex18 g_c13_308 (dat dk_X12_angle 39 rfl) (Ih11.atS rfl) (to_aload_n (dat dk_X12_angle 40 rfl) rfl (to_getIv (y := x2) e19 g_c13_171 (dat dk_X12_angle 41 rfl) (Ih11.atS rfl) ?_)))
          refine to_ige 87 (dat dk_X12_angle 42 rfl) rfl (by omega) (by omega) (fun c21 => ?_) (fun c21 => ?_)
          · skip
            refine to_iconst (dat dk_X12_angle 45 rfl) ?_
            exact to_iret rfl (dat dk_X12_angle 46 rfl) (ri_mk (by decide) ⟨Ih11, fh11, (show (-1 : Int) = -1 ∨ (f ≤ (-1 : Int) ∧ (-1 : Int) < h11.2.2 60 36 ∧ h11.2.2 60 36 < h11.2.2 60 23) by omega), (show f < h11.2.2 60 36 by omega)⟩)
          · skip
            refine to_iload_n (dat dk_X12_angle 43 rfl) rfl (to_goto (dat dk_X12_angle 44 rfl) rfl ?_)
            exact to_iret rfl (dat dk_X12_angle 46 rfl) (ri_mk ry3 ⟨Ih11, fh11, (show y3 = -1 ∨ (f ≤ y3 ∧ y3 < h11.2.2 60 36 ∧ h11.2.2 60 36 < h11.2.2 60 23) by omega), (show f < h11.2.2 60 36 by omega)⟩)
        · skip
          refine to_aload_n (dat dk_X12_angle 24 rfl) rfl (to_getR 75 g_c13_60 (dat dk_X12_angle 25 rfl) (Ih11.atS rfl) (Ih11.atE rfl) (to_aload_n (dat dk_X12_angle 26 rfl) rfl (to_getIv (y := x18) ex18 g_c13_308 (dat dk_X12_angle 27 rfl) (Ih11.atS rfl) ?_)))
          obtain ⟨x22, ex22⟩ : ∃ y : Int, h11.2.2 75 (Int.toNat x18) = y := ⟨_, rfl⟩
          have rx22 := Ih11.atR (a := 75) (j := Int.toNat x18) rfl
          rw [ex22] at rx22
          refine to_baldv (q := 1) ex22 (dat dk_X12_angle 28 rfl) (by decide) (Ih11.atS rfl) rfl (by decide) (by omega) (to_bipush (dat dk_X12_angle 29 rfl) (by decide) ?_)
          refine to_ieq 72 (dat dk_X12_angle 30 rfl) rfl (by omega) (by decide) (fun c23 => ?_) (fun c23 => ?_)
          · skip
            refine to_aload_n (dat dk_X12_angle 38 rfl) rfl (to_getIv (y := x18) ex18 g_c13_308 (dat dk_X12_angle 39 rfl) (Ih11.atS rfl) (to_aload_n (dat dk_X12_angle 40 rfl) rfl (to_getIv (y := x2) e19 g_c13_171 (dat dk_X12_angle 41 rfl) (Ih11.atS rfl) ?_)))
            refine to_ige 87 (dat dk_X12_angle 42 rfl) rfl (by omega) (by omega) (fun c24 => ?_) (fun c24 => ?_)
            · skip
              refine to_iconst (dat dk_X12_angle 45 rfl) ?_
              exact to_iret rfl (dat dk_X12_angle 46 rfl) (ri_mk (by decide) ⟨Ih11, fh11, (show (-1 : Int) = -1 ∨ (f ≤ (-1 : Int) ∧ (-1 : Int) < h11.2.2 60 36 ∧ h11.2.2 60 36 < h11.2.2 60 23) by omega), (show f < h11.2.2 60 36 by omega)⟩)
            · skip
              refine to_iload_n (dat dk_X12_angle 43 rfl) rfl (to_goto (dat dk_X12_angle 44 rfl) rfl ?_)
              exact to_iret rfl (dat dk_X12_angle 46 rfl) (ri_mk ry3 ⟨Ih11, fh11, (show y3 = -1 ∨ (f ≤ y3 ∧ y3 < h11.2.2 60 36 ∧ h11.2.2 60 36 < h11.2.2 60 23) by omega), (show f < h11.2.2 60 36 by omega)⟩)
          · skip
            refine to_aload_n (dat dk_X12_angle 31 rfl) rfl (to_dup (dat dk_X12_angle 32 rfl) rfl (to_getIv (y := x18) ex18 g_c13_308 (dat dk_X12_angle 33 rfl) (Ih11.atS rfl) (to_iconst (dat dk_X12_angle 34 rfl) (to_iadd (dat dk_X12_angle 35 rfl) (to_putIw p_c13_308 (dat dk_X12_angle 36 rfl) (Ih11.atS rfl) ?_)))))
            intro h27 wh27
            have I25 : Inv h27 := by rw [wh27]; exact Ih11.put (a := 60) (j := 36) (x := (x18 + 1)) (0) (1301) rfl rfl (show (0 : Int) ≤ (x18 + 1) ∧ (x18 + 1) ≤ 1301 by omega)
            have f26 : Fr [236] h h27 := by rw [wh27]; exact Fr.putF (a := 60) (j := 36) (x := (x18 + 1)) fh11 rfl
            refine to_goto (dat dk_X12_angle 37 rfl) rfl ?_
            have e28 : h27.2.2 60 36 = (x18 + 1) := (by rw [wh27]; exact wr_eq)
            have e29 : h27.2.2 60 23 = x2 := (by rw [wh27]; exact e19)
            exact ihn16 (n16 - 1) (by omega) h27 I25 f26 (show y3 < h27.2.2 60 36 by omega) (show h27.2.2 60 36 = y3 + 1 ∨ h27.2.2 60 36 ≤ h27.2.2 60 23 by omega) (show h27.2.2 60 23 - h27.2.2 60 36 ≤ ((n16 - 1 : Nat) : Int) by omega)
      exact lp34_n16 (h10.2.2 60 23 - h10.2.2 60 36).toNat h10 I8 f9 (show y3 < h10.2.2 60 36 by omega) (show h10.2.2 60 36 = y3 + 1 ∨ h10.2.2 60 36 ≤ h10.2.2 60 23 by omega) (by omega)
    · skip
      refine to_aload_n (dat dk_X12_angle 6 rfl) rfl (to_getR 75 g_c13_60 (dat dk_X12_angle 7 rfl) (hI.atS rfl) (hI.atE rfl) (to_iload_n (dat dk_X12_angle 8 rfl) rfl ?_))
      obtain ⟨x30, ex30⟩ : ∃ y : Int, h.2.2 75 (Int.toNat y3) = y := ⟨_, rfl⟩
      have rx30 := hI.atR (a := 75) (j := Int.toNat y3) rfl
      rw [ex30] at rx30
      refine to_baldv (q := 1) ex30 (dat dk_X12_angle 9 rfl) (by decide) (hI.atS rfl) rfl (by decide) (by omega) (to_bipush (dat dk_X12_angle 10 rfl) (by decide) ?_)
      refine to_ieq 27 (dat dk_X12_angle 11 rfl) rfl (by omega) (by decide) (fun c31 => ?_) (fun c31 => ?_)
      · skip
        refine to_aload_n (dat dk_X12_angle 14 rfl) rfl (to_iload_n (dat dk_X12_angle 15 rfl) rfl (to_iconst (dat dk_X12_angle 16 rfl) (to_iadd (dat dk_X12_angle 17 rfl) (to_putIw p_c13_308 (dat dk_X12_angle 18 rfl) (hI.atS rfl) ?_))))
        intro h34 wh34
        have I32 : Inv h34 := by rw [wh34]; exact hI.put (a := 60) (j := 36) (x := (y3 + 1)) (0) (1301) rfl rfl (show (0 : Int) ≤ (y3 + 1) ∧ (y3 + 1) ≤ 1301 by omega)
        have f33 : Fr [236] h h34 := by rw [wh34]; exact Fr.putF (a := 60) (j := 36) (x := (y3 + 1)) (Fr.rf _ _) rfl
        have e36 : h34.2.2 60 36 = (y3 + 1) := (by rw [wh34]; exact wr_eq)
        have e38 : h34.2.2 60 23 = x2 := (by rw [wh34]; exact ex2)
        have lp34_n40 : ∀ (n40 : Nat) (h35 : Hp), (Inv h35) → (Fr [236] h h35) → (y3 < h35.2.2 60 36) → (h35.2.2 60 36 = y3 + 1 ∨ h35.2.2 60 36 ≤ h35.2.2 60 23) → (h35.2.2 60 23 - h35.2.2 60 36 ≤ (n40 : Int)) → To l E_X12_angle (34, [(0, .inr (.inr 60)), (1, .inl f), (2, .inl y3)], [], h35, 0, 0) (Q_X12_angle h f) := by
          intro n40
          induction n40 using Nat.strongRecOn with
          | _ n40 ihn40 =>
          intro h35 Ih35 fh35 c37 c39 c41
          obtain ⟨x42, ex42⟩ : ∃ y : Int, h35.2.2 60 36 = y := ⟨_, rfl⟩
          have rx42 := Ih35.atR (a := 60) (j := 36) rfl
          rw [ex42] at rx42
          have e43 : h35.2.2 60 23 = x2 := ((Fr.get fh35 (by have := hI.1.1; omega) rfl).trans ex2)
          refine to_aload_n (dat dk_X12_angle 19 rfl) rfl (to_getIv (y := x42) ex42 g_c13_308 (dat dk_X12_angle 20 rfl) (Ih35.atS rfl) (to_aload_n (dat dk_X12_angle 21 rfl) rfl (to_getIv (y := x2) e43 g_c13_171 (dat dk_X12_angle 22 rfl) (Ih35.atS rfl) ?_)))
          refine to_ige 72 (dat dk_X12_angle 23 rfl) rfl (by omega) (by omega) (fun c44 => ?_) (fun c44 => ?_)
          · skip
            refine to_aload_n (dat dk_X12_angle 38 rfl) rfl (to_getIv (y := x42) ex42 g_c13_308 (dat dk_X12_angle 39 rfl) (Ih35.atS rfl) (to_aload_n (dat dk_X12_angle 40 rfl) rfl (to_getIv (y := x2) e43 g_c13_171 (dat dk_X12_angle 41 rfl) (Ih35.atS rfl) ?_)))
            refine to_ige 87 (dat dk_X12_angle 42 rfl) rfl (by omega) (by omega) (fun c45 => ?_) (fun c45 => ?_)
            · skip
              refine to_iconst (dat dk_X12_angle 45 rfl) ?_
              exact to_iret rfl (dat dk_X12_angle 46 rfl) (ri_mk (by decide) ⟨Ih35, fh35, (show (-1 : Int) = -1 ∨ (f ≤ (-1 : Int) ∧ (-1 : Int) < h35.2.2 60 36 ∧ h35.2.2 60 36 < h35.2.2 60 23) by omega), (show f < h35.2.2 60 36 by omega)⟩)
            · skip
              refine to_iload_n (dat dk_X12_angle 43 rfl) rfl (to_goto (dat dk_X12_angle 44 rfl) rfl ?_)
              exact to_iret rfl (dat dk_X12_angle 46 rfl) (ri_mk ry3 ⟨Ih35, fh35, (show y3 = -1 ∨ (f ≤ y3 ∧ y3 < h35.2.2 60 36 ∧ h35.2.2 60 36 < h35.2.2 60 23) by omega), (show f < h35.2.2 60 36 by omega)⟩)
          · skip
            refine to_aload_n (dat dk_X12_angle 24 rfl) rfl (to_getR 75 g_c13_60 (dat dk_X12_angle 25 rfl) (Ih35.atS rfl) (Ih35.atE rfl) (to_aload_n (dat dk_X12_angle 26 rfl) rfl (to_getIv (y := x42) ex42 g_c13_308 (dat dk_X12_angle 27 rfl) (Ih35.atS rfl) ?_)))
            obtain ⟨x46, ex46⟩ : ∃ y : Int, h35.2.2 75 (Int.toNat x42) = y := ⟨_, rfl⟩
            have rx46 := Ih35.atR (a := 75) (j := Int.toNat x42) rfl
            rw [ex46] at rx46
            refine to_baldv (q := 1) ex46 (dat dk_X12_angle 28 rfl) (by decide) (Ih35.atS rfl) rfl (by decide) (by omega) (to_bipush (dat dk_X12_angle 29 rfl) (by decide) ?_)
            refine to_ieq 72 (dat dk_X12_angle 30 rfl) rfl (by omega) (by decide) (fun c47 => ?_) (fun c47 => ?_)
            · skip
              refine to_aload_n (dat dk_X12_angle 38 rfl) rfl (to_getIv (y := x42) ex42 g_c13_308 (dat dk_X12_angle 39 rfl) (Ih35.atS rfl) (to_aload_n (dat dk_X12_angle 40 rfl) rfl (to_getIv (y := x2) e43 g_c13_171 (dat dk_X12_angle 41 rfl) (Ih35.atS rfl) ?_)))
              refine to_ige 87 (dat dk_X12_angle 42 rfl) rfl (by omega) (by omega) (fun c48 => ?_) (fun c48 => ?_)
              · skip
                refine to_iconst (dat dk_X12_angle 45 rfl) ?_
                exact to_iret rfl (dat dk_X12_angle 46 rfl) (ri_mk (by decide) ⟨Ih35, fh35, (show (-1 : Int) = -1 ∨ (f ≤ (-1 : Int) ∧ (-1 : Int) < h35.2.2 60 36 ∧ h35.2.2 60 36 < h35.2.2 60 23) by omega), (show f < h35.2.2 60 36 by omega)⟩)
              · skip
                refine to_iload_n (dat dk_X12_angle 43 rfl) rfl (to_goto (dat dk_X12_angle 44 rfl) rfl ?_)
                exact to_iret rfl (dat dk_X12_angle 46 rfl) (ri_mk ry3 ⟨Ih35, fh35, (show y3 = -1 ∨ (f ≤ y3 ∧ y3 < h35.2.2 60 36 ∧ h35.2.2 60 36 < h35.2.2 60 23) by omega), (show f < h35.2.2 60 36 by omega)⟩)
            · skip
              refine to_aload_n (dat dk_X12_angle 31 rfl) rfl (to_dup (dat dk_X12_angle 32 rfl) rfl (to_getIv (y := x42) ex42 g_c13_308 (dat dk_X12_angle 33 rfl) (Ih35.atS rfl) (to_iconst (dat dk_X12_angle 34 rfl) (to_iadd (dat dk_X12_angle 35 rfl) (to_putIw p_c13_308 (dat dk_X12_angle 36 rfl) (Ih35.atS rfl) ?_)))))
              intro h51 wh51
              have I49 : Inv h51 := by rw [wh51]; exact Ih35.put (a := 60) (j := 36) (x := (x42 + 1)) (0) (1301) rfl rfl (show (0 : Int) ≤ (x42 + 1) ∧ (x42 + 1) ≤ 1301 by omega)
              have f50 : Fr [236] h h51 := by rw [wh51]; exact Fr.putF (a := 60) (j := 36) (x := (x42 + 1)) fh35 rfl
              refine to_goto (dat dk_X12_angle 37 rfl) rfl ?_
              have e52 : h51.2.2 60 36 = (x42 + 1) := (by rw [wh51]; exact wr_eq)
              have e53 : h51.2.2 60 23 = x2 := (by rw [wh51]; exact e43)
              exact ihn40 (n40 - 1) (by omega) h51 I49 f50 (show y3 < h51.2.2 60 36 by omega) (show h51.2.2 60 36 = y3 + 1 ∨ h51.2.2 60 36 ≤ h51.2.2 60 23 by omega) (show h51.2.2 60 23 - h51.2.2 60 36 ≤ ((n40 - 1 : Nat) : Int) by omega)
        exact lp34_n40 (h34.2.2 60 23 - h34.2.2 60 36).toNat h34 I32 f33 (show y3 < h34.2.2 60 36 by omega) (show h34.2.2 60 36 = y3 + 1 ∨ h34.2.2 60 36 ≤ h34.2.2 60 23 by omega) (by omega)
      · skip
        refine to_iinc (L' := [(0, .inr (.inr 60)), (1, .inl f), (2, .inl (y3 + 1))]) (dat dk_X12_angle 12 rfl) rfl (by decide) rfl (to_goto (dat dk_X12_angle 13 rfl) rfl ?_)
        exact ihn5 (n5 - 1) (by omega) (y3 + 1) (by omega) (show f ≤ (y3 + 1) ∧ (y3 + 1) ≤ h.2.2 60 23 by omega) (show h.2.2 60 23 - (y3 + 1) ≤ ((n5 - 1 : Nat) : Int) by omega)
  exact lp2_n5 (h.2.2 60 23 - f).toNat f hf (show f ≤ f ∧ f ≤ h.2.2 60 23 by omega) (by omega)
abbrev Q_X12_isId (h : Hp) (f : Int) (g : Int) : Option V → Hp → Nat → Nat → Prop := RI (fun x H => h = H ∧ (x = 0 ∨ x = 1) ∧ (x = 0 ∨ (1 ≤ g - f ∧ g - f ≤ 60)))
set_option maxRecDepth 100000 in
theorem ct_X12_isId (l : Launch) (h : Hp) (hI : Inv h) (f : Int) (hf : I32 f) (g : Int) (hg : I32 g) (g0 : 0 ≤ f ∧ f ≤ 1300) (g1 : 0 ≤ g ∧ g ≤ 1300) : Ct l D_X12_isId 1 20 [.inr (.inr 60), .inl f, .inl g] h (Q_X12_isId h f g) := by
  refine ct_of pn_X12_isId (Nat.le_of_ble_eq_true rfl) ?_
  show To l E_X12_isId (0, [(0, .inr (.inr 60)), (1, .inl f), (2, .inl g)], [], h, 0, 0) _
  refine to_iload_n (dat dk_X12_isId 0 rfl) rfl (to_iload_n (dat dk_X12_isId 1 rfl) rfl (to_isub (dat dk_X12_isId 2 rfl) (to_iconst (dat dk_X12_isId 3 rfl) ?_)))
  refine to_ilt 15 (dat dk_X12_isId 4 rfl) rfl (by omega) (by decide) (fun c1 => ?_) (fun c1 => ?_)
  · skip
    refine to_iconst (dat dk_X12_isId 10 rfl) ?_
    exact to_zret rfl (dat dk_X12_isId 11 rfl) (by decide) (ri_mk (by decide) ⟨rfl, (by decide), (show (0 : Int) = 0 ∨ (1 ≤ g - f ∧ g - f ≤ 60) by omega)⟩)
  · skip
    refine to_iload_n (dat dk_X12_isId 5 rfl) rfl (to_iload_n (dat dk_X12_isId 6 rfl) rfl (to_isub (dat dk_X12_isId 7 rfl) (to_bipush (dat dk_X12_isId 8 rfl) (by decide) ?_)))
    refine to_ile 17 (dat dk_X12_isId 9 rfl) rfl (by omega) (by decide) (fun c2 => ?_) (fun c2 => ?_)
    · skip
      refine to_iload_n (dat dk_X12_isId 12 rfl) rfl (to_istore_n (L' := [(0, .inr (.inr 60)), (1, .inl f), (2, .inl g), (3, .inl f)]) (dat dk_X12_isId 13 rfl) (by decide) rfl ?_)
      have lp19_n5 : ∀ (n5 : Nat) (y3 : Int), (I32 y3) → (f ≤ y3) → (g - y3 ≤ (n5 : Int)) → To l E_X12_isId (19, [(0, .inr (.inr 60)), (1, .inl f), (2, .inl g), (3, .inl y3)], [], h, 0, 0) (Q_X12_isId h f g) := by
        intro n5
        induction n5 using Nat.strongRecOn with
        | _ n5 ihn5 =>
        intro y3 ry3 c4 c6
        refine to_iload_n (dat dk_X12_isId 14 rfl) rfl (to_iload_n (dat dk_X12_isId 15 rfl) rfl ?_)
        refine to_ige 44 (dat dk_X12_isId 16 rfl) rfl ry3 hg (fun c7 => ?_) (fun c7 => ?_)
        · skip
          refine to_iconst (dat dk_X12_isId 27 rfl) ?_
          exact to_zret rfl (dat dk_X12_isId 28 rfl) (by decide) (ri_mk (by decide) ⟨rfl, (by decide), (show (1 : Int) = 0 ∨ (1 ≤ g - f ∧ g - f ≤ 60) by omega)⟩)
        · skip
          refine to_aload_n (dat dk_X12_isId 17 rfl) rfl (to_getR 75 g_c13_60 (dat dk_X12_isId 18 rfl) (hI.atS rfl) (hI.atE rfl) (to_iload_n (dat dk_X12_isId 19 rfl) rfl ?_))
          obtain ⟨x8, ex8⟩ : ∃ y : Int, h.2.2 75 (Int.toNat y3) = y := ⟨_, rfl⟩
          have rx8 := hI.atR (a := 75) (j := Int.toNat y3) rfl
          rw [ex8] at rx8
          refine to_baldv (q := 1) ex8 (dat dk_X12_isId 20 rfl) (by decide) (hI.atS rfl) rfl (by decide) (by omega) ?_
          refine to_cI ca_c13_182 (dat dk_X12_isId 21 rfl) (ct_X12_isBlank l h hI x8 (by omega)) rfl trivial rfl (fun x9 h10 rx9 p11 => ?_)
          obtain ⟨rfl, zx9⟩ := p11
          refine to_ifeq 38 (dat dk_X12_isId 22 rfl) rfl rx9 (fun c12 => ?_) (fun c12 => ?_)
          · skip
            refine to_iinc (L' := [(0, .inr (.inr 60)), (1, .inl f), (2, .inl g), (3, .inl (y3 + 1))]) (dat dk_X12_isId 25 rfl) rfl (by decide) rfl (to_goto (dat dk_X12_isId 26 rfl) rfl ?_)
            exact ihn5 (n5 - 1) (by omega) (y3 + 1) (by omega) (show f ≤ (y3 + 1) by omega) (show g - (y3 + 1) ≤ ((n5 - 1 : Nat) : Int) by omega)
          · skip
            refine to_iconst (dat dk_X12_isId 23 rfl) ?_
            exact to_zret rfl (dat dk_X12_isId 24 rfl) (by decide) (ri_mk (by decide) ⟨rfl, (by decide), (show (0 : Int) = 0 ∨ (1 ≤ g - f ∧ g - f ≤ 60) by omega)⟩)
      exact lp19_n5 (g - f).toNat f hf (show f ≤ f by omega) (by omega)
    · skip
      refine to_iconst (dat dk_X12_isId 10 rfl) ?_
      exact to_zret rfl (dat dk_X12_isId 11 rfl) (by decide) (ri_mk (by decide) ⟨rfl, (by decide), (show (0 : Int) = 0 ∨ (1 ≤ g - f ∧ g - f ≤ 60) by omega)⟩)
abbrev Q_X12_refer (h : Hp) (f : Int) (g : Int) : Option V → Hp → Nat → Nat → Prop := RV (fun H => Inv H ∧ Fr [73, 74, 219] h H ∧ (H.2.2 60 19 = h.2.2 60 19 + 1))
set_option maxRecDepth 100000 in
theorem ct_X12_refer (l : Launch) (h : Hp) (hI : Inv h) (f : Int) (hf : I32 f) (g : Int) (hg : I32 g) (g0 : 0 ≤ f ∧ g ≤ 1300) (g1 : 1 ≤ g - f ∧ g - f ≤ 60) (g2 : h.2.2 60 19 ≤ 15) : Ct l D_X12_refer 0 0 [.inr (.inr 60), .inl f, .inl g] h (Q_X12_refer h f g) := by
  refine ct_of pn_X12_refer (Nat.le_of_ble_eq_true rfl) ?_
  show To l E_X12_refer (0, [(0, .inr (.inr 60)), (1, .inl f), (2, .inl g)], [], h, 0, 0) _
  obtain ⟨x1, ex1⟩ : ∃ y : Int, h.2.2 60 19 = y := ⟨_, rfl⟩
  have rx1 := hI.atR (a := 60) (j := 19) rfl
  rw [ex1] at rx1
  refine to_iload_n (dat dk_X12_refer 0 rfl) rfl (to_istore_n (L' := [(0, .inr (.inr 60)), (1, .inl f), (2, .inl g), (3, .inl f)]) (dat dk_X12_refer 1 rfl) (by decide) rfl ?_)
  have lp2_n6 : ∀ (n6 : Nat) (y2 : Int) (h3 : Hp), (I32 y2) → (Inv h3) → (Fr [73, 74, 219] h h3) → (f ≤ y2) → (h3.2.2 60 19 = h.2.2 60 19) → (g - y2 ≤ (n6 : Int)) → To l E_X12_refer (2, [(0, .inr (.inr 60)), (1, .inl f), (2, .inl g), (3, .inl y2)], [], h3, 0, 0) (Q_X12_refer h f g) := by
    intro n6
    induction n6 using Nat.strongRecOn with
    | _ n6 ihn6 =>
    intro y2 h3 ry2 Ih3 fh3 c4 c5 c7
    obtain ⟨x8, ex8⟩ : ∃ y : Int, h3.2.2 60 19 = y := ⟨_, rfl⟩
    have rx8 := Ih3.atR (a := 60) (j := 19) rfl
    rw [ex8] at rx8
    refine to_iload_n (dat dk_X12_refer 2 rfl) rfl (to_iload_n (dat dk_X12_refer 3 rfl) rfl ?_)
    refine to_ige 35 (dat dk_X12_refer 4 rfl) rfl ry2 hg (fun c9 => ?_) (fun c9 => ?_)
    · skip
      refine to_aload_n (dat dk_X12_refer 22 rfl) rfl (to_getR 74 g_c13_57 (dat dk_X12_refer 23 rfl) (Ih3.atS rfl) (Ih3.atE rfl) (to_aload_n (dat dk_X12_refer 24 rfl) rfl (to_getIv (y := x8) ex8 g_c13_336 (dat dk_X12_refer 25 rfl) (Ih3.atS rfl) (to_iload_n (dat dk_X12_refer 26 rfl) rfl (to_iload_n (dat dk_X12_refer 27 rfl) rfl (to_isub (dat dk_X12_refer 28 rfl) (to_iastw (dat dk_X12_refer 29 rfl) (Ih3.atS rfl) rfl (by decide) (by omega) ?_)))))))
      intro h12 wh12
      have I10 : Inv h12 := by rw [wh12]; exact Ih3.put (a := 74) (j := (Int.toNat x8)) (x := (g - f)) (0) (60) rfl rfl (show (0 : Int) ≤ (g - f) ∧ (g - f) ≤ 60 by omega)
      have f11 : Fr [73, 74, 219] h h12 := by rw [wh12]; exact Fr.putF (a := 74) (j := (Int.toNat x8)) (x := (g - f)) fh3 rfl
      refine to_aload_n (dat dk_X12_refer 30 rfl) rfl (to_dup (dat dk_X12_refer 31 rfl) rfl (to_getIv (y := x8) (by rw [wh12]; exact ex8) g_c13_336 (dat dk_X12_refer 32 rfl) (I10.atS rfl) (to_iconst (dat dk_X12_refer 33 rfl) (to_iadd (dat dk_X12_refer 34 rfl) (to_putIw p_c13_336 (dat dk_X12_refer 35 rfl) (I10.atS rfl) ?_)))))
      intro h15 wh15
      have I13 : Inv h15 := by rw [wh15]; exact I10.put (a := 60) (j := 19) (x := (x8 + 1)) (0) (16) rfl rfl (show (0 : Int) ≤ (x8 + 1) ∧ (x8 + 1) ≤ 16 by omega)
      have f14 : Fr [73, 74, 219] h h15 := by rw [wh15]; exact Fr.putF (a := 60) (j := 19) (x := (x8 + 1)) f11 rfl
      have e16 : h15.2.2 60 19 = (x8 + 1) := (by rw [wh15]; exact wr_eq)
      exact to_vret rfl (dat dk_X12_refer 36 rfl) (rv_mk ⟨I13, f14, (show h15.2.2 60 19 = h.2.2 60 19 + 1 by omega)⟩)
    · skip
      refine to_aload_n (dat dk_X12_refer 5 rfl) rfl (to_getR 73 g_c13_54 (dat dk_X12_refer 6 rfl) (Ih3.atS rfl) (Ih3.atE rfl) (to_bipush (dat dk_X12_refer 7 rfl) (by decide) (to_aload_n (dat dk_X12_refer 8 rfl) rfl (to_getIv (y := x8) ex8 g_c13_336 (dat dk_X12_refer 9 rfl) (Ih3.atS rfl) (to_imul (dat dk_X12_refer 10 rfl) (to_iload_n (dat dk_X12_refer 11 rfl) rfl (to_iadd (dat dk_X12_refer 12 rfl) (to_iload_n (dat dk_X12_refer 13 rfl) rfl (to_isub (dat dk_X12_refer 14 rfl) (to_aload_n (dat dk_X12_refer 15 rfl) rfl (to_getR 75 g_c13_60 (dat dk_X12_refer 16 rfl) (Ih3.atS rfl) (Ih3.atE rfl) (to_iload_n (dat dk_X12_refer 17 rfl) rfl ?_))))))))))))
      obtain ⟨x17, ex17⟩ : ∃ y : Int, h3.2.2 75 (Int.toNat y2) = y := ⟨_, rfl⟩
      have rx17 := Ih3.atR (a := 75) (j := Int.toNat y2) rfl
      rw [ex17] at rx17
      refine to_baldv (q := 1) ex17 (dat dk_X12_refer 18 rfl) (by decide) (Ih3.atS rfl) rfl (by decide) (by omega) (to_bastw (dat dk_X12_refer 19 rfl) (Ih3.atS rfl) rfl (by decide) (by omega) ?_)
      intro h20 wh20
      have I18 : Inv h20 := by rw [wh20]; exact Ih3.put (a := 73) (j := (Int.toNat (((60 * x8) + y2) - f))) (x := (b8 x17)) (-128) (127) rfl rfl (show (-128 : Int) ≤ (b8 x17) ∧ (b8 x17) ≤ 127 by have := b8_in x17; omega)
      have f19 : Fr [73, 74, 219] h h20 := by rw [wh20]; exact Fr.putF (a := 73) (j := (Int.toNat (((60 * x8) + y2) - f))) (x := (b8 x17)) fh3 rfl
      refine to_iinc (L' := [(0, .inr (.inr 60)), (1, .inl f), (2, .inl g), (3, .inl (y2 + 1))]) (dat dk_X12_refer 20 rfl) rfl (by decide) rfl (to_goto (dat dk_X12_refer 21 rfl) rfl ?_)
      have e21 : h20.2.2 60 19 = x8 := (by rw [wh20]; exact ex8)
      exact ihn6 (n6 - 1) (by omega) (y2 + 1) h20 (by omega) I18 f19 (show f ≤ (y2 + 1) by omega) (show h20.2.2 60 19 = h.2.2 60 19 by omega) (show g - (y2 + 1) ≤ ((n6 - 1 : Nat) : Int) by omega)
  exact lp2_n6 (g - f).toNat f h hf hI (Fr.rf _ _) (show f ≤ f by omega) (show h.2.2 60 19 = h.2.2 60 19 by omega) (by omega)
