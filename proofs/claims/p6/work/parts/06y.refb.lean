/-! Contracts, by program. -/
abbrev Q_X12_unwind (h : Hp) (c : Int) : Option V → Hp → Nat → Nat → Prop := RV (fun H => Inv H ∧ Fr [95, 246, 247] h H ∧ (H.2.2 60 46 + H.2.2 60 47 = h.2.2 60 46 + h.2.2 60 47) ∧ (H.2.2 60 47 ≤ h.2.2 60 47))
set_option maxRecDepth 100000 in
theorem ct_X12_unwind (l : Launch) (h : Hp) (hI : Inv h) (c : Int) (hc : I32 c) (g0 : h.2.2 60 46 + h.2.2 60 47 ≤ 3000) : Ct l D_X12_unwind 1 21 [.inr (.inr 60), .inl c] h (Q_X12_unwind h c) := by
  refine ct_of pn_X12_unwind (Nat.le_of_ble_eq_true rfl) ?_
  show To l E_X12_unwind (0, [(0, .inr (.inr 60)), (1, .inl c)], [], h, 0, 0) _
  obtain ⟨x1, ex1⟩ : ∃ y : Int, h.2.2 60 46 = y := ⟨_, rfl⟩
  have rx1 := hI.atR (a := 60) (j := 46) rfl
  rw [ex1] at rx1
  obtain ⟨x2, ex2⟩ : ∃ y : Int, h.2.2 60 47 = y := ⟨_, rfl⟩
  have rx2 := hI.atR (a := 60) (j := 47) rfl
  rw [ex2] at rx2
  have lp0_n6 : ∀ (n6 : Nat) (h3 : Hp), (Inv h3) → (Fr [95, 246, 247] h h3) → (h3.2.2 60 46 + h3.2.2 60 47 = h.2.2 60 46 + h.2.2 60 47) → (h3.2.2 60 47 ≤ h.2.2 60 47) → (h3.2.2 60 47 ≤ (n6 : Int)) → To l E_X12_unwind (0, [(0, .inr (.inr 60)), (1, .inl c)], [], h3, 0, 0) (Q_X12_unwind h c) := by
    intro n6
    induction n6 using Nat.strongRecOn with
    | _ n6 ihn6 =>
    intro h3 Ih3 fh3 c4 c5 c7
    obtain ⟨x8, ex8⟩ : ∃ y : Int, h3.2.2 60 46 = y := ⟨_, rfl⟩
    have rx8 := Ih3.atR (a := 60) (j := 46) rfl
    rw [ex8] at rx8
    obtain ⟨x9, ex9⟩ : ∃ y : Int, h3.2.2 60 47 = y := ⟨_, rfl⟩
    have rx9 := Ih3.atR (a := 60) (j := 47) rfl
    rw [ex9] at rx9
    refine to_aload_n (dat dk_X12_unwind 0 rfl) rfl (to_getIv (y := x9) ex9 g_c13_406 (dat dk_X12_unwind 1 rfl) (Ih3.atS rfl) ?_)
    refine to_ifle 64 (dat dk_X12_unwind 2 rfl) rfl (by omega) (fun c10 => ?_) (fun c10 => ?_)
    · skip
      exact to_vret rfl (dat dk_X12_unwind 36 rfl) (rv_mk ⟨Ih3, fh3, (show h3.2.2 60 46 + h3.2.2 60 47 = h.2.2 60 46 + h.2.2 60 47 by omega), (show h3.2.2 60 47 ≤ h.2.2 60 47 by omega)⟩)
    · skip
      refine to_aload_n (dat dk_X12_unwind 3 rfl) rfl (to_getR 96 g_c13_125 (dat dk_X12_unwind 4 rfl) (Ih3.atS rfl) (Ih3.atE rfl) (to_aload_n (dat dk_X12_unwind 5 rfl) rfl (to_getIv (y := x9) ex9 g_c13_406 (dat dk_X12_unwind 6 rfl) (Ih3.atS rfl) (to_iconst (dat dk_X12_unwind 7 rfl) (to_isub (dat dk_X12_unwind 8 rfl) ?_)))))
      obtain ⟨x11, ex11⟩ : ∃ y : Int, h3.2.2 96 (Int.toNat (x9 - 1)) = y := ⟨_, rfl⟩
      have rx11 := Ih3.atR (a := 96) (j := Int.toNat (x9 - 1)) rfl
      rw [ex11] at rx11
      refine to_ialdv ex11 (dat dk_X12_unwind 9 rfl) (Ih3.atS rfl) rfl (by decide) (by omega) (to_iconst (dat dk_X12_unwind 10 rfl) ?_)
      refine to_ieq 64 (dat dk_X12_unwind 11 rfl) rfl (by omega) (by decide) (fun c12 => ?_) (fun c12 => ?_)
      · skip
        exact to_vret rfl (dat dk_X12_unwind 36 rfl) (rv_mk ⟨Ih3, fh3, (show h3.2.2 60 46 + h3.2.2 60 47 = h.2.2 60 46 + h.2.2 60 47 by omega), (show h3.2.2 60 47 ≤ h.2.2 60 47 by omega)⟩)
      · skip
        refine to_aload_n (dat dk_X12_unwind 12 rfl) rfl (to_getR 96 g_c13_125 (dat dk_X12_unwind 13 rfl) (Ih3.atS rfl) (Ih3.atE rfl) (to_aload_n (dat dk_X12_unwind 14 rfl) rfl (to_getIv (y := x9) ex9 g_c13_406 (dat dk_X12_unwind 15 rfl) (Ih3.atS rfl) (to_iconst (dat dk_X12_unwind 16 rfl) (to_isub (dat dk_X12_unwind 17 rfl) ?_)))))
        obtain ⟨x13, ex13⟩ : ∃ y : Int, h3.2.2 96 (Int.toNat (x9 - 1)) = y := ⟨_, rfl⟩
        have rx13 := Ih3.atR (a := 96) (j := Int.toNat (x9 - 1)) rfl
        rw [ex13] at rx13
        refine to_ialdv ex13 (dat dk_X12_unwind 18 rfl) (Ih3.atS rfl) rfl (by decide) (by omega) (to_iload_n (dat dk_X12_unwind 19 rfl) rfl ?_)
        refine to_igt 64 (dat dk_X12_unwind 20 rfl) rfl (by omega) hc (fun c14 => ?_) (fun c14 => ?_)
        · skip
          exact to_vret rfl (dat dk_X12_unwind 36 rfl) (rv_mk ⟨Ih3, fh3, (show h3.2.2 60 46 + h3.2.2 60 47 = h.2.2 60 46 + h.2.2 60 47 by omega), (show h3.2.2 60 47 ≤ h.2.2 60 47 by omega)⟩)
        · skip
          refine to_aload_n (dat dk_X12_unwind 21 rfl) rfl (to_dup (dat dk_X12_unwind 22 rfl) rfl (to_getIv (y := x9) ex9 g_c13_406 (dat dk_X12_unwind 23 rfl) (Ih3.atS rfl) (to_iconst (dat dk_X12_unwind 24 rfl) (to_isub (dat dk_X12_unwind 25 rfl) (to_putIw p_c13_406 (dat dk_X12_unwind 26 rfl) (Ih3.atS rfl) ?_)))))
          intro h17 wh17
          have I15 : Inv h17 := by rw [wh17]; exact Ih3.put (a := 60) (j := 47) (x := (x9 - 1)) (0) (1300) rfl rfl (show (0 : Int) ≤ (x9 - 1) ∧ (x9 - 1) ≤ 1300 by omega)
          have f16 : Fr [95, 246, 247] h h17 := by rw [wh17]; exact Fr.putF (a := 60) (j := 47) (x := (x9 - 1)) fh3 rfl
          refine to_aload_n (dat dk_X12_unwind 27 rfl) rfl (to_aload_n (dat dk_X12_unwind 28 rfl) rfl (to_getR 96 g_c13_125 (dat dk_X12_unwind 29 rfl) (I15.atS rfl) (I15.atE rfl) (to_aload_n (dat dk_X12_unwind 30 rfl) rfl (to_getIv (y := (x9 - 1)) (by rw [wh17]; exact wr_eq) g_c13_406 (dat dk_X12_unwind 31 rfl) (I15.atS rfl) ?_))))
          obtain ⟨x18, ex18⟩ : ∃ y : Int, h17.2.2 96 (Int.toNat (x9 - 1)) = y := ⟨_, rfl⟩
          have rx18 := I15.atR (a := 96) (j := Int.toNat (x9 - 1)) rfl
          rw [ex18] at rx18
          refine to_ialdv ex18 (dat dk_X12_unwind 32 rfl) (I15.atS rfl) rfl (by decide) (by omega) (to_ineg (dat dk_X12_unwind 33 rfl) ?_)
          have e19 : h17.2.2 60 46 = x8 := (by rw [wh17]; exact ex8)
          refine to_cV ca_c13_409 (dat dk_X12_unwind 34 rfl) (ct_X12_done l h17 I15 (-x18) (by omega) (show -4 ≤ (-x18) ∧ (-x18) ≤ 810 by omega) (show h17.2.2 60 46 ≤ 2999 by omega)) rfl ⟨_, _, rfl, (I15.atS rfl)⟩ rfl (fun h21 p22 => ?_)
          obtain ⟨Ih21, fh21, p22_0⟩ := p22
          have f23 : Fr [95, 246, 247] h h21 := Fr.sub f16 fh21 rfl
          obtain ⟨x24, ex24⟩ : ∃ y : Int, h21.2.2 60 46 = y := ⟨_, rfl⟩
          have rx24 := Ih21.atR (a := 60) (j := 46) rfl
          rw [ex24] at rx24
          refine to_goto (dat dk_X12_unwind 35 rfl) rfl ?_
          have e25 : h21.2.2 60 47 = (x9 - 1) := ((Fr.get fh21 (by have := I15.1.1; omega) rfl).trans (by rw [wh17]; exact wr_eq))
          exact ihn6 (n6 - 1) (by omega) h21 Ih21 f23 (show h21.2.2 60 46 + h21.2.2 60 47 = h.2.2 60 46 + h.2.2 60 47 by omega) (show h21.2.2 60 47 ≤ h.2.2 60 47 by omega) (show h21.2.2 60 47 ≤ ((n6 - 1 : Nat) : Int) by omega)
  exact lp0_n6 (h.2.2 60 47).toNat h hI (Fr.rf _ _) (show h.2.2 60 46 + h.2.2 60 47 = h.2.2 60 46 + h.2.2 60 47 by omega) (show h.2.2 60 47 ≤ h.2.2 60 47 by omega) (by omega)
abbrev Q_X12_isDate (h : Hp) (f : Int) (g : Int) (k : Int) : Option V → Hp → Nat → Nat → Prop := RI (fun x H => Inv H ∧ Fr [93, 94] h H ∧ (x = 0 ∨ x = 1))
set_option maxRecDepth 100000 in
theorem ct_X12_isDate (l : Launch) (h : Hp) (hI : Inv h) (f : Int) (hf : I32 f) (g : Int) (hg : I32 g) (k : Int) (hk : I32 k) (g0 : 0 ≤ f ∧ f ≤ 1200) (g1 : 0 ≤ g ∧ g ≤ 1200) (g2 : 0 ≤ k ∧ k ≤ 809) : Ct l D_X12_isDate 4 90 [.inr (.inr 60), .inl f, .inl g, .inl k] h (Q_X12_isDate h f g k) := by
  refine ct_of pn_X12_isDate (Nat.le_of_ble_eq_true rfl) ?_
  show To l E_X12_isDate (0, [(0, .inr (.inr 60)), (1, .inl f), (2, .inl g), (3, .inl k)], [], h, 0, 0) _
  refine to_iload_n (dat dk_X12_isDate 0 rfl) rfl (to_iload_n (dat dk_X12_isDate 1 rfl) rfl (to_isub (dat dk_X12_isDate 2 rfl) (to_istore (L' := [(0, .inr (.inr 60)), (1, .inl f), (2, .inl g), (3, .inl k), (4, .inl (g - f))]) (dat dk_X12_isDate 3 rfl) (by decide) rfl ?_)))
  have jn35_n3 : ∀ (y1 : Int), (y1 = 0 ∨ y1 = 1) → (y1 = 0 ∨ ((g - f) = 10 ∧ h.2.2 88 (Int.toNat f) ≠ 46) ∨ (g - f) = 18) → To l E_X12_isDate (35, [(0, .inr (.inr 60)), (1, .inl f), (2, .inl g), (3, .inl k), (4, .inl (g - f))], [.inl y1], h, 0, 0) (Q_X12_isDate h f g k) := by
    intro y1 ry1 c2
    refine to_istore (L' := [(0, .inr (.inr 60)), (1, .inl f), (2, .inl g), (3, .inl k), (4, .inl (g - f)), (5, .inl y1)]) (dat dk_X12_isDate 19 rfl) (by decide) rfl ?_
    have jn67_n6 : ∀ (y4 : Int), (y4 = 0 ∨ y4 = 1) → (y4 = 0 ∨ ((g - f) = 10 ∧ h.2.2 88 (Int.toNat f) = 46) ∨ (g - f) = 18) → To l E_X12_isDate (67, [(0, .inr (.inr 60)), (1, .inl f), (2, .inl g), (3, .inl k), (4, .inl (g - f)), (5, .inl y1)], [.inl y4], h, 0, 0) (Q_X12_isDate h f g k) := by
      intro y4 ry4 c5
      refine to_istore (L' := [(0, .inr (.inr 60)), (1, .inl f), (2, .inl g), (3, .inl k), (4, .inl (g - f)), (5, .inl y1), (6, .inl y4)]) (dat dk_X12_isDate 35 rfl) (by decide) rfl ?_
      have jn82_n9 : ∀ (y7 : Int), (I32 y7) → ((y1 = 0 ∧ y7 = f) ∨ (y1 = 1 ∧ y7 = f + 8)) → To l E_X12_isDate (82, [(0, .inr (.inr 60)), (1, .inl f), (2, .inl g), (3, .inl k), (4, .inl (g - f)), (5, .inl y1), (6, .inl y4)], [.inl y7], h, 0, 0) (Q_X12_isDate h f g k) := by
        intro y7 ry7 c8
        refine to_istore (L' := [(0, .inr (.inr 60)), (1, .inl f), (2, .inl g), (3, .inl k), (4, .inl (g - f)), (5, .inl y1), (6, .inl y4), (7, .inl y7)]) (dat dk_X12_isDate 43 rfl) (by decide) rfl (to_iload (dat dk_X12_isDate 44 rfl) rfl ?_)
        refine to_ifne 94 (dat dk_X12_isDate 45 rfl) rfl (by omega) (fun c10 => ?_) (fun c10 => ?_)
        · skip
          refine to_aload_n (dat dk_X12_isDate 48 rfl) rfl (to_getR 88 g_c13_100 (dat dk_X12_isDate 49 rfl) (hI.atS rfl) (hI.atE rfl) (to_iload (dat dk_X12_isDate 50 rfl) rfl ?_))
          obtain ⟨x11, ex11⟩ : ∃ y : Int, h.2.2 88 (Int.toNat y7) = y := ⟨_, rfl⟩
          have rx11 := hI.atR (a := 88) (j := Int.toNat y7) rfl
          rw [ex11] at rx11
          refine to_baldv (q := 1) ex11 (dat dk_X12_isDate 51 rfl) (by decide) (hI.atS rfl) rfl (by decide) (by omega) (to_bipush (dat dk_X12_isDate 52 rfl) (by decide) ?_)
          refine to_ine 120 (dat dk_X12_isDate 53 rfl) rfl (by omega) (by decide) (fun c12 => ?_) (fun c12 => ?_)
          · skip
            refine to_iconst (dat dk_X12_isDate 62 rfl) ?_
            exact to_zret rfl (dat dk_X12_isDate 63 rfl) (by decide) (ri_mk (by decide) ⟨hI, (Fr.rf _ _), (by decide)⟩)
          · skip
            refine to_aload_n (dat dk_X12_isDate 54 rfl) rfl (to_getR 88 g_c13_100 (dat dk_X12_isDate 55 rfl) (hI.atS rfl) (hI.atE rfl) (to_iload (dat dk_X12_isDate 56 rfl) rfl (to_iconst (dat dk_X12_isDate 57 rfl) (to_iadd (dat dk_X12_isDate 58 rfl) ?_))))
            obtain ⟨x13, ex13⟩ : ∃ y : Int, h.2.2 88 (Int.toNat (y7 + 1)) = y := ⟨_, rfl⟩
            have rx13 := hI.atR (a := 88) (j := Int.toNat (y7 + 1)) rfl
            rw [ex13] at rx13
            refine to_baldv (q := 1) ex13 (dat dk_X12_isDate 59 rfl) (by decide) (hI.atS rfl) rfl (by decide) (by omega) (to_bipush (dat dk_X12_isDate 60 rfl) (by decide) ?_)
            refine to_ieq 122 (dat dk_X12_isDate 61 rfl) rfl (by omega) (by decide) (fun c14 => ?_) (fun c14 => ?_)
            · skip
              have jn161_n15 : To l E_X12_isDate (161, [(0, .inr (.inr 60)), (1, .inl f), (2, .inl g), (3, .inl k), (4, .inl (g - f)), (5, .inl y1), (6, .inl y4), (7, .inl y7)], [], h, 0, 0) (Q_X12_isDate h f g k) := by
                skip
                refine to_sipush (dat dk_X12_isDate 84 rfl) (by decide) (to_iconst (dat dk_X12_isDate 85 rfl) (to_iconst (dat dk_X12_isDate 86 rfl) ?_))
                refine to_cL ca_c13_332 (dat dk_X12_isDate 87 rfl) (ct_X12_days l h hI 1970 (by decide) 1 (by decide) 1 (by decide)) rfl trivial rfl (fun x16 h17 p18 => ?_)
                subst p18
                refine to_lstore (L' := [(8, .inr (.inl x16)), (0, .inr (.inr 60)), (1, .inl f), (2, .inl g), (3, .inl k), (4, .inl (g - f)), (5, .inl y1), (6, .inl y4), (7, .inl y7)]) (dat dk_X12_isDate 88 rfl) (by decide) rfl ?_
                have jn194_n20 : ∀ (h19 : Hp), (Inv h19) → (Fr [93, 94] h h19) → To l E_X12_isDate (194, [(8, .inr (.inl x16)), (0, .inr (.inr 60)), (1, .inl f), (2, .inl g), (3, .inl k), (4, .inl (g - f)), (5, .inl y1), (6, .inl y4), (7, .inl y7)], [], h19, 0, 0) (Q_X12_isDate h f g k) := by
                  intro h19 Ih19 fh19
                  refine to_iload (dat dk_X12_isDate 102 rfl) rfl ?_
                  refine to_ifeq 224 (dat dk_X12_isDate 103 rfl) rfl (by omega) (fun c21 => ?_) (fun c21 => ?_)
                  · skip
                    refine to_iconst (dat dk_X12_isDate 121 rfl) ?_
                    exact to_zret rfl (dat dk_X12_isDate 122 rfl) (by decide) (ri_mk (by decide) ⟨Ih19, fh19, (by decide)⟩)
                  · skip
                    refine to_aload_n (dat dk_X12_isDate 104 rfl) rfl (to_getR 94 g_c13_119 (dat dk_X12_isDate 105 rfl) (Ih19.atS rfl) (Ih19.atE rfl) (to_iload_n (dat dk_X12_isDate 106 rfl) rfl (to_ldc2 (v := 1440) (x := 1440) (tin 8 24 (by decide +kernel) rfl) (by decide +kernel) (dat dk_X12_isDate 107 rfl) (to_aload_n (dat dk_X12_isDate 108 rfl) rfl (to_iload (dat dk_X12_isDate 109 rfl) rfl (to_iconst (dat dk_X12_isDate 110 rfl) (to_iadd (dat dk_X12_isDate 111 rfl) ?_)))))))
                    refine to_cL ca_c13_423 (dat dk_X12_isDate 112 rfl) (ct_X12_day l h19 Ih19 (y7 + 2) (by omega) (show 0 ≤ (y7 + 2) ∧ (y7 + 2) + 8 ≤ 1200 by omega)) rfl ⟨_, _, rfl, (Ih19.atS rfl)⟩ rfl (fun x22 h23 p24 => ?_)
                    subst p24
                    refine to_lload (dat dk_X12_isDate 113 rfl) rfl ?_
                    refine to_lsub (dat dk_X12_isDate 114 rfl) (fun w25 => ?_)
                    refine to_lconst (v := 1) (dat dk_X12_isDate 115 rfl) rfl ?_
                    refine to_ladd (dat dk_X12_isDate 116 rfl) (fun w26 => ?_)
                    refine to_lmul (dat dk_X12_isDate 117 rfl) (fun w27 => ?_)
                    refine to_lconst (v := 1) (dat dk_X12_isDate 118 rfl) rfl ?_
                    refine to_lsub (dat dk_X12_isDate 119 rfl) (fun w28 => ?_)
                    refine to_lastw (dat dk_X12_isDate 120 rfl) (Ih19.atS rfl) rfl (by decide) (by omega) ?_
                    intro h31 wh31
                    have I29 : Inv h31 := by rw [wh31]; exact Ih19.putL (x := w28) (a := 94) (j := (Int.toNat k)) rfl
                    have f30 : Fr [93, 94] h h31 := by rw [wh31]; exact Fr.putF (a := 94) (j := (Int.toNat k)) (x := w28) fh19 rfl
                    refine to_iconst (dat dk_X12_isDate 121 rfl) ?_
                    exact to_zret rfl (dat dk_X12_isDate 122 rfl) (by decide) (ri_mk (by decide) ⟨I29, f30, (by decide)⟩)
                refine to_iload (dat dk_X12_isDate 89 rfl) rfl ?_
                refine to_ifeq 194 (dat dk_X12_isDate 90 rfl) rfl (by omega) (fun c32 => ?_) (fun c32 => ?_)
                · skip
                  exact jn194_n20 h hI (Fr.rf _ _)
                · skip
                  refine to_aload_n (dat dk_X12_isDate 91 rfl) rfl (to_getR 93 g_c13_115 (dat dk_X12_isDate 92 rfl) (hI.atS rfl) (hI.atE rfl) (to_iload_n (dat dk_X12_isDate 93 rfl) rfl (to_ldc2 (v := 1440) (x := 1440) (tin 8 24 (by decide +kernel) rfl) (by decide +kernel) (dat dk_X12_isDate 94 rfl) (to_aload_n (dat dk_X12_isDate 95 rfl) rfl (to_iload_n (dat dk_X12_isDate 96 rfl) rfl ?_)))))
                  refine to_cL ca_c13_423 (dat dk_X12_isDate 97 rfl) (ct_X12_day l h hI f hf (show 0 ≤ f ∧ f + 8 ≤ 1200 by omega)) rfl ⟨_, _, rfl, (hI.atS rfl)⟩ rfl (fun x33 h34 p35 => ?_)
                  subst p35
                  refine to_lload (dat dk_X12_isDate 98 rfl) rfl ?_
                  refine to_lsub (dat dk_X12_isDate 99 rfl) (fun w36 => ?_)
                  refine to_lmul (dat dk_X12_isDate 100 rfl) (fun w37 => ?_)
                  refine to_lastw (dat dk_X12_isDate 101 rfl) (hI.atS rfl) rfl (by decide) (by omega) ?_
                  intro h40 wh40
                  have I38 : Inv h40 := by rw [wh40]; exact hI.putL (x := w37) (a := 93) (j := (Int.toNat k)) rfl
                  have f39 : Fr [93, 94] h h40 := by rw [wh40]; exact Fr.putF (a := 93) (j := (Int.toNat k)) (x := w37) (Fr.rf _ _) rfl
                  exact jn194_n20 h40 I38 f39
              refine to_iload (dat dk_X12_isDate 64 rfl) rfl ?_
              refine to_ifeq 139 (dat dk_X12_isDate 65 rfl) rfl (by omega) (fun c41 => ?_) (fun c41 => ?_)
              · skip
                refine to_iload (dat dk_X12_isDate 72 rfl) rfl ?_
                refine to_ifeq 161 (dat dk_X12_isDate 73 rfl) rfl (by omega) (fun c42 => ?_) (fun c42 => ?_)
                · skip
                  exact jn161_n15  
                · skip
                  refine to_aload_n (dat dk_X12_isDate 74 rfl) rfl (to_iload (dat dk_X12_isDate 75 rfl) rfl (to_iconst (dat dk_X12_isDate 76 rfl) (to_iadd (dat dk_X12_isDate 77 rfl) ?_)))
                  refine to_cL ca_c13_423 (dat dk_X12_isDate 78 rfl) (ct_X12_day l h hI (y7 + 2) (by omega) (show 0 ≤ (y7 + 2) ∧ (y7 + 2) + 8 ≤ 1200 by omega)) rfl ⟨_, _, rfl, (hI.atS rfl)⟩ rfl (fun x43 h44 p45 => ?_)
                  subst p45
                  refine to_ldc2 (v := (-1)) (x := -1) (tin 8 13 (by decide +kernel) rfl) (by decide +kernel) (dat dk_X12_isDate 79 rfl) ?_
                  refine to_lcmp (dat dk_X12_isDate 80 rfl) (fun x46 rx46 => ?_)
                  refine to_ifne 161 (dat dk_X12_isDate 81 rfl) rfl rx46 (fun c47 => ?_) (fun c47 => ?_)
                  · skip
                    exact jn161_n15  
                  · skip
                    refine to_iconst (dat dk_X12_isDate 82 rfl) ?_
                    exact to_zret rfl (dat dk_X12_isDate 83 rfl) (by decide) (ri_mk (by decide) ⟨hI, (Fr.rf _ _), (by decide)⟩)
              · skip
                refine to_aload_n (dat dk_X12_isDate 66 rfl) rfl (to_iload_n (dat dk_X12_isDate 67 rfl) rfl ?_)
                refine to_cL ca_c13_423 (dat dk_X12_isDate 68 rfl) (ct_X12_day l h hI f hf (show 0 ≤ f ∧ f + 8 ≤ 1200 by omega)) rfl ⟨_, _, rfl, (hI.atS rfl)⟩ rfl (fun x48 h49 p50 => ?_)
                subst p50
                refine to_ldc2 (v := (-1)) (x := -1) (tin 8 13 (by decide +kernel) rfl) (by decide +kernel) (dat dk_X12_isDate 69 rfl) ?_
                refine to_lcmp (dat dk_X12_isDate 70 rfl) (fun x51 rx51 => ?_)
                refine to_ifeq 159 (dat dk_X12_isDate 71 rfl) rfl rx51 (fun c52 => ?_) (fun c52 => ?_)
                · skip
                  refine to_iconst (dat dk_X12_isDate 82 rfl) ?_
                  exact to_zret rfl (dat dk_X12_isDate 83 rfl) (by decide) (ri_mk (by decide) ⟨hI, (Fr.rf _ _), (by decide)⟩)
                · skip
                  refine to_iload (dat dk_X12_isDate 72 rfl) rfl ?_
                  refine to_ifeq 161 (dat dk_X12_isDate 73 rfl) rfl (by omega) (fun c53 => ?_) (fun c53 => ?_)
                  · skip
                    exact jn161_n15  
                  · skip
                    refine to_aload_n (dat dk_X12_isDate 74 rfl) rfl (to_iload (dat dk_X12_isDate 75 rfl) rfl (to_iconst (dat dk_X12_isDate 76 rfl) (to_iadd (dat dk_X12_isDate 77 rfl) ?_)))
                    refine to_cL ca_c13_423 (dat dk_X12_isDate 78 rfl) (ct_X12_day l h hI (y7 + 2) (by omega) (show 0 ≤ (y7 + 2) ∧ (y7 + 2) + 8 ≤ 1200 by omega)) rfl ⟨_, _, rfl, (hI.atS rfl)⟩ rfl (fun x54 h55 p56 => ?_)
                    subst p56
                    refine to_ldc2 (v := (-1)) (x := -1) (tin 8 13 (by decide +kernel) rfl) (by decide +kernel) (dat dk_X12_isDate 79 rfl) ?_
                    refine to_lcmp (dat dk_X12_isDate 80 rfl) (fun x57 rx57 => ?_)
                    refine to_ifne 161 (dat dk_X12_isDate 81 rfl) rfl rx57 (fun c58 => ?_) (fun c58 => ?_)
                    · skip
                      exact jn161_n15  
                    · skip
                      refine to_iconst (dat dk_X12_isDate 82 rfl) ?_
                      exact to_zret rfl (dat dk_X12_isDate 83 rfl) (by decide) (ri_mk (by decide) ⟨hI, (Fr.rf _ _), (by decide)⟩)
            · skip
              refine to_iconst (dat dk_X12_isDate 62 rfl) ?_
              exact to_zret rfl (dat dk_X12_isDate 63 rfl) (by decide) (ri_mk (by decide) ⟨hI, (Fr.rf _ _), (by decide)⟩)
        · skip
          refine to_iload (dat dk_X12_isDate 46 rfl) rfl ?_
          refine to_ifeq 120 (dat dk_X12_isDate 47 rfl) rfl (by omega) (fun c59 => ?_) (fun c59 => ?_)
          · skip
            refine to_iconst (dat dk_X12_isDate 62 rfl) ?_
            exact to_zret rfl (dat dk_X12_isDate 63 rfl) (by decide) (ri_mk (by decide) ⟨hI, (Fr.rf _ _), (by decide)⟩)
          · skip
            refine to_aload_n (dat dk_X12_isDate 48 rfl) rfl (to_getR 88 g_c13_100 (dat dk_X12_isDate 49 rfl) (hI.atS rfl) (hI.atE rfl) (to_iload (dat dk_X12_isDate 50 rfl) rfl ?_))
            obtain ⟨x60, ex60⟩ : ∃ y : Int, h.2.2 88 (Int.toNat y7) = y := ⟨_, rfl⟩
            have rx60 := hI.atR (a := 88) (j := Int.toNat y7) rfl
            rw [ex60] at rx60
            refine to_baldv (q := 1) ex60 (dat dk_X12_isDate 51 rfl) (by decide) (hI.atS rfl) rfl (by decide) (by omega) (to_bipush (dat dk_X12_isDate 52 rfl) (by decide) ?_)
            refine to_ine 120 (dat dk_X12_isDate 53 rfl) rfl (by omega) (by decide) (fun c61 => ?_) (fun c61 => ?_)
            · skip
              refine to_iconst (dat dk_X12_isDate 62 rfl) ?_
              exact to_zret rfl (dat dk_X12_isDate 63 rfl) (by decide) (ri_mk (by decide) ⟨hI, (Fr.rf _ _), (by decide)⟩)
            · skip
              refine to_aload_n (dat dk_X12_isDate 54 rfl) rfl (to_getR 88 g_c13_100 (dat dk_X12_isDate 55 rfl) (hI.atS rfl) (hI.atE rfl) (to_iload (dat dk_X12_isDate 56 rfl) rfl (to_iconst (dat dk_X12_isDate 57 rfl) (to_iadd (dat dk_X12_isDate 58 rfl) ?_))))
              obtain ⟨x62, ex62⟩ : ∃ y : Int, h.2.2 88 (Int.toNat (y7 + 1)) = y := ⟨_, rfl⟩
              have rx62 := hI.atR (a := 88) (j := Int.toNat (y7 + 1)) rfl
              rw [ex62] at rx62
              refine to_baldv (q := 1) ex62 (dat dk_X12_isDate 59 rfl) (by decide) (hI.atS rfl) rfl (by decide) (by omega) (to_bipush (dat dk_X12_isDate 60 rfl) (by decide) ?_)
              refine to_ieq 122 (dat dk_X12_isDate 61 rfl) rfl (by omega) (by decide) (fun c63 => ?_) (fun c63 => ?_)
              · skip
                have jn161_n64 : To l E_X12_isDate (161, [(0, .inr (.inr 60)), (1, .inl f), (2, .inl g), (3, .inl k), (4, .inl (g - f)), (5, .inl y1), (6, .inl y4), (7, .inl y7)], [], h, 0, 0) (Q_X12_isDate h f g k) := by
                  skip
                  refine to_sipush (dat dk_X12_isDate 84 rfl) (by decide) (to_iconst (dat dk_X12_isDate 85 rfl) (to_iconst (dat dk_X12_isDate 86 rfl) ?_))
                  refine to_cL ca_c13_332 (dat dk_X12_isDate 87 rfl) (ct_X12_days l h hI 1970 (by decide) 1 (by decide) 1 (by decide)) rfl trivial rfl (fun x65 h66 p67 => ?_)
                  subst p67
                  refine to_lstore (L' := [(8, .inr (.inl x65)), (0, .inr (.inr 60)), (1, .inl f), (2, .inl g), (3, .inl k), (4, .inl (g - f)), (5, .inl y1), (6, .inl y4), (7, .inl y7)]) (dat dk_X12_isDate 88 rfl) (by decide) rfl ?_
                  have jn194_n69 : ∀ (h68 : Hp), (Inv h68) → (Fr [93, 94] h h68) → To l E_X12_isDate (194, [(8, .inr (.inl x65)), (0, .inr (.inr 60)), (1, .inl f), (2, .inl g), (3, .inl k), (4, .inl (g - f)), (5, .inl y1), (6, .inl y4), (7, .inl y7)], [], h68, 0, 0) (Q_X12_isDate h f g k) := by
                    intro h68 Ih68 fh68
                    refine to_iload (dat dk_X12_isDate 102 rfl) rfl ?_
                    refine to_ifeq 224 (dat dk_X12_isDate 103 rfl) rfl (by omega) (fun c70 => ?_) (fun c70 => ?_)
                    · skip
                      refine to_iconst (dat dk_X12_isDate 121 rfl) ?_
                      exact to_zret rfl (dat dk_X12_isDate 122 rfl) (by decide) (ri_mk (by decide) ⟨Ih68, fh68, (by decide)⟩)
                    · skip
                      refine to_aload_n (dat dk_X12_isDate 104 rfl) rfl (to_getR 94 g_c13_119 (dat dk_X12_isDate 105 rfl) (Ih68.atS rfl) (Ih68.atE rfl) (to_iload_n (dat dk_X12_isDate 106 rfl) rfl (to_ldc2 (v := 1440) (x := 1440) (tin 8 24 (by decide +kernel) rfl) (by decide +kernel) (dat dk_X12_isDate 107 rfl) (to_aload_n (dat dk_X12_isDate 108 rfl) rfl (to_iload (dat dk_X12_isDate 109 rfl) rfl (to_iconst (dat dk_X12_isDate 110 rfl) (to_iadd (dat dk_X12_isDate 111 rfl) ?_)))))))
                      refine to_cL ca_c13_423 (dat dk_X12_isDate 112 rfl) (ct_X12_day l h68 Ih68 (y7 + 2) (by omega) (show 0 ≤ (y7 + 2) ∧ (y7 + 2) + 8 ≤ 1200 by omega)) rfl ⟨_, _, rfl, (Ih68.atS rfl)⟩ rfl (fun x71 h72 p73 => ?_)
                      subst p73
                      refine to_lload (dat dk_X12_isDate 113 rfl) rfl ?_
                      refine to_lsub (dat dk_X12_isDate 114 rfl) (fun w74 => ?_)
                      refine to_lconst (v := 1) (dat dk_X12_isDate 115 rfl) rfl ?_
                      refine to_ladd (dat dk_X12_isDate 116 rfl) (fun w75 => ?_)
                      refine to_lmul (dat dk_X12_isDate 117 rfl) (fun w76 => ?_)
                      refine to_lconst (v := 1) (dat dk_X12_isDate 118 rfl) rfl ?_
                      refine to_lsub (dat dk_X12_isDate 119 rfl) (fun w77 => ?_)
                      refine to_lastw (dat dk_X12_isDate 120 rfl) (Ih68.atS rfl) rfl (by decide) (by omega) ?_
                      intro h80 wh80
                      have I78 : Inv h80 := by rw [wh80]; exact Ih68.putL (x := w77) (a := 94) (j := (Int.toNat k)) rfl
                      have f79 : Fr [93, 94] h h80 := by rw [wh80]; exact Fr.putF (a := 94) (j := (Int.toNat k)) (x := w77) fh68 rfl
                      refine to_iconst (dat dk_X12_isDate 121 rfl) ?_
                      exact to_zret rfl (dat dk_X12_isDate 122 rfl) (by decide) (ri_mk (by decide) ⟨I78, f79, (by decide)⟩)
                  refine to_iload (dat dk_X12_isDate 89 rfl) rfl ?_
                  refine to_ifeq 194 (dat dk_X12_isDate 90 rfl) rfl (by omega) (fun c81 => ?_) (fun c81 => ?_)
                  · skip
                    exact jn194_n69 h hI (Fr.rf _ _)
                  · skip
                    refine to_aload_n (dat dk_X12_isDate 91 rfl) rfl (to_getR 93 g_c13_115 (dat dk_X12_isDate 92 rfl) (hI.atS rfl) (hI.atE rfl) (to_iload_n (dat dk_X12_isDate 93 rfl) rfl (to_ldc2 (v := 1440) (x := 1440) (tin 8 24 (by decide +kernel) rfl) (by decide +kernel) (dat dk_X12_isDate 94 rfl) (to_aload_n (dat dk_X12_isDate 95 rfl) rfl (to_iload_n (dat dk_X12_isDate 96 rfl) rfl ?_)))))
                    refine to_cL ca_c13_423 (dat dk_X12_isDate 97 rfl) (ct_X12_day l h hI f hf (show 0 ≤ f ∧ f + 8 ≤ 1200 by omega)) rfl ⟨_, _, rfl, (hI.atS rfl)⟩ rfl (fun x82 h83 p84 => ?_)
                    subst p84
                    refine to_lload (dat dk_X12_isDate 98 rfl) rfl ?_
                    refine to_lsub (dat dk_X12_isDate 99 rfl) (fun w85 => ?_)
                    refine to_lmul (dat dk_X12_isDate 100 rfl) (fun w86 => ?_)
                    refine to_lastw (dat dk_X12_isDate 101 rfl) (hI.atS rfl) rfl (by decide) (by omega) ?_
                    intro h89 wh89
                    have I87 : Inv h89 := by rw [wh89]; exact hI.putL (x := w86) (a := 93) (j := (Int.toNat k)) rfl
                    have f88 : Fr [93, 94] h h89 := by rw [wh89]; exact Fr.putF (a := 93) (j := (Int.toNat k)) (x := w86) (Fr.rf _ _) rfl
                    exact jn194_n69 h89 I87 f88
                refine to_iload (dat dk_X12_isDate 64 rfl) rfl ?_
                refine to_ifeq 139 (dat dk_X12_isDate 65 rfl) rfl (by omega) (fun c90 => ?_) (fun c90 => ?_)
                · skip
                  refine to_iload (dat dk_X12_isDate 72 rfl) rfl ?_
                  refine to_ifeq 161 (dat dk_X12_isDate 73 rfl) rfl (by omega) (fun c91 => ?_) (fun c91 => ?_)
                  · skip
                    exact jn161_n64  
                  · skip
                    refine to_aload_n (dat dk_X12_isDate 74 rfl) rfl (to_iload (dat dk_X12_isDate 75 rfl) rfl (to_iconst (dat dk_X12_isDate 76 rfl) (to_iadd (dat dk_X12_isDate 77 rfl) ?_)))
                    refine to_cL ca_c13_423 (dat dk_X12_isDate 78 rfl) (ct_X12_day l h hI (y7 + 2) (by omega) (show 0 ≤ (y7 + 2) ∧ (y7 + 2) + 8 ≤ 1200 by omega)) rfl ⟨_, _, rfl, (hI.atS rfl)⟩ rfl (fun x92 h93 p94 => ?_)
                    subst p94
                    refine to_ldc2 (v := (-1)) (x := -1) (tin 8 13 (by decide +kernel) rfl) (by decide +kernel) (dat dk_X12_isDate 79 rfl) ?_
                    refine to_lcmp (dat dk_X12_isDate 80 rfl) (fun x95 rx95 => ?_)
                    refine to_ifne 161 (dat dk_X12_isDate 81 rfl) rfl rx95 (fun c96 => ?_) (fun c96 => ?_)
                    · skip
                      exact jn161_n64  
                    · skip
                      refine to_iconst (dat dk_X12_isDate 82 rfl) ?_
                      exact to_zret rfl (dat dk_X12_isDate 83 rfl) (by decide) (ri_mk (by decide) ⟨hI, (Fr.rf _ _), (by decide)⟩)
                · skip
                  refine to_aload_n (dat dk_X12_isDate 66 rfl) rfl (to_iload_n (dat dk_X12_isDate 67 rfl) rfl ?_)
                  refine to_cL ca_c13_423 (dat dk_X12_isDate 68 rfl) (ct_X12_day l h hI f hf (show 0 ≤ f ∧ f + 8 ≤ 1200 by omega)) rfl ⟨_, _, rfl, (hI.atS rfl)⟩ rfl (fun x97 h98 p99 => ?_)
                  subst p99
                  refine to_ldc2 (v := (-1)) (x := -1) (tin 8 13 (by decide +kernel) rfl) (by decide +kernel) (dat dk_X12_isDate 69 rfl) ?_
                  refine to_lcmp (dat dk_X12_isDate 70 rfl) (fun x100 rx100 => ?_)
                  refine to_ifeq 159 (dat dk_X12_isDate 71 rfl) rfl rx100 (fun c101 => ?_) (fun c101 => ?_)
                  · skip
                    refine to_iconst (dat dk_X12_isDate 82 rfl) ?_
                    exact to_zret rfl (dat dk_X12_isDate 83 rfl) (by decide) (ri_mk (by decide) ⟨hI, (Fr.rf _ _), (by decide)⟩)
                  · skip
                    refine to_iload (dat dk_X12_isDate 72 rfl) rfl ?_
                    refine to_ifeq 161 (dat dk_X12_isDate 73 rfl) rfl (by omega) (fun c102 => ?_) (fun c102 => ?_)
                    · skip
                      exact jn161_n64  
                    · skip
                      refine to_aload_n (dat dk_X12_isDate 74 rfl) rfl (to_iload (dat dk_X12_isDate 75 rfl) rfl (to_iconst (dat dk_X12_isDate 76 rfl) (to_iadd (dat dk_X12_isDate 77 rfl) ?_)))
                      refine to_cL ca_c13_423 (dat dk_X12_isDate 78 rfl) (ct_X12_day l h hI (y7 + 2) (by omega) (show 0 ≤ (y7 + 2) ∧ (y7 + 2) + 8 ≤ 1200 by omega)) rfl ⟨_, _, rfl, (hI.atS rfl)⟩ rfl (fun x103 h104 p105 => ?_)
                      subst p105
                      refine to_ldc2 (v := (-1)) (x := -1) (tin 8 13 (by decide +kernel) rfl) (by decide +kernel) (dat dk_X12_isDate 79 rfl) ?_
                      refine to_lcmp (dat dk_X12_isDate 80 rfl) (fun x106 rx106 => ?_)
                      refine to_ifne 161 (dat dk_X12_isDate 81 rfl) rfl rx106 (fun c107 => ?_) (fun c107 => ?_)
                      · skip
                        exact jn161_n64  
                      · skip
                        refine to_iconst (dat dk_X12_isDate 82 rfl) ?_
                        exact to_zret rfl (dat dk_X12_isDate 83 rfl) (by decide) (ri_mk (by decide) ⟨hI, (Fr.rf _ _), (by decide)⟩)
              · skip
                refine to_iconst (dat dk_X12_isDate 62 rfl) ?_
                exact to_zret rfl (dat dk_X12_isDate 63 rfl) (by decide) (ri_mk (by decide) ⟨hI, (Fr.rf _ _), (by decide)⟩)
      refine to_iload (dat dk_X12_isDate 36 rfl) rfl ?_
      refine to_ifeq 81 (dat dk_X12_isDate 37 rfl) rfl (by omega) (fun c108 => ?_) (fun c108 => ?_)
      · skip
        refine to_iload_n (dat dk_X12_isDate 42 rfl) rfl ?_
        exact jn82_n9 f hf (show (y1 = 0 ∧ f = f) ∨ (y1 = 1 ∧ f = f + 8) by omega)
      · skip
        refine to_iload_n (dat dk_X12_isDate 38 rfl) rfl (to_bipush (dat dk_X12_isDate 39 rfl) (by decide) (to_iadd (dat dk_X12_isDate 40 rfl) (to_goto (dat dk_X12_isDate 41 rfl) rfl ?_)))
        exact jn82_n9 (f + 8) (by omega) (show (y1 = 0 ∧ (f + 8) = f) ∨ (y1 = 1 ∧ (f + 8) = f + 8) by omega)
    refine to_iload (dat dk_X12_isDate 20 rfl) rfl (to_bipush (dat dk_X12_isDate 21 rfl) (by decide) ?_)
    refine to_ine 55 (dat dk_X12_isDate 22 rfl) rfl (by omega) (by decide) (fun c109 => ?_) (fun c109 => ?_)
    · skip
      refine to_iload (dat dk_X12_isDate 29 rfl) rfl (to_bipush (dat dk_X12_isDate 30 rfl) (by decide) ?_)
      refine to_ine 66 (dat dk_X12_isDate 31 rfl) rfl (by omega) (by decide) (fun c110 => ?_) (fun c110 => ?_)
      · skip
        refine to_iconst (dat dk_X12_isDate 34 rfl) ?_
        exact jn67_n6 0 (by decide) (show (0 : Int) = 0 ∨ ((g - f) = 10 ∧ h.2.2 88 (Int.toNat f) = 46) ∨ (g - f) = 18 by omega)
      · skip
        refine to_iconst (dat dk_X12_isDate 32 rfl) (to_goto (dat dk_X12_isDate 33 rfl) rfl ?_)
        exact jn67_n6 1 (by decide) (show (1 : Int) = 0 ∨ ((g - f) = 10 ∧ h.2.2 88 (Int.toNat f) = 46) ∨ (g - f) = 18 by omega)
    · skip
      refine to_aload_n (dat dk_X12_isDate 23 rfl) rfl (to_getR 88 g_c13_100 (dat dk_X12_isDate 24 rfl) (hI.atS rfl) (hI.atE rfl) (to_iload_n (dat dk_X12_isDate 25 rfl) rfl ?_))
      obtain ⟨x111, ex111⟩ : ∃ y : Int, h.2.2 88 (Int.toNat f) = y := ⟨_, rfl⟩
      have rx111 := hI.atR (a := 88) (j := Int.toNat f) rfl
      rw [ex111] at rx111
      refine to_baldv (q := 1) ex111 (dat dk_X12_isDate 26 rfl) (by decide) (hI.atS rfl) rfl (by decide) (by omega) (to_bipush (dat dk_X12_isDate 27 rfl) (by decide) ?_)
      refine to_ieq 62 (dat dk_X12_isDate 28 rfl) rfl (by omega) (by decide) (fun c112 => ?_) (fun c112 => ?_)
      · skip
        refine to_iconst (dat dk_X12_isDate 32 rfl) (to_goto (dat dk_X12_isDate 33 rfl) rfl ?_)
        exact jn67_n6 1 (by decide) (show (1 : Int) = 0 ∨ ((g - f) = 10 ∧ h.2.2 88 (Int.toNat f) = 46) ∨ (g - f) = 18 by omega)
      · skip
        refine to_iload (dat dk_X12_isDate 29 rfl) rfl (to_bipush (dat dk_X12_isDate 30 rfl) (by decide) ?_)
        refine to_ine 66 (dat dk_X12_isDate 31 rfl) rfl (by omega) (by decide) (fun c113 => ?_) (fun c113 => ?_)
        · skip
          refine to_iconst (dat dk_X12_isDate 34 rfl) ?_
          exact jn67_n6 0 (by decide) (show (0 : Int) = 0 ∨ ((g - f) = 10 ∧ h.2.2 88 (Int.toNat f) = 46) ∨ (g - f) = 18 by omega)
        · skip
          refine to_iconst (dat dk_X12_isDate 32 rfl) (to_goto (dat dk_X12_isDate 33 rfl) rfl ?_)
          exact jn67_n6 1 (by decide) (show (1 : Int) = 0 ∨ ((g - f) = 10 ∧ h.2.2 88 (Int.toNat f) = 46) ∨ (g - f) = 18 by omega)
  refine to_iload (dat dk_X12_isDate 4 rfl) rfl (to_bipush (dat dk_X12_isDate 5 rfl) (by decide) ?_)
  refine to_ine 23 (dat dk_X12_isDate 6 rfl) rfl (by omega) (by decide) (fun c114 => ?_) (fun c114 => ?_)
  · skip
    refine to_iload (dat dk_X12_isDate 13 rfl) rfl (to_bipush (dat dk_X12_isDate 14 rfl) (by decide) ?_)
    refine to_ine 34 (dat dk_X12_isDate 15 rfl) rfl (by omega) (by decide) (fun c115 => ?_) (fun c115 => ?_)
    · skip
      refine to_iconst (dat dk_X12_isDate 18 rfl) ?_
      exact jn35_n3 0 (by decide) (show (0 : Int) = 0 ∨ ((g - f) = 10 ∧ h.2.2 88 (Int.toNat f) ≠ 46) ∨ (g - f) = 18 by omega)
    · skip
      refine to_iconst (dat dk_X12_isDate 16 rfl) (to_goto (dat dk_X12_isDate 17 rfl) rfl ?_)
      exact jn35_n3 1 (by decide) (show (1 : Int) = 0 ∨ ((g - f) = 10 ∧ h.2.2 88 (Int.toNat f) ≠ 46) ∨ (g - f) = 18 by omega)
  · skip
    refine to_aload_n (dat dk_X12_isDate 7 rfl) rfl (to_getR 88 g_c13_100 (dat dk_X12_isDate 8 rfl) (hI.atS rfl) (hI.atE rfl) (to_iload_n (dat dk_X12_isDate 9 rfl) rfl ?_))
    obtain ⟨x116, ex116⟩ : ∃ y : Int, h.2.2 88 (Int.toNat f) = y := ⟨_, rfl⟩
    have rx116 := hI.atR (a := 88) (j := Int.toNat f) rfl
    rw [ex116] at rx116
    refine to_baldv (q := 1) ex116 (dat dk_X12_isDate 10 rfl) (by decide) (hI.atS rfl) rfl (by decide) (by omega) (to_bipush (dat dk_X12_isDate 11 rfl) (by decide) ?_)
    refine to_ine 30 (dat dk_X12_isDate 12 rfl) rfl (by omega) (by decide) (fun c117 => ?_) (fun c117 => ?_)
    · skip
      refine to_iconst (dat dk_X12_isDate 16 rfl) (to_goto (dat dk_X12_isDate 17 rfl) rfl ?_)
      exact jn35_n3 1 (by decide) (show (1 : Int) = 0 ∨ ((g - f) = 10 ∧ h.2.2 88 (Int.toNat f) ≠ 46) ∨ (g - f) = 18 by omega)
    · skip
      refine to_iload (dat dk_X12_isDate 13 rfl) rfl (to_bipush (dat dk_X12_isDate 14 rfl) (by decide) ?_)
      refine to_ine 34 (dat dk_X12_isDate 15 rfl) rfl (by omega) (by decide) (fun c118 => ?_) (fun c118 => ?_)
      · skip
        refine to_iconst (dat dk_X12_isDate 18 rfl) ?_
        exact jn35_n3 0 (by decide) (show (0 : Int) = 0 ∨ ((g - f) = 10 ∧ h.2.2 88 (Int.toNat f) ≠ 46) ∨ (g - f) = 18 by omega)
      · skip
        refine to_iconst (dat dk_X12_isDate 16 rfl) (to_goto (dat dk_X12_isDate 17 rfl) rfl ?_)
        exact jn35_n3 1 (by decide) (show (1 : Int) = 0 ∨ ((g - f) = 10 ∧ h.2.2 88 (Int.toNat f) ≠ 46) ∨ (g - f) = 18 by omega)
