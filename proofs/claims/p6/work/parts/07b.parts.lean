/-! Contracts, by program. -/
abbrev Q_X12_push_vb (h : Hp) (f : Int) (g : Int) (d : Int) : Option V → Hp → Nat → Nat → Prop := RV (fun H => Inv H ∧ Fr [78, 79, 80, 229] h H ∧ (PushP h H f g d))
set_option maxRecDepth 100000 in
theorem ct_X12_push_vb (l : Launch) (h : Hp) (hI : Inv h) (f : Int) (hf : I32 f) (g : Int) (hg : I32 g) (d : Int) (hd : I32 d) (g0 : 0 ≤ f ∧ f ≤ 240000) (g1 : 0 ≤ g ∧ g ≤ 240000) (g2 : 0 ≤ d ∧ d ≤ 5) (g3 : h.2.2 60 29 ≤ 3999) : Ct l D_X12_push 0 0 [.inr (.inr 60), .inl f, .inl g, .inl d] h (Q_X12_push_vb h f g d) := by
  refine ct_of pn_X12_push (Nat.le_of_ble_eq_true rfl) ?_
  show To l E_X12_push (0, [(0, .inr (.inr 60)), (1, .inl f), (2, .inl g), (3, .inl d)], [], h, 0, 0) _
  obtain ⟨x1, ex1⟩ : ∃ y : Int, h.2.2 60 29 = y := ⟨_, rfl⟩
  have rx1 := hI.atR (a := 60) (j := 29) rfl
  rw [ex1] at rx1
  refine to_aload_n (dat dk_X12_push 0 rfl) rfl (to_getR 78 g_c13_69 (dat dk_X12_push 1 rfl) (hI.atS rfl) (hI.atE rfl) (to_aload_n (dat dk_X12_push 2 rfl) rfl (to_getIv (y := x1) ex1 g_c13_251 (dat dk_X12_push 3 rfl) (hI.atS rfl) (to_iload_n (dat dk_X12_push 4 rfl) rfl (to_iastw (dat dk_X12_push 5 rfl) (hI.atS rfl) rfl (by decide) (by omega) ?_)))))
  intro h4 wh4
  have I2 : Inv h4 := by rw [wh4]; exact hI.put (a := 78) (j := (Int.toNat x1)) (x := f) (0) (240000) rfl rfl (show (0 : Int) ≤ f ∧ f ≤ 240000 by omega)
  have f3 : Fr [78, 79, 80, 229] h h4 := by rw [wh4]; exact Fr.putF (a := 78) (j := (Int.toNat x1)) (x := f) (Fr.rf _ _) rfl
  refine to_aload_n (dat dk_X12_push 6 rfl) rfl (to_getR 79 g_c13_72 (dat dk_X12_push 7 rfl) (I2.atS rfl) (I2.atE rfl) (to_aload_n (dat dk_X12_push 8 rfl) rfl (to_getIv (y := x1) (by rw [wh4]; exact ex1) g_c13_251 (dat dk_X12_push 9 rfl) (I2.atS rfl) (to_iload_n (dat dk_X12_push 10 rfl) rfl (to_iastw (dat dk_X12_push 11 rfl) (I2.atS rfl) rfl (by decide) (by omega) ?_)))))
  intro h7 wh7
  have I5 : Inv h7 := by rw [wh7]; exact I2.put (a := 79) (j := (Int.toNat x1)) (x := g) (0) (240000) rfl rfl (show (0 : Int) ≤ g ∧ g ≤ 240000 by omega)
  have f6 : Fr [78, 79, 80, 229] h h7 := by rw [wh7]; exact Fr.putF (a := 79) (j := (Int.toNat x1)) (x := g) f3 rfl
  refine to_aload_n (dat dk_X12_push 12 rfl) rfl (to_getR 80 g_c13_75 (dat dk_X12_push 13 rfl) (I5.atS rfl) (I5.atE rfl) (to_aload_n (dat dk_X12_push 14 rfl) rfl (to_getIv (y := x1) (by rw [wh7]; exact (show h4.2.2 60 29 = x1 from (by rw [wh4]; exact ex1))) g_c13_251 (dat dk_X12_push 15 rfl) (I5.atS rfl) (to_iload_n (dat dk_X12_push 16 rfl) rfl (to_iastw (dat dk_X12_push 17 rfl) (I5.atS rfl) rfl (by decide) (by omega) ?_)))))
  intro h10 wh10
  have I8 : Inv h10 := by rw [wh10]; exact I5.put (a := 80) (j := (Int.toNat x1)) (x := d) (0) (5) rfl rfl (show (0 : Int) ≤ d ∧ d ≤ 5 by omega)
  have f9 : Fr [78, 79, 80, 229] h h10 := by rw [wh10]; exact Fr.putF (a := 80) (j := (Int.toNat x1)) (x := d) f6 rfl
  refine to_aload_n (dat dk_X12_push 18 rfl) rfl (to_dup (dat dk_X12_push 19 rfl) rfl (to_getIv (y := x1) (by rw [wh10]; exact (show h7.2.2 60 29 = x1 from (by rw [wh7]; exact (show h4.2.2 60 29 = x1 from (by rw [wh4]; exact ex1))))) g_c13_251 (dat dk_X12_push 20 rfl) (I8.atS rfl) (to_iconst (dat dk_X12_push 21 rfl) (to_iadd (dat dk_X12_push 22 rfl) (to_putIw p_c13_251 (dat dk_X12_push 23 rfl) (I8.atS rfl) ?_)))))
  intro h13 wh13
  have I11 : Inv h13 := by rw [wh13]; exact I8.put (a := 60) (j := 29) (x := (x1 + 1)) (0) (4000) rfl rfl (show (0 : Int) ≤ (x1 + 1) ∧ (x1 + 1) ≤ 4000 by omega)
  have f12 : Fr [78, 79, 80, 229] h h13 := by rw [wh13]; exact Fr.putF (a := 60) (j := 29) (x := (x1 + 1)) f9 rfl
  exact to_vret rfl (dat dk_X12_push 24 rfl) (rv_mk ⟨I11, f12, (by rw [wh13, wh10, wh7, wh4]; exact PushP.mk ex1)⟩)
abbrev Q_X12_addPart_vb (h : Hp) (f : Int) (g : Int) : Option V → Hp → Nat → Nat → Prop := RV (fun H => Inv H ∧ Fr [81, 82, 233] h H ∧ (H.2.2 60 33 = h.2.2 60 33 + 1) ∧ (psum H = psum h + (g - f) + 2) ∧ (Pok H))
set_option maxRecDepth 100000 in
theorem ct_X12_addPart_vb (l : Launch) (h : Hp) (hI : Inv h) (f : Int) (hf : I32 f) (g : Int) (hg : I32 g) (g0 : 0 ≤ f ∧ f ≤ 240000) (g1 : 0 ≤ g ∧ g ≤ 240000) (g2 : h.2.2 60 33 ≤ 1299) (g3 : f ≤ g) (g4 : Pok h) : Ct l D_X12_addPart 0 0 [.inr (.inr 60), .inl f, .inl g] h (Q_X12_addPart_vb h f g) := by
  refine ct_of pn_X12_addPart (Nat.le_of_ble_eq_true rfl) ?_
  show To l E_X12_addPart (0, [(0, .inr (.inr 60)), (1, .inl f), (2, .inl g)], [], h, 0, 0) _
  obtain ⟨x1, ex1⟩ : ∃ y : Int, h.2.2 60 33 = y := ⟨_, rfl⟩
  have rx1 := hI.atR (a := 60) (j := 33) rfl
  rw [ex1] at rx1
  refine to_aload_n (dat dk_X12_addPart 0 rfl) rfl (to_getR 81 g_c13_78 (dat dk_X12_addPart 1 rfl) (hI.atS rfl) (hI.atE rfl) (to_aload_n (dat dk_X12_addPart 2 rfl) rfl (to_getIv (y := x1) ex1 g_c13_240 (dat dk_X12_addPart 3 rfl) (hI.atS rfl) (to_iload_n (dat dk_X12_addPart 4 rfl) rfl (to_iastw (dat dk_X12_addPart 5 rfl) (hI.atS rfl) rfl (by decide) (by omega) ?_)))))
  intro h4 wh4
  have I2 : Inv h4 := by rw [wh4]; exact hI.put (a := 81) (j := (Int.toNat x1)) (x := f) (0) (240000) rfl rfl (show (0 : Int) ≤ f ∧ f ≤ 240000 by omega)
  have f3 : Fr [81, 82, 233] h h4 := by rw [wh4]; exact Fr.putF (a := 81) (j := (Int.toNat x1)) (x := f) (Fr.rf _ _) rfl
  refine to_aload_n (dat dk_X12_addPart 6 rfl) rfl (to_getR 82 g_c13_81 (dat dk_X12_addPart 7 rfl) (I2.atS rfl) (I2.atE rfl) (to_aload_n (dat dk_X12_addPart 8 rfl) rfl (to_getIv (y := x1) (by rw [wh4]; exact ex1) g_c13_240 (dat dk_X12_addPart 9 rfl) (I2.atS rfl) (to_iload_n (dat dk_X12_addPart 10 rfl) rfl (to_iastw (dat dk_X12_addPart 11 rfl) (I2.atS rfl) rfl (by decide) (by omega) ?_)))))
  intro h7 wh7
  have I5 : Inv h7 := by rw [wh7]; exact I2.put (a := 82) (j := (Int.toNat x1)) (x := g) (0) (240000) rfl rfl (show (0 : Int) ≤ g ∧ g ≤ 240000 by omega)
  have f6 : Fr [81, 82, 233] h h7 := by rw [wh7]; exact Fr.putF (a := 82) (j := (Int.toNat x1)) (x := g) f3 rfl
  refine to_aload_n (dat dk_X12_addPart 12 rfl) rfl (to_dup (dat dk_X12_addPart 13 rfl) rfl (to_getIv (y := x1) (by rw [wh7]; exact (show h4.2.2 60 33 = x1 from (by rw [wh4]; exact ex1))) g_c13_240 (dat dk_X12_addPart 14 rfl) (I5.atS rfl) (to_iconst (dat dk_X12_addPart 15 rfl) (to_iadd (dat dk_X12_addPart 16 rfl) (to_putIw p_c13_240 (dat dk_X12_addPart 17 rfl) (I5.atS rfl) ?_)))))
  intro h10 wh10
  have I8 : Inv h10 := by rw [wh10]; exact I5.put (a := 60) (j := 33) (x := (x1 + 1)) (0) (1300) rfl rfl (show (0 : Int) ≤ (x1 + 1) ∧ (x1 + 1) ≤ 1300 by omega)
  have f9 : Fr [81, 82, 233] h h10 := by rw [wh10]; exact Fr.putF (a := 60) (j := 33) (x := (x1 + 1)) f6 rfl
  have e11 : h10.2.2 60 33 = (x1 + 1) := (by rw [wh10]; exact wr_eq)
  exact to_vret rfl (dat dk_X12_addPart 18 rfl) (rv_mk ⟨I8, f9, (show h10.2.2 60 33 = h.2.2 60 33 + 1 by omega), (by rw [wh10, wh7, wh4]; exact addP ex1 (by omega)), (by rw [wh10, wh7, wh4]; exact addPk ex1 (by omega) g3 g4)⟩)
abbrev Q_X12_mark_vb (h : Hp) (f : Int) (g : Int) : Option V → Hp → Nat → Nat → Prop := RI (fun x H => h = H ∧ (0 ≤ x ∧ x ≤ 2) ∧ (x = 0 ∨ f + 2 + H.2.2 60 28 ≤ g))
set_option maxRecDepth 100000 in
theorem ct_X12_mark_vb (l : Launch) (h : Hp) (hI : Inv h) (f : Int) (hf : I32 f) (g : Int) (hg : I32 g) (g0 : 0 ≤ f ∧ f ≤ g) (g1 : g ≤ 240000) : Ct l D_X12_mark 1 20 [.inr (.inr 60), .inl f, .inl g] h (Q_X12_mark_vb h f g) := by
  refine ct_of pn_X12_mark (Nat.le_of_ble_eq_true rfl) ?_
  show To l E_X12_mark (0, [(0, .inr (.inr 60)), (1, .inl f), (2, .inl g)], [], h, 0, 0) _
  refine to_iload_n (dat dk_X12_mark 0 rfl) rfl (to_iload_n (dat dk_X12_mark 1 rfl) rfl (to_isub (dat dk_X12_mark 2 rfl) (to_aload_n (dat dk_X12_mark 3 rfl) rfl ?_)))
  obtain ⟨x1, ex1⟩ : ∃ y : Int, h.2.2 60 28 = y := ⟨_, rfl⟩
  have rx1 := hI.atR (a := 60) (j := 28) rfl
  rw [ex1] at rx1
  refine to_getIv (y := x1) ex1 g_c13_234 (dat dk_X12_mark 4 rfl) (hI.atS rfl) (to_iconst (dat dk_X12_mark 5 rfl) (to_iadd (dat dk_X12_mark 6 rfl) ?_))
  refine to_ilt 36 (dat dk_X12_mark 7 rfl) rfl (by omega) (by omega) (fun c2 => ?_) (fun c2 => ?_)
  · skip
    refine to_iconst (dat dk_X12_mark 22 rfl) ?_
    exact to_iret rfl (dat dk_X12_mark 23 rfl) (ri_mk (by decide) ⟨rfl, (show 0 ≤ (0 : Int) ∧ (0 : Int) ≤ 2 by omega), (show (0 : Int) = 0 ∨ f + 2 + h.2.2 60 28 ≤ g by omega)⟩)
  · skip
    refine to_aload_n (dat dk_X12_mark 8 rfl) rfl (to_getR 63 g_c13_17 (dat dk_X12_mark 9 rfl) (hI.atS rfl) (hI.atE rfl) (to_iload_n (dat dk_X12_mark 10 rfl) rfl ?_))
    obtain ⟨x3, ex3⟩ : ∃ y : Int, h.2.2 63 (Int.toNat f) = y := ⟨_, rfl⟩
    have rx3 := hI.atR (a := 63) (j := Int.toNat f) rfl
    rw [ex3] at rx3
    refine to_baldv (q := 1) ex3 (dat dk_X12_mark 11 rfl) (by decide) (hI.atS rfl) rfl (by decide) (by omega) (to_bipush (dat dk_X12_mark 12 rfl) (by decide) ?_)
    refine to_ine 36 (dat dk_X12_mark 13 rfl) rfl (by omega) (by decide) (fun c4 => ?_) (fun c4 => ?_)
    · skip
      refine to_iconst (dat dk_X12_mark 22 rfl) ?_
      exact to_iret rfl (dat dk_X12_mark 23 rfl) (ri_mk (by decide) ⟨rfl, (show 0 ≤ (0 : Int) ∧ (0 : Int) ≤ 2 by omega), (show (0 : Int) = 0 ∨ f + 2 + h.2.2 60 28 ≤ g by omega)⟩)
    · skip
      refine to_aload_n (dat dk_X12_mark 14 rfl) rfl (to_getR 63 g_c13_17 (dat dk_X12_mark 15 rfl) (hI.atS rfl) (hI.atE rfl) (to_iload_n (dat dk_X12_mark 16 rfl) rfl (to_iconst (dat dk_X12_mark 17 rfl) (to_iadd (dat dk_X12_mark 18 rfl) ?_))))
      obtain ⟨x5, ex5⟩ : ∃ y : Int, h.2.2 63 (Int.toNat (f + 1)) = y := ⟨_, rfl⟩
      have rx5 := hI.atR (a := 63) (j := Int.toNat (f + 1)) rfl
      rw [ex5] at rx5
      refine to_baldv (q := 1) ex5 (dat dk_X12_mark 19 rfl) (by decide) (hI.atS rfl) rfl (by decide) (by omega) (to_bipush (dat dk_X12_mark 20 rfl) (by decide) ?_)
      refine to_ieq 38 (dat dk_X12_mark 21 rfl) rfl (by omega) (by decide) (fun c6 => ?_) (fun c6 => ?_)
      · skip
        refine to_iconst (dat dk_X12_mark 24 rfl) (to_istore_n (L' := [(0, .inr (.inr 60)), (1, .inl f), (2, .inl g), (3, .inl 0)]) (dat dk_X12_mark 25 rfl) (by decide) rfl ?_)
        have lp40_n9 : ∀ (n9 : Nat) (y7 : Int), (I32 y7) → (0 ≤ y7) → (h.2.2 60 28 - y7 ≤ (n9 : Int)) → To l E_X12_mark (40, [(0, .inr (.inr 60)), (1, .inl f), (2, .inl g), (3, .inl y7)], [], h, 0, 0) (Q_X12_mark_vb h f g) := by
          intro n9
          induction n9 using Nat.strongRecOn with
          | _ n9 ihn9 =>
          intro y7 ry7 c8 c10
          refine to_iload_n (dat dk_X12_mark 26 rfl) rfl (to_aload_n (dat dk_X12_mark 27 rfl) rfl (to_getIv (y := x1) ex1 g_c13_234 (dat dk_X12_mark 28 rfl) (hI.atS rfl) ?_))
          refine to_ige 75 (dat dk_X12_mark 29 rfl) rfl ry7 (by omega) (fun c11 => ?_) (fun c11 => ?_)
          · skip
            refine to_iload_n (dat dk_X12_mark 47 rfl) rfl (to_iconst (dat dk_X12_mark 48 rfl) (to_iadd (dat dk_X12_mark 49 rfl) (to_aload_n (dat dk_X12_mark 50 rfl) rfl (to_getIv (y := x1) ex1 g_c13_234 (dat dk_X12_mark 51 rfl) (hI.atS rfl) (to_iadd (dat dk_X12_mark 52 rfl) (to_istore_n (L' := [(0, .inr (.inr 60)), (1, .inl f), (2, .inl g), (3, .inl ((f + 2) + x1))]) (dat dk_X12_mark 53 rfl) (by decide) rfl ?_))))))
            have jn120_n14 : ∀ (y12 : Int), (y12 = 0 ∨ y12 = 1) → (y12 = 0 ∨ ((f + 2) + x1) + 1 < g) → To l E_X12_mark (120, [(0, .inr (.inr 60)), (1, .inl f), (2, .inl g), (3, .inl ((f + 2) + x1))], [.inl y12], h, 0, 0) (Q_X12_mark_vb h f g) := by
              intro y12 ry12 c13
              refine to_istore (L' := [(0, .inr (.inr 60)), (1, .inl f), (2, .inl g), (3, .inl ((f + 2) + x1)), (4, .inl y12)]) (dat dk_X12_mark 76 rfl) (by decide) rfl (to_iload (dat dk_X12_mark 77 rfl) rfl ?_)
              refine to_ifeq 130 (dat dk_X12_mark 78 rfl) rfl (by omega) (fun c15 => ?_) (fun c15 => ?_)
              · skip
                have lp130_n18 : ∀ (n18 : Nat) (y16 : Int), (I32 y16) → (0 ≤ y16 ∧ y16 ≤ g) → (g - y16 ≤ (n18 : Int)) → To l E_X12_mark (130, [(0, .inr (.inr 60)), (1, .inl f), (2, .inl g), (3, .inl y16), (4, .inl y12)], [], h, 0, 0) (Q_X12_mark_vb h f g) := by
                  intro n18
                  induction n18 using Nat.strongRecOn with
                  | _ n18 ihn18 =>
                  intro y16 ry16 c17 c19
                  refine to_iload_n (dat dk_X12_mark 80 rfl) rfl (to_iload_n (dat dk_X12_mark 81 rfl) rfl ?_)
                  refine to_ige 153 (dat dk_X12_mark 82 rfl) rfl ry16 hg (fun c20 => ?_) (fun c20 => ?_)
                  · skip
                    refine to_iload_n (dat dk_X12_mark 91 rfl) rfl (to_iload_n (dat dk_X12_mark 92 rfl) rfl ?_)
                    refine to_ige 162 (dat dk_X12_mark 93 rfl) rfl ry16 hg (fun c21 => ?_) (fun c21 => ?_)
                    · skip
                      refine to_iload (dat dk_X12_mark 96 rfl) rfl ?_
                      refine to_ifeq 171 (dat dk_X12_mark 97 rfl) rfl (by omega) (fun c22 => ?_) (fun c22 => ?_)
                      · skip
                        refine to_iconst (dat dk_X12_mark 100 rfl) ?_
                        exact to_iret rfl (dat dk_X12_mark 101 rfl) (ri_mk (by decide) ⟨rfl, (show 0 ≤ (1 : Int) ∧ (1 : Int) ≤ 2 by omega), (show (1 : Int) = 0 ∨ f + 2 + h.2.2 60 28 ≤ g by omega)⟩)
                      · skip
                        refine to_iconst (dat dk_X12_mark 98 rfl) (to_goto (dat dk_X12_mark 99 rfl) rfl ?_)
                        exact to_iret rfl (dat dk_X12_mark 101 rfl) (ri_mk (by decide) ⟨rfl, (show 0 ≤ (2 : Int) ∧ (2 : Int) ≤ 2 by omega), (show (2 : Int) = 0 ∨ f + 2 + h.2.2 60 28 ≤ g by omega)⟩)
                    · skip
                      refine to_iconst (dat dk_X12_mark 94 rfl) (to_goto (dat dk_X12_mark 95 rfl) rfl ?_)
                      exact to_iret rfl (dat dk_X12_mark 101 rfl) (ri_mk (by decide) ⟨rfl, (show 0 ≤ (0 : Int) ∧ (0 : Int) ≤ 2 by omega), (show (0 : Int) = 0 ∨ f + 2 + h.2.2 60 28 ≤ g by omega)⟩)
                  · skip
                    refine to_aload_n (dat dk_X12_mark 83 rfl) rfl (to_getR 63 g_c13_17 (dat dk_X12_mark 84 rfl) (hI.atS rfl) (hI.atE rfl) (to_iload_n (dat dk_X12_mark 85 rfl) rfl ?_))
                    obtain ⟨x23, ex23⟩ : ∃ y : Int, h.2.2 63 (Int.toNat y16) = y := ⟨_, rfl⟩
                    have rx23 := hI.atR (a := 63) (j := Int.toNat y16) rfl
                    rw [ex23] at rx23
                    refine to_baldv (q := 1) ex23 (dat dk_X12_mark 86 rfl) (by decide) (hI.atS rfl) rfl (by decide) (by omega) ?_
                    refine to_cI ca_c13_182 (dat dk_X12_mark 87 rfl) (ct_X12_isBlank l h hI x23 (by omega)) rfl trivial rfl (fun x24 h25 rx24 p26 => ?_)
                    obtain ⟨rfl, zx24⟩ := p26
                    refine to_ifeq 153 (dat dk_X12_mark 88 rfl) rfl rx24 (fun c27 => ?_) (fun c27 => ?_)
                    · skip
                      refine to_iload_n (dat dk_X12_mark 91 rfl) rfl (to_iload_n (dat dk_X12_mark 92 rfl) rfl ?_)
                      refine to_ige 162 (dat dk_X12_mark 93 rfl) rfl ry16 hg (fun c28 => ?_) (fun c28 => ?_)
                      · skip
                        refine to_iload (dat dk_X12_mark 96 rfl) rfl ?_
                        refine to_ifeq 171 (dat dk_X12_mark 97 rfl) rfl (by omega) (fun c29 => ?_) (fun c29 => ?_)
                        · skip
                          refine to_iconst (dat dk_X12_mark 100 rfl) ?_
                          exact to_iret rfl (dat dk_X12_mark 101 rfl) (ri_mk (by decide) ⟨rfl, (show 0 ≤ (1 : Int) ∧ (1 : Int) ≤ 2 by omega), (show (1 : Int) = 0 ∨ f + 2 + h.2.2 60 28 ≤ g by omega)⟩)
                        · skip
                          refine to_iconst (dat dk_X12_mark 98 rfl) (to_goto (dat dk_X12_mark 99 rfl) rfl ?_)
                          exact to_iret rfl (dat dk_X12_mark 101 rfl) (ri_mk (by decide) ⟨rfl, (show 0 ≤ (2 : Int) ∧ (2 : Int) ≤ 2 by omega), (show (2 : Int) = 0 ∨ f + 2 + h.2.2 60 28 ≤ g by omega)⟩)
                      · skip
                        refine to_iconst (dat dk_X12_mark 94 rfl) (to_goto (dat dk_X12_mark 95 rfl) rfl ?_)
                        exact to_iret rfl (dat dk_X12_mark 101 rfl) (ri_mk (by decide) ⟨rfl, (show 0 ≤ (0 : Int) ∧ (0 : Int) ≤ 2 by omega), (show (0 : Int) = 0 ∨ f + 2 + h.2.2 60 28 ≤ g by omega)⟩)
                    · skip
                      refine to_iinc (L' := [(0, .inr (.inr 60)), (1, .inl f), (2, .inl g), (3, .inl (y16 + 1)), (4, .inl y12)]) (dat dk_X12_mark 89 rfl) rfl (by decide) rfl (to_goto (dat dk_X12_mark 90 rfl) rfl ?_)
                      exact ihn18 (n18 - 1) (by omega) (y16 + 1) (by omega) (show 0 ≤ (y16 + 1) ∧ (y16 + 1) ≤ g by omega) (show g - (y16 + 1) ≤ ((n18 - 1 : Nat) : Int) by omega)
                exact lp130_n18 (g - ((f + 2) + x1)).toNat ((f + 2) + x1) (by omega) (show 0 ≤ ((f + 2) + x1) ∧ ((f + 2) + x1) ≤ g by omega) (by omega)
              · skip
                refine to_iinc (L' := [(0, .inr (.inr 60)), (1, .inl f), (2, .inl g), (3, .inl (((f + 2) + x1) + 2)), (4, .inl y12)]) (dat dk_X12_mark 79 rfl) rfl (by decide) rfl ?_
                have lp130_n32 : ∀ (n32 : Nat) (y30 : Int), (I32 y30) → (0 ≤ y30 ∧ y30 ≤ g) → (g - y30 ≤ (n32 : Int)) → To l E_X12_mark (130, [(0, .inr (.inr 60)), (1, .inl f), (2, .inl g), (3, .inl y30), (4, .inl y12)], [], h, 0, 0) (Q_X12_mark_vb h f g) := by
                  intro n32
                  induction n32 using Nat.strongRecOn with
                  | _ n32 ihn32 =>
                  intro y30 ry30 c31 c33
                  refine to_iload_n (dat dk_X12_mark 80 rfl) rfl (to_iload_n (dat dk_X12_mark 81 rfl) rfl ?_)
                  refine to_ige 153 (dat dk_X12_mark 82 rfl) rfl ry30 hg (fun c34 => ?_) (fun c34 => ?_)
                  · skip
                    refine to_iload_n (dat dk_X12_mark 91 rfl) rfl (to_iload_n (dat dk_X12_mark 92 rfl) rfl ?_)
                    refine to_ige 162 (dat dk_X12_mark 93 rfl) rfl ry30 hg (fun c35 => ?_) (fun c35 => ?_)
                    · skip
                      refine to_iload (dat dk_X12_mark 96 rfl) rfl ?_
                      refine to_ifeq 171 (dat dk_X12_mark 97 rfl) rfl (by omega) (fun c36 => ?_) (fun c36 => ?_)
                      · skip
                        refine to_iconst (dat dk_X12_mark 100 rfl) ?_
                        exact to_iret rfl (dat dk_X12_mark 101 rfl) (ri_mk (by decide) ⟨rfl, (show 0 ≤ (1 : Int) ∧ (1 : Int) ≤ 2 by omega), (show (1 : Int) = 0 ∨ f + 2 + h.2.2 60 28 ≤ g by omega)⟩)
                      · skip
                        refine to_iconst (dat dk_X12_mark 98 rfl) (to_goto (dat dk_X12_mark 99 rfl) rfl ?_)
                        exact to_iret rfl (dat dk_X12_mark 101 rfl) (ri_mk (by decide) ⟨rfl, (show 0 ≤ (2 : Int) ∧ (2 : Int) ≤ 2 by omega), (show (2 : Int) = 0 ∨ f + 2 + h.2.2 60 28 ≤ g by omega)⟩)
                    · skip
                      refine to_iconst (dat dk_X12_mark 94 rfl) (to_goto (dat dk_X12_mark 95 rfl) rfl ?_)
                      exact to_iret rfl (dat dk_X12_mark 101 rfl) (ri_mk (by decide) ⟨rfl, (show 0 ≤ (0 : Int) ∧ (0 : Int) ≤ 2 by omega), (show (0 : Int) = 0 ∨ f + 2 + h.2.2 60 28 ≤ g by omega)⟩)
                  · skip
                    refine to_aload_n (dat dk_X12_mark 83 rfl) rfl (to_getR 63 g_c13_17 (dat dk_X12_mark 84 rfl) (hI.atS rfl) (hI.atE rfl) (to_iload_n (dat dk_X12_mark 85 rfl) rfl ?_))
                    obtain ⟨x37, ex37⟩ : ∃ y : Int, h.2.2 63 (Int.toNat y30) = y := ⟨_, rfl⟩
                    have rx37 := hI.atR (a := 63) (j := Int.toNat y30) rfl
                    rw [ex37] at rx37
                    refine to_baldv (q := 1) ex37 (dat dk_X12_mark 86 rfl) (by decide) (hI.atS rfl) rfl (by decide) (by omega) ?_
                    refine to_cI ca_c13_182 (dat dk_X12_mark 87 rfl) (ct_X12_isBlank l h hI x37 (by omega)) rfl trivial rfl (fun x38 h39 rx38 p40 => ?_)
                    obtain ⟨rfl, zx38⟩ := p40
                    refine to_ifeq 153 (dat dk_X12_mark 88 rfl) rfl rx38 (fun c41 => ?_) (fun c41 => ?_)
                    · skip
                      refine to_iload_n (dat dk_X12_mark 91 rfl) rfl (to_iload_n (dat dk_X12_mark 92 rfl) rfl ?_)
                      refine to_ige 162 (dat dk_X12_mark 93 rfl) rfl ry30 hg (fun c42 => ?_) (fun c42 => ?_)
                      · skip
                        refine to_iload (dat dk_X12_mark 96 rfl) rfl ?_
                        refine to_ifeq 171 (dat dk_X12_mark 97 rfl) rfl (by omega) (fun c43 => ?_) (fun c43 => ?_)
                        · skip
                          refine to_iconst (dat dk_X12_mark 100 rfl) ?_
                          exact to_iret rfl (dat dk_X12_mark 101 rfl) (ri_mk (by decide) ⟨rfl, (show 0 ≤ (1 : Int) ∧ (1 : Int) ≤ 2 by omega), (show (1 : Int) = 0 ∨ f + 2 + h.2.2 60 28 ≤ g by omega)⟩)
                        · skip
                          refine to_iconst (dat dk_X12_mark 98 rfl) (to_goto (dat dk_X12_mark 99 rfl) rfl ?_)
                          exact to_iret rfl (dat dk_X12_mark 101 rfl) (ri_mk (by decide) ⟨rfl, (show 0 ≤ (2 : Int) ∧ (2 : Int) ≤ 2 by omega), (show (2 : Int) = 0 ∨ f + 2 + h.2.2 60 28 ≤ g by omega)⟩)
                      · skip
                        refine to_iconst (dat dk_X12_mark 94 rfl) (to_goto (dat dk_X12_mark 95 rfl) rfl ?_)
                        exact to_iret rfl (dat dk_X12_mark 101 rfl) (ri_mk (by decide) ⟨rfl, (show 0 ≤ (0 : Int) ∧ (0 : Int) ≤ 2 by omega), (show (0 : Int) = 0 ∨ f + 2 + h.2.2 60 28 ≤ g by omega)⟩)
                    · skip
                      refine to_iinc (L' := [(0, .inr (.inr 60)), (1, .inl f), (2, .inl g), (3, .inl (y30 + 1)), (4, .inl y12)]) (dat dk_X12_mark 89 rfl) rfl (by decide) rfl (to_goto (dat dk_X12_mark 90 rfl) rfl ?_)
                      exact ihn32 (n32 - 1) (by omega) (y30 + 1) (by omega) (show 0 ≤ (y30 + 1) ∧ (y30 + 1) ≤ g by omega) (show g - (y30 + 1) ≤ ((n32 - 1 : Nat) : Int) by omega)
                exact lp130_n32 (g - (((f + 2) + x1) + 2)).toNat (((f + 2) + x1) + 2) (by omega) (show 0 ≤ (((f + 2) + x1) + 2) ∧ (((f + 2) + x1) + 2) ≤ g by omega) (by omega)
            refine to_iload_n (dat dk_X12_mark 54 rfl) rfl (to_iconst (dat dk_X12_mark 55 rfl) (to_iadd (dat dk_X12_mark 56 rfl) (to_iload_n (dat dk_X12_mark 57 rfl) rfl ?_)))
            refine to_ige 119 (dat dk_X12_mark 58 rfl) rfl (by omega) hg (fun c44 => ?_) (fun c44 => ?_)
            · skip
              refine to_iconst (dat dk_X12_mark 75 rfl) ?_
              exact jn120_n14 0 (by decide) (show (0 : Int) = 0 ∨ ((f + 2) + x1) + 1 < g by omega)
            · skip
              refine to_aload_n (dat dk_X12_mark 59 rfl) rfl (to_getR 63 g_c13_17 (dat dk_X12_mark 60 rfl) (hI.atS rfl) (hI.atE rfl) (to_iload_n (dat dk_X12_mark 61 rfl) rfl ?_))
              obtain ⟨x45, ex45⟩ : ∃ y : Int, h.2.2 63 (Int.toNat ((f + 2) + x1)) = y := ⟨_, rfl⟩
              have rx45 := hI.atR (a := 63) (j := Int.toNat ((f + 2) + x1)) rfl
              rw [ex45] at rx45
              refine to_baldv (q := 1) ex45 (dat dk_X12_mark 62 rfl) (by decide) (hI.atS rfl) rfl (by decide) (by omega) (to_bipush (dat dk_X12_mark 63 rfl) (by decide) ?_)
              refine to_ine 119 (dat dk_X12_mark 64 rfl) rfl (by omega) (by decide) (fun c46 => ?_) (fun c46 => ?_)
              · skip
                refine to_iconst (dat dk_X12_mark 75 rfl) ?_
                exact jn120_n14 0 (by decide) (show (0 : Int) = 0 ∨ ((f + 2) + x1) + 1 < g by omega)
              · skip
                refine to_aload_n (dat dk_X12_mark 65 rfl) rfl (to_getR 63 g_c13_17 (dat dk_X12_mark 66 rfl) (hI.atS rfl) (hI.atE rfl) (to_iload_n (dat dk_X12_mark 67 rfl) rfl (to_iconst (dat dk_X12_mark 68 rfl) (to_iadd (dat dk_X12_mark 69 rfl) ?_))))
                obtain ⟨x47, ex47⟩ : ∃ y : Int, h.2.2 63 (Int.toNat (((f + 2) + x1) + 1)) = y := ⟨_, rfl⟩
                have rx47 := hI.atR (a := 63) (j := Int.toNat (((f + 2) + x1) + 1)) rfl
                rw [ex47] at rx47
                refine to_baldv (q := 1) ex47 (dat dk_X12_mark 70 rfl) (by decide) (hI.atS rfl) rfl (by decide) (by omega) (to_bipush (dat dk_X12_mark 71 rfl) (by decide) ?_)
                refine to_ine 119 (dat dk_X12_mark 72 rfl) rfl (by omega) (by decide) (fun c48 => ?_) (fun c48 => ?_)
                · skip
                  refine to_iconst (dat dk_X12_mark 75 rfl) ?_
                  exact jn120_n14 0 (by decide) (show (0 : Int) = 0 ∨ ((f + 2) + x1) + 1 < g by omega)
                · skip
                  refine to_iconst (dat dk_X12_mark 73 rfl) (to_goto (dat dk_X12_mark 74 rfl) rfl ?_)
                  exact jn120_n14 1 (by decide) (show (1 : Int) = 0 ∨ ((f + 2) + x1) + 1 < g by omega)
          · skip
            refine to_aload_n (dat dk_X12_mark 30 rfl) rfl (to_getR 63 g_c13_17 (dat dk_X12_mark 31 rfl) (hI.atS rfl) (hI.atE rfl) (to_iload_n (dat dk_X12_mark 32 rfl) rfl (to_iconst (dat dk_X12_mark 33 rfl) (to_iadd (dat dk_X12_mark 34 rfl) (to_iload_n (dat dk_X12_mark 35 rfl) rfl (to_iadd (dat dk_X12_mark 36 rfl) ?_))))))
            obtain ⟨x49, ex49⟩ : ∃ y : Int, h.2.2 63 (Int.toNat ((f + 2) + y7)) = y := ⟨_, rfl⟩
            have rx49 := hI.atR (a := 63) (j := Int.toNat ((f + 2) + y7)) rfl
            rw [ex49] at rx49
            refine to_baldv (q := 1) ex49 (dat dk_X12_mark 37 rfl) (by decide) (hI.atS rfl) rfl (by decide) (by omega) (to_aload_n (dat dk_X12_mark 38 rfl) rfl (to_getR 77 g_c13_66 (dat dk_X12_mark 39 rfl) (hI.atS rfl) (hI.atE rfl) (to_iload_n (dat dk_X12_mark 40 rfl) rfl ?_)))
            obtain ⟨x50, ex50⟩ : ∃ y : Int, h.2.2 77 (Int.toNat y7) = y := ⟨_, rfl⟩
            have rx50 := hI.atR (a := 77) (j := Int.toNat y7) rfl
            rw [ex50] at rx50
            refine to_baldv (q := 1) ex50 (dat dk_X12_mark 41 rfl) (by decide) (hI.atS rfl) rfl (by decide) (by omega) ?_
            refine to_ieq 69 (dat dk_X12_mark 42 rfl) rfl (by omega) (by omega) (fun c51 => ?_) (fun c51 => ?_)
            · skip
              refine to_iinc (L' := [(0, .inr (.inr 60)), (1, .inl f), (2, .inl g), (3, .inl (y7 + 1))]) (dat dk_X12_mark 45 rfl) rfl (by decide) rfl (to_goto (dat dk_X12_mark 46 rfl) rfl ?_)
              exact ihn9 (n9 - 1) (by omega) (y7 + 1) (by omega) (show 0 ≤ (y7 + 1) by omega) (show h.2.2 60 28 - (y7 + 1) ≤ ((n9 - 1 : Nat) : Int) by omega)
            · skip
              refine to_iconst (dat dk_X12_mark 43 rfl) ?_
              exact to_iret rfl (dat dk_X12_mark 44 rfl) (ri_mk (by decide) ⟨rfl, (show 0 ≤ (0 : Int) ∧ (0 : Int) ≤ 2 by omega), (show (0 : Int) = 0 ∨ f + 2 + h.2.2 60 28 ≤ g by omega)⟩)
        exact lp40_n9 (h.2.2 60 28 - (0 : Int)).toNat 0 (by decide) (show 0 ≤ (0 : Int) by omega) (by omega)
      · skip
        refine to_iconst (dat dk_X12_mark 22 rfl) ?_
        exact to_iret rfl (dat dk_X12_mark 23 rfl) (ri_mk (by decide) ⟨rfl, (show 0 ≤ (0 : Int) ∧ (0 : Int) ≤ 2 by omega), (show (0 : Int) = 0 ∨ f + 2 + h.2.2 60 28 ≤ g by omega)⟩)
abbrev Q_X12_findParts_vb (h : Hp) (f : Int) (g : Int) : Option V → Hp → Nat → Nat → Prop := RV (fun H => Inv H ∧ Fr [81, 82, 233] h H ∧ (psum H ≤ g - f) ∧ (Pok H))
set_option maxRecDepth 100000 in
theorem ct_X12_findParts_vb (l : Launch) (h : Hp) (hI : Inv h) (f : Int) (hf : I32 f) (g : Int) (hg : I32 g) (g0 : 0 ≤ f ∧ f ≤ g) (g1 : g ≤ 240000) (g2 : g - f ≤ 1200) (g3 : 1 ≤ h.2.2 60 28) : Ct l D_X12_findParts 2 44 [.inr (.inr 60), .inl f, .inl g] h (Q_X12_findParts_vb h f g) := by
  refine ct_of pn_X12_findParts (Nat.le_of_ble_eq_true rfl) ?_
  show To l E_X12_findParts (0, [(0, .inr (.inr 60)), (1, .inl f), (2, .inl g)], [], h, 0, 0) _
  obtain ⟨x1, ex1⟩ : ∃ y : Int, h.2.2 60 28 = y := ⟨_, rfl⟩
  have rx1 := hI.atR (a := 60) (j := 28) rfl
  rw [ex1] at rx1
  refine to_aload_n (dat dk_X12_findParts 0 rfl) rfl (to_iconst (dat dk_X12_findParts 1 rfl) (to_putIw p_c13_240 (dat dk_X12_findParts 2 rfl) (hI.atS rfl) ?_))
  intro h4 wh4
  have I2 : Inv h4 := by rw [wh4]; exact hI.put (a := 60) (j := 33) (x := 0) (0) (1300) rfl rfl (show (0 : Int) ≤ 0 ∧ 0 ≤ 1300 by decide)
  have f3 : Fr [81, 82, 233] h h4 := by rw [wh4]; exact Fr.putF (a := 60) (j := 33) (x := 0) (Fr.rf _ _) rfl
  have z5 : psum h4 = 0 ∧ Pok h4 := by rw [wh4]; exact psum0
  obtain ⟨z5, z6⟩ := z5
  refine to_iconst (dat dk_X12_findParts 3 rfl) (to_istore_n (L' := [(0, .inr (.inr 60)), (1, .inl f), (2, .inl g), (3, .inl (-1))]) (dat dk_X12_findParts 4 rfl) (by decide) rfl (to_iload_n (dat dk_X12_findParts 5 rfl) rfl (to_istore (L' := [(0, .inr (.inr 60)), (1, .inl f), (2, .inl g), (3, .inl (-1)), (4, .inl f)]) (dat dk_X12_findParts 6 rfl) (by decide) rfl ?_)))
  have lp10_n13 : ∀ (n13 : Nat) (y7 : Int) (y8 : Int) (h9 : Hp), (I32 y7) → (I32 y8) → (Inv h9) → (Fr [81, 82, 233] h h9) → (f ≤ y8 ∧ y8 ≤ g) → ((y7 = -1 ∧ psum h9 ≤ y8 - f) ∨ (f + 3 ≤ y7 ∧ y7 ≤ y8 ∧ psum h9 + 3 ≤ y7 - f)) → (Pok h9) → (g - y8 ≤ (n13 : Int)) → To l E_X12_findParts (10, [(0, .inr (.inr 60)), (1, .inl f), (2, .inl g), (3, .inl y7), (4, .inl y8)], [], h9, 0, 0) (Q_X12_findParts_vb h f g) := by
    intro n13
    induction n13 using Nat.strongRecOn with
    | _ n13 ihn13 =>
    intro y7 y8 h9 ry7 ry8 Ih9 fh9 c10 c11 c12 c14
    refine to_iload (dat dk_X12_findParts 7 rfl) rfl (to_iload_n (dat dk_X12_findParts 8 rfl) rfl ?_)
    refine to_ige 130 (dat dk_X12_findParts 9 rfl) rfl ry8 hg (fun c15 => ?_) (fun c15 => ?_)
    · skip
      have l16 := pok_len c12 (Ih9.atR (a := 60) (j := 33) rfl).1
      refine to_iload_n (dat dk_X12_findParts 70 rfl) rfl (to_iconst (dat dk_X12_findParts 71 rfl) ?_)
      refine to_ieq 141 (dat dk_X12_findParts 72 rfl) rfl ry7 (by decide) (fun c17 => ?_) (fun c17 => ?_)
      · skip
        exact to_vret rfl (dat dk_X12_findParts 77 rfl) (rv_mk ⟨Ih9, fh9, (show psum h9 ≤ g - f by omega), c12⟩)
      · skip
        refine to_aload_n (dat dk_X12_findParts 73 rfl) rfl (to_iload_n (dat dk_X12_findParts 74 rfl) rfl (to_iload_n (dat dk_X12_findParts 75 rfl) rfl ?_))
        obtain ⟨x18, ex18⟩ : ∃ y : Int, h9.2.2 60 33 = y := ⟨_, rfl⟩
        have rx18 := Ih9.atR (a := 60) (j := 33) rfl
        rw [ex18] at rx18
        refine to_cV ca_c13_247 (dat dk_X12_findParts 76 rfl) (ct_X12_addPart_vb l h9 Ih9 y7 ry7 g hg (show 0 ≤ y7 ∧ y7 ≤ 240000 by omega) (show 0 ≤ g ∧ g ≤ 240000 by omega) (show h9.2.2 60 33 ≤ 1299 by omega) (show y7 ≤ g by omega) c12) rfl ⟨_, _, rfl, (Ih9.atS rfl)⟩ rfl (fun h20 p21 => ?_)
        obtain ⟨Ih20, fh20, p21_0, p21_1, p21_2⟩ := p21
        have f22 : Fr [81, 82, 233] h h20 := Fr.sub fh9 fh20 (sub_self _)
        obtain ⟨x23, ex23⟩ : ∃ y : Int, h20.2.2 60 33 = y := ⟨_, rfl⟩
        have rx23 := Ih20.atR (a := 60) (j := 33) rfl
        rw [ex23] at rx23
        exact to_vret rfl (dat dk_X12_findParts 77 rfl) (rv_mk ⟨Ih20, f22, (show psum h20 ≤ g - f by omega), p21_2⟩)
    · skip
      refine to_aload_n (dat dk_X12_findParts 10 rfl) rfl ?_
      have l24 := pok_len c12 (Ih9.atR (a := 60) (j := 33) rfl).1
      refine to_getR 63 g_c13_17 (dat dk_X12_findParts 11 rfl) (Ih9.atS rfl) (Ih9.atE rfl) (to_iload (dat dk_X12_findParts 12 rfl) rfl (to_iload_n (dat dk_X12_findParts 13 rfl) rfl ?_))
      refine to_cI ca_c13_174 (dat dk_X12_findParts 14 rfl) (ct_X12_lineEnd l h9 Ih9 63 240000 rfl y8 ry8 g hg (show 0 ≤ y8 by omega) (show g ≤ (240000 : Int) by omega)) rfl trivial rfl (fun x25 h26 rx25 p27 => ?_)
      obtain ⟨rfl, p27_0, p27_1⟩ := p27
      refine to_istore (L' := [(0, .inr (.inr 60)), (1, .inl f), (2, .inl g), (3, .inl y7), (4, .inl y8), (5, .inl x25)]) (dat dk_X12_findParts 15 rfl) (by decide) rfl ?_
      have jn42_n30 : ∀ (y28 : Int), (I32 y28) → ((x25 < g ∧ y28 = x25 + 1) ∨ (g ≤ x25 ∧ y28 = g)) → To l E_X12_findParts (42, [(0, .inr (.inr 60)), (1, .inl f), (2, .inl g), (3, .inl y7), (4, .inl y8), (5, .inl x25)], [.inl y28], h9, 0, 0) (Q_X12_findParts_vb h f g) := by
        intro y28 ry28 c29
        refine to_istore (L' := [(0, .inr (.inr 60)), (1, .inl f), (2, .inl g), (3, .inl y7), (4, .inl y8), (5, .inl x25), (6, .inl y28)]) (dat dk_X12_findParts 24 rfl) (by decide) rfl (to_aload_n (dat dk_X12_findParts 25 rfl) rfl (to_iload (dat dk_X12_findParts 26 rfl) rfl (to_aload_n (dat dk_X12_findParts 27 rfl) rfl (to_getR 63 g_c13_17 (dat dk_X12_findParts 28 rfl) (Ih9.atS rfl) (Ih9.atE rfl) (to_iload (dat dk_X12_findParts 29 rfl) rfl (to_iload (dat dk_X12_findParts 30 rfl) rfl (to_iload_n (dat dk_X12_findParts 31 rfl) rfl ?_)))))))
        refine to_cI ca_c13_178 (dat dk_X12_findParts 32 rfl) (ct_X12_textEnd l h9 Ih9 63 240000 rfl y8 ry8 x25 rx25 g hg (show 0 ≤ y8 by omega) (show g ≤ (240000 : Int) by omega)) rfl trivial rfl (fun x31 h32 rx31 p33 => ?_)
        obtain ⟨rfl, p33_0, p33_1⟩ := p33
        have e34 : h9.2.2 60 28 = x1 := ((Fr.get fh9 (by have := hI.1.1; omega) rfl).trans ex1)
        refine to_cI ca_c13_243 (dat dk_X12_findParts 33 rfl) (ct_X12_mark_vb l h9 Ih9 y8 ry8 x31 rx31 (show 0 ≤ y8 ∧ y8 ≤ x31 by omega) (show x31 ≤ 240000 by omega)) rfl ⟨_, _, rfl, (Ih9.atS rfl)⟩ rfl (fun x35 h36 rx35 p37 => ?_)
        obtain ⟨rfl, p37_0, p37_1⟩ := p37
        refine to_istore (L' := [(0, .inr (.inr 60)), (1, .inl f), (2, .inl g), (3, .inl y7), (4, .inl y8), (5, .inl x25), (6, .inl y28), (7, .inl x35)]) (dat dk_X12_findParts 34 rfl) (by decide) rfl ?_
        have jn103_n41 : ∀ (h38 : Hp), (Inv h38) → (Fr [81, 82, 233] h h38) → ((x35 = 0 ∧ ((y7 = -1 ∧ psum h38 ≤ y8 - f) ∨ (f + 3 ≤ y7 ∧ y7 ≤ y8 ∧ psum h38 + 3 ≤ y7 - f))) ∨ (1 ≤ x35 ∧ psum h38 ≤ y8 - f ∧ y8 + 3 ≤ y28)) → (Pok h38) → To l E_X12_findParts (103, [(0, .inr (.inr 60)), (1, .inl f), (2, .inl g), (3, .inl y7), (4, .inl y8), (5, .inl x25), (6, .inl y28), (7, .inl x35)], [], h38, 0, 0) (Q_X12_findParts_vb h f g) := by
          intro h38 Ih38 fh38 c39 c40
          refine to_iload (dat dk_X12_findParts 56 rfl) rfl (to_iconst (dat dk_X12_findParts 57 rfl) ?_)
          refine to_ine 110 (dat dk_X12_findParts 58 rfl) rfl rx35 (by decide) (fun c42 => ?_) (fun c42 => ?_)
          · skip
            have jn122_n45 : ∀ (y43 : Int), (I32 y43) → ((x35 = 1 ∧ y43 = y28) ∨ (x35 ≠ 1 ∧ y43 = y7)) → To l E_X12_findParts (122, [(0, .inr (.inr 60)), (1, .inl f), (2, .inl g), (3, .inl y7), (4, .inl y8), (5, .inl x25), (6, .inl y28), (7, .inl x35)], [.inl y43], h38, 0, 0) (Q_X12_findParts_vb h f g) := by
              intro y43 ry43 c44
              refine to_istore_n (L' := [(0, .inr (.inr 60)), (1, .inl f), (2, .inl g), (3, .inl y43), (4, .inl y8), (5, .inl x25), (6, .inl y28), (7, .inl x35)]) (dat dk_X12_findParts 66 rfl) (by decide) rfl (to_iload (dat dk_X12_findParts 67 rfl) rfl (to_istore (L' := [(0, .inr (.inr 60)), (1, .inl f), (2, .inl g), (3, .inl y43), (4, .inl y28), (5, .inl x25), (6, .inl y28), (7, .inl x35)]) (dat dk_X12_findParts 68 rfl) (by decide) rfl (to_goto (dat dk_X12_findParts 69 rfl) rfl ?_)))
              refine to_pick [0, 1, 2, 3, 4] rfl ?_
              exact ihn13 (n13 - 1) (by omega) y43 y28 h38 ry43 ry28 Ih38 fh38 (show f ≤ y28 ∧ y28 ≤ g by omega) (show (y43 = -1 ∧ psum h38 ≤ y28 - f) ∨ (f + 3 ≤ y43 ∧ y43 ≤ y28 ∧ psum h38 + 3 ≤ y43 - f) by omega) c40 (show g - y28 ≤ ((n13 - 1 : Nat) : Int) by omega)
            refine to_iload (dat dk_X12_findParts 60 rfl) rfl (to_iconst (dat dk_X12_findParts 61 rfl) ?_)
            refine to_ine 121 (dat dk_X12_findParts 62 rfl) rfl rx35 (by decide) (fun c46 => ?_) (fun c46 => ?_)
            · skip
              refine to_iload_n (dat dk_X12_findParts 65 rfl) rfl ?_
              exact jn122_n45 y7 ry7 (show (x35 = 1 ∧ y7 = y28) ∨ (x35 ≠ 1 ∧ y7 = y7) by omega)
            · skip
              refine to_iload (dat dk_X12_findParts 63 rfl) rfl (to_goto (dat dk_X12_findParts 64 rfl) rfl ?_)
              exact jn122_n45 y28 ry28 (show (x35 = 1 ∧ y28 = y28) ∨ (x35 ≠ 1 ∧ y28 = y7) by omega)
          · skip
            exact to_vret rfl (dat dk_X12_findParts 59 rfl) (rv_mk ⟨Ih38, fh38, (show psum h38 ≤ g - f by omega), c40⟩)
        refine to_iload (dat dk_X12_findParts 35 rfl) rfl ?_
        refine to_ifle 103 (dat dk_X12_findParts 36 rfl) rfl rx35 (fun c47 => ?_) (fun c47 => ?_)
        · skip
          exact jn103_n41 h9 Ih9 fh9 (show (x35 = 0 ∧ ((y7 = -1 ∧ psum h9 ≤ y8 - f) ∨ (f + 3 ≤ y7 ∧ y7 ≤ y8 ∧ psum h9 + 3 ≤ y7 - f))) ∨ (1 ≤ x35 ∧ psum h9 ≤ y8 - f ∧ y8 + 3 ≤ y28) by omega) c12
        · skip
          refine to_iload_n (dat dk_X12_findParts 37 rfl) rfl (to_iconst (dat dk_X12_findParts 38 rfl) ?_)
          refine to_ieq 103 (dat dk_X12_findParts 39 rfl) rfl ry7 (by decide) (fun c48 => ?_) (fun c48 => ?_)
          · skip
            exact jn103_n41 h9 Ih9 fh9 (show (x35 = 0 ∧ ((y7 = -1 ∧ psum h9 ≤ y8 - f) ∨ (f + 3 ≤ y7 ∧ y7 ≤ y8 ∧ psum h9 + 3 ≤ y7 - f))) ∨ (1 ≤ x35 ∧ psum h9 ≤ y8 - f ∧ y8 + 3 ≤ y28) by omega) c12
          · skip
            refine to_aload_n (dat dk_X12_findParts 40 rfl) rfl (to_iload_n (dat dk_X12_findParts 41 rfl) rfl (to_iload (dat dk_X12_findParts 42 rfl) rfl (to_iload_n (dat dk_X12_findParts 43 rfl) rfl ?_)))
            refine to_ile 99 (dat dk_X12_findParts 44 rfl) rfl ry8 ry7 (fun c49 => ?_) (fun c49 => ?_)
            · skip
              refine to_iload_n (dat dk_X12_findParts 54 rfl) rfl ?_
              have l50 := pok_len c12 (Ih9.atR (a := 60) (j := 33) rfl).1
              obtain ⟨x51, ex51⟩ : ∃ y : Int, h9.2.2 60 33 = y := ⟨_, rfl⟩
              have rx51 := Ih9.atR (a := 60) (j := 33) rfl
              rw [ex51] at rx51
              refine to_cV ca_c13_247 (dat dk_X12_findParts 55 rfl) (ct_X12_addPart_vb l h9 Ih9 y7 ry7 y7 ry7 (show 0 ≤ y7 ∧ y7 ≤ 240000 by omega) (show 0 ≤ y7 ∧ y7 ≤ 240000 by omega) (show h9.2.2 60 33 ≤ 1299 by omega) (show y7 ≤ y7 by omega) c12) rfl ⟨_, _, rfl, (Ih9.atS rfl)⟩ rfl (fun h53 p54 => ?_)
              obtain ⟨Ih53, fh53, p54_0, p54_1, p54_2⟩ := p54
              have f55 : Fr [81, 82, 233] h h53 := Fr.sub fh9 fh53 (sub_self _)
              obtain ⟨x56, ex56⟩ : ∃ y : Int, h53.2.2 60 33 = y := ⟨_, rfl⟩
              have rx56 := Ih53.atR (a := 60) (j := 33) rfl
              rw [ex56] at rx56
              exact jn103_n41 h53 Ih53 f55 (show (x35 = 0 ∧ ((y7 = -1 ∧ psum h53 ≤ y8 - f) ∨ (f + 3 ≤ y7 ∧ y7 ≤ y8 ∧ psum h53 + 3 ≤ y7 - f))) ∨ (1 ≤ x35 ∧ psum h53 ≤ y8 - f ∧ y8 + 3 ≤ y28) by omega) p54_2
            · skip
              refine to_aload_n (dat dk_X12_findParts 45 rfl) rfl (to_getR 63 g_c13_17 (dat dk_X12_findParts 46 rfl) (Ih9.atS rfl) (Ih9.atE rfl) (to_iload_n (dat dk_X12_findParts 47 rfl) rfl (to_iload (dat dk_X12_findParts 48 rfl) rfl (to_iconst (dat dk_X12_findParts 49 rfl) (to_isub (dat dk_X12_findParts 50 rfl) (to_iload (dat dk_X12_findParts 51 rfl) rfl ?_))))))
              refine to_cI ca_c13_178 (dat dk_X12_findParts 52 rfl) (ct_X12_textEnd l h9 Ih9 63 240000 rfl y7 ry7 (y8 - 1) (by omega) y8 ry8 (show 0 ≤ y7 by omega) (show y8 ≤ (240000 : Int) by omega)) rfl trivial rfl (fun x57 h58 rx57 p59 => ?_)
              obtain ⟨rfl, p59_0, p59_1⟩ := p59
              refine to_goto (dat dk_X12_findParts 53 rfl) rfl ?_
              have l60 := pok_len c12 (Ih9.atR (a := 60) (j := 33) rfl).1
              obtain ⟨x61, ex61⟩ : ∃ y : Int, h9.2.2 60 33 = y := ⟨_, rfl⟩
              have rx61 := Ih9.atR (a := 60) (j := 33) rfl
              rw [ex61] at rx61
              refine to_cV ca_c13_247 (dat dk_X12_findParts 55 rfl) (ct_X12_addPart_vb l h9 Ih9 y7 ry7 x57 rx57 (show 0 ≤ y7 ∧ y7 ≤ 240000 by omega) (show 0 ≤ x57 ∧ x57 ≤ 240000 by omega) (show h9.2.2 60 33 ≤ 1299 by omega) (show y7 ≤ x57 by omega) c12) rfl ⟨_, _, rfl, (Ih9.atS rfl)⟩ rfl (fun h63 p64 => ?_)
              obtain ⟨Ih63, fh63, p64_0, p64_1, p64_2⟩ := p64
              have f65 : Fr [81, 82, 233] h h63 := Fr.sub fh9 fh63 (sub_self _)
              obtain ⟨x66, ex66⟩ : ∃ y : Int, h63.2.2 60 33 = y := ⟨_, rfl⟩
              have rx66 := Ih63.atR (a := 60) (j := 33) rfl
              rw [ex66] at rx66
              exact jn103_n41 h63 Ih63 f65 (show (x35 = 0 ∧ ((y7 = -1 ∧ psum h63 ≤ y8 - f) ∨ (f + 3 ≤ y7 ∧ y7 ≤ y8 ∧ psum h63 + 3 ≤ y7 - f))) ∨ (1 ≤ x35 ∧ psum h63 ≤ y8 - f ∧ y8 + 3 ≤ y28) by omega) p64_2
      refine to_iload (dat dk_X12_findParts 16 rfl) rfl (to_iload_n (dat dk_X12_findParts 17 rfl) rfl ?_)
      refine to_ige 41 (dat dk_X12_findParts 18 rfl) rfl rx25 hg (fun c67 => ?_) (fun c67 => ?_)
      · skip
        refine to_iload_n (dat dk_X12_findParts 23 rfl) rfl ?_
        exact jn42_n30 g hg (show (x25 < g ∧ g = x25 + 1) ∨ (g ≤ x25 ∧ g = g) by omega)
      · skip
        refine to_iload (dat dk_X12_findParts 19 rfl) rfl (to_iconst (dat dk_X12_findParts 20 rfl) (to_iadd (dat dk_X12_findParts 21 rfl) (to_goto (dat dk_X12_findParts 22 rfl) rfl ?_)))
        exact jn42_n30 (x25 + 1) (by omega) (show (x25 < g ∧ (x25 + 1) = x25 + 1) ∨ (g ≤ x25 ∧ (x25 + 1) = g) by omega)
  exact lp10_n13 (g - f).toNat (-1) f h4 (by decide) hf I2 f3 (show f ≤ f ∧ f ≤ g by omega) (show ((-1 : Int) = -1 ∧ psum h4 ≤ f - f) ∨ (f + 3 ≤ (-1 : Int) ∧ (-1 : Int) ≤ f ∧ psum h4 + 3 ≤ (-1 : Int) - f) by omega) z6 (by omega)
