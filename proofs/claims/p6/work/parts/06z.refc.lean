/-! Contracts, by program. -/
abbrev Q_X12_addDifferent (h : Hp) (a : Nat) (f : Int) (n : Int) : Option V → Hp → Nat → Nat → Prop := RV (fun H => Inv H ∧ Fr [103, 104, 267] h H ∧ (h.2.2 60 67 ≤ H.2.2 60 67 ∧ H.2.2 60 67 ≤ h.2.2 60 67 + 1))
set_option maxRecDepth 100000 in
theorem ct_X12_addDifferent (l : Launch) (h : Hp) (hI : Inv h) (a : Nat) (na : Nat) (ha : isA a na = true) (f : Int) (hf : I32 f) (n : Int) (hn : I32 n) (g0 : 0 ≤ f) (g1 : 0 ≤ n ∧ n ≤ 16) (g2 : f + n ≤ (na : Int)) (g3 : h.2.2 60 67 ≤ 39999) : Ct l D_X12_addDifferent 0 0 [.inr (.inr 60), .inr (.inr a), .inl f, .inl n] h (Q_X12_addDifferent h a f n) := by
  refine ct_of pn_X12_addDifferent (Nat.le_of_ble_eq_true rfl) ?_
  show To l E_X12_addDifferent (0, [(0, .inr (.inr 60)), (1, .inr (.inr a)), (2, .inl f), (3, .inl n)], [], h, 0, 0) _
  have la := isA_le ha
  obtain ⟨x1, ex1⟩ : ∃ y : Int, h.2.2 60 67 = y := ⟨_, rfl⟩
  have rx1 := hI.atR (a := 60) (j := 67) rfl
  rw [ex1] at rx1
  refine to_iconst (dat dk_X12_addDifferent 0 rfl) (to_istore (L' := [(0, .inr (.inr 60)), (1, .inr (.inr a)), (2, .inl f), (3, .inl n), (4, .inl 0)]) (dat dk_X12_addDifferent 1 rfl) (by decide) rfl ?_)
  have lp3_n4 : ∀ (n4 : Nat) (y2 : Int), (I32 y2) → (0 ≤ y2) → (h.2.2 60 67 - y2 ≤ (n4 : Int)) → To l E_X12_addDifferent (3, [(0, .inr (.inr 60)), (1, .inr (.inr a)), (2, .inl f), (3, .inl n), (4, .inl y2)], [], h, 0, 0) (Q_X12_addDifferent h a f n) := by
    intro n4
    induction n4 using Nat.strongRecOn with
    | _ n4 ihn4 =>
    intro y2 ry2 c3 c5
    refine to_iload (dat dk_X12_addDifferent 2 rfl) rfl (to_aload_n (dat dk_X12_addDifferent 3 rfl) rfl (to_getIv (y := x1) ex1 g_c13_536 (dat dk_X12_addDifferent 4 rfl) (hI.atS rfl) ?_))
    refine to_ige 91 (dat dk_X12_addDifferent 5 rfl) rfl ry2 (by omega) (fun c6 => ?_) (fun c6 => ?_)
    · skip
      refine to_iconst (dat dk_X12_addDifferent 48 rfl) (to_istore (L' := [(0, .inr (.inr 60)), (1, .inr (.inr a)), (2, .inl f), (3, .inl n), (4, .inl 0)]) (dat dk_X12_addDifferent 49 rfl) (by decide) rfl ?_)
      have lp94_n11 : ∀ (n11 : Nat) (y7 : Int) (h8 : Hp), (I32 y7) → (Inv h8) → (Fr [103, 104, 267] h h8) → (0 ≤ y7) → (h8.2.2 60 67 = h.2.2 60 67) → (n - y7 ≤ (n11 : Int)) → To l E_X12_addDifferent (94, [(0, .inr (.inr 60)), (1, .inr (.inr a)), (2, .inl f), (3, .inl n), (4, .inl y7)], [], h8, 0, 0) (Q_X12_addDifferent h a f n) := by
        intro n11
        induction n11 using Nat.strongRecOn with
        | _ n11 ihn11 =>
        intro y7 h8 ry7 Ih8 fh8 c9 c10 c12
        obtain ⟨x13, ex13⟩ : ∃ y : Int, h8.2.2 60 67 = y := ⟨_, rfl⟩
        have rx13 := Ih8.atR (a := 60) (j := 67) rfl
        rw [ex13] at rx13
        refine to_iload (dat dk_X12_addDifferent 50 rfl) rfl (to_iload_n (dat dk_X12_addDifferent 51 rfl) rfl ?_)
        refine to_ige 127 (dat dk_X12_addDifferent 52 rfl) rfl ry7 hn (fun c14 => ?_) (fun c14 => ?_)
        · skip
          refine to_aload_n (dat dk_X12_addDifferent 69 rfl) rfl (to_getR 104 g_c13_151 (dat dk_X12_addDifferent 70 rfl) (Ih8.atS rfl) (Ih8.atE rfl) (to_aload_n (dat dk_X12_addDifferent 71 rfl) rfl (to_getIv (y := x13) ex13 g_c13_536 (dat dk_X12_addDifferent 72 rfl) (Ih8.atS rfl) (to_iload_n (dat dk_X12_addDifferent 73 rfl) rfl (to_iastw (dat dk_X12_addDifferent 74 rfl) (Ih8.atS rfl) rfl (by decide) (by omega) ?_)))))
          intro h17 wh17
          have I15 : Inv h17 := by rw [wh17]; exact Ih8.put (a := 104) (j := (Int.toNat x13)) (x := n) (0) (16) rfl rfl (show (0 : Int) ≤ n ∧ n ≤ 16 by omega)
          have f16 : Fr [103, 104, 267] h h17 := by rw [wh17]; exact Fr.putF (a := 104) (j := (Int.toNat x13)) (x := n) fh8 rfl
          refine to_aload_n (dat dk_X12_addDifferent 75 rfl) rfl (to_dup (dat dk_X12_addDifferent 76 rfl) rfl (to_getIv (y := x13) (by rw [wh17]; exact ex13) g_c13_536 (dat dk_X12_addDifferent 77 rfl) (I15.atS rfl) (to_iconst (dat dk_X12_addDifferent 78 rfl) (to_iadd (dat dk_X12_addDifferent 79 rfl) (to_putIw p_c13_536 (dat dk_X12_addDifferent 80 rfl) (I15.atS rfl) ?_)))))
          intro h20 wh20
          have I18 : Inv h20 := by rw [wh20]; exact I15.put (a := 60) (j := 67) (x := (x13 + 1)) (0) (40000) rfl rfl (show (0 : Int) ≤ (x13 + 1) ∧ (x13 + 1) ≤ 40000 by omega)
          have f19 : Fr [103, 104, 267] h h20 := by rw [wh20]; exact Fr.putF (a := 60) (j := 67) (x := (x13 + 1)) f16 rfl
          have e21 : h20.2.2 60 67 = (x13 + 1) := (by rw [wh20]; exact wr_eq)
          exact to_vret rfl (dat dk_X12_addDifferent 81 rfl) (rv_mk ⟨I18, f19, (show h.2.2 60 67 ≤ h20.2.2 60 67 ∧ h20.2.2 60 67 ≤ h.2.2 60 67 + 1 by omega)⟩)
        · skip
          refine to_aload_n (dat dk_X12_addDifferent 53 rfl) rfl (to_getR 103 g_c13_147 (dat dk_X12_addDifferent 54 rfl) (Ih8.atS rfl) (Ih8.atE rfl) (to_bipush (dat dk_X12_addDifferent 55 rfl) (by decide) (to_aload_n (dat dk_X12_addDifferent 56 rfl) rfl (to_getIv (y := x13) ex13 g_c13_536 (dat dk_X12_addDifferent 57 rfl) (Ih8.atS rfl) (to_imul (dat dk_X12_addDifferent 58 rfl) (to_iload (dat dk_X12_addDifferent 59 rfl) rfl (to_iadd (dat dk_X12_addDifferent 60 rfl) (to_aload_np (dat dk_X12_addDifferent 61 rfl) (Ih8.posN (Ih8.aT ha)) rfl (to_iload_n (dat dk_X12_addDifferent 62 rfl) rfl (to_iload (dat dk_X12_addDifferent 63 rfl) rfl (to_iadd (dat dk_X12_addDifferent 64 rfl) ?_)))))))))))
          obtain ⟨x22, ex22⟩ : ∃ y : Int, h8.2.2 a (Int.toNat (f + y7)) = y := ⟨_, rfl⟩
          have rx22 := Ih8.aC (j := Int.toNat (f + y7)) ha
          rw [ex22] at rx22
          refine to_baldv (q := 1) ex22 (dat dk_X12_addDifferent 65 rfl) (by decide) (Ih8.aT ha) rfl (isA_n ha) (by omega) (to_bastw (dat dk_X12_addDifferent 66 rfl) (Ih8.atS rfl) rfl (by decide) (by omega) ?_)
          intro h25 wh25
          have I23 : Inv h25 := by rw [wh25]; exact Ih8.put (a := 103) (j := (Int.toNat ((16 * x13) + y7))) (x := (b8 x22)) (-128) (127) rfl rfl (show (-128 : Int) ≤ (b8 x22) ∧ (b8 x22) ≤ 127 by have := b8_in x22; omega)
          have f24 : Fr [103, 104, 267] h h25 := by rw [wh25]; exact Fr.putF (a := 103) (j := (Int.toNat ((16 * x13) + y7))) (x := (b8 x22)) fh8 rfl
          refine to_iinc (L' := [(0, .inr (.inr 60)), (1, .inr (.inr a)), (2, .inl f), (3, .inl n), (4, .inl (y7 + 1))]) (dat dk_X12_addDifferent 67 rfl) rfl (by decide) rfl (to_goto (dat dk_X12_addDifferent 68 rfl) rfl ?_)
          have e26 : h25.2.2 60 67 = x13 := (by rw [wh25]; exact ex13)
          exact ihn11 (n11 - 1) (by omega) (y7 + 1) h25 (by omega) I23 f24 (show 0 ≤ (y7 + 1) by omega) (show h25.2.2 60 67 = h.2.2 60 67 by omega) (show n - (y7 + 1) ≤ ((n11 - 1 : Nat) : Int) by omega)
      exact lp94_n11 (n - (0 : Int)).toNat 0 h (by decide) hI (Fr.rf _ _) (show 0 ≤ (0 : Int) by omega) (show h.2.2 60 67 = h.2.2 60 67 by omega) (by omega)
    · skip
      have jn28_n28 : ∀ (y27 : Int), (y27 = 0 ∨ y27 = 1) → To l E_X12_addDifferent (28, [(0, .inr (.inr 60)), (1, .inr (.inr a)), (2, .inl f), (3, .inl n), (4, .inl y2)], [.inl y27], h, 0, 0) (Q_X12_addDifferent h a f n) := by
        intro y27 ry27
        refine to_istore (L' := [(0, .inr (.inr 60)), (1, .inr (.inr a)), (2, .inl f), (3, .inl n), (4, .inl y2), (5, .inl y27)]) (dat dk_X12_addDifferent 15 rfl) (by decide) rfl (to_iconst (dat dk_X12_addDifferent 16 rfl) (to_istore (L' := [(0, .inr (.inr 60)), (1, .inr (.inr a)), (2, .inl f), (3, .inl n), (4, .inl y2), (5, .inl y27), (6, .inl 0)]) (dat dk_X12_addDifferent 17 rfl) (by decide) rfl ?_))
        have lp33_n32 : ∀ (n32 : Nat) (y29 : Int) (y30 : Int), (y29 = 0 ∨ y29 = 1) → (I32 y30) → (0 ≤ y30) → (n - y30 ≤ (n32 : Int)) → To l E_X12_addDifferent (33, [(0, .inr (.inr 60)), (1, .inr (.inr a)), (2, .inl f), (3, .inl n), (4, .inl y2), (5, .inl y29), (6, .inl y30)], [], h, 0, 0) (Q_X12_addDifferent h a f n) := by
          intro n32
          induction n32 using Nat.strongRecOn with
          | _ n32 ihn32 =>
          intro y29 y30 ry29 ry30 c31 c33
          refine to_iload (dat dk_X12_addDifferent 18 rfl) rfl (to_iload_n (dat dk_X12_addDifferent 19 rfl) rfl ?_)
          refine to_ige 79 (dat dk_X12_addDifferent 20 rfl) rfl ry30 hn (fun c34 => ?_) (fun c34 => ?_)
          · skip
            refine to_iload (dat dk_X12_addDifferent 43 rfl) rfl ?_
            refine to_ifeq 85 (dat dk_X12_addDifferent 44 rfl) rfl (by omega) (fun c35 => ?_) (fun c35 => ?_)
            · skip
              refine to_iinc (L' := [(0, .inr (.inr 60)), (1, .inr (.inr a)), (2, .inl f), (3, .inl n), (4, .inl (y2 + 1)), (5, .inl y29), (6, .inl y30)]) (dat dk_X12_addDifferent 46 rfl) rfl (by decide) rfl (to_goto (dat dk_X12_addDifferent 47 rfl) rfl ?_)
              refine to_pick [0, 1, 2, 3, 4] rfl ?_
              exact ihn4 (n4 - 1) (by omega) (y2 + 1) (by omega) (show 0 ≤ (y2 + 1) by omega) (show h.2.2 60 67 - (y2 + 1) ≤ ((n4 - 1 : Nat) : Int) by omega)
            · skip
              exact to_vret rfl (dat dk_X12_addDifferent 45 rfl) (rv_mk ⟨hI, (Fr.rf _ _), (show h.2.2 60 67 ≤ h.2.2 60 67 ∧ h.2.2 60 67 ≤ h.2.2 60 67 + 1 by omega)⟩)
          · skip
            refine to_iload (dat dk_X12_addDifferent 21 rfl) rfl ?_
            refine to_ifeq 79 (dat dk_X12_addDifferent 22 rfl) rfl (by omega) (fun c36 => ?_) (fun c36 => ?_)
            · skip
              refine to_iload (dat dk_X12_addDifferent 43 rfl) rfl ?_
              refine to_ifeq 85 (dat dk_X12_addDifferent 44 rfl) rfl (by omega) (fun c37 => ?_) (fun c37 => ?_)
              · skip
                refine to_iinc (L' := [(0, .inr (.inr 60)), (1, .inr (.inr a)), (2, .inl f), (3, .inl n), (4, .inl (y2 + 1)), (5, .inl y29), (6, .inl y30)]) (dat dk_X12_addDifferent 46 rfl) rfl (by decide) rfl (to_goto (dat dk_X12_addDifferent 47 rfl) rfl ?_)
                refine to_pick [0, 1, 2, 3, 4] rfl ?_
                exact ihn4 (n4 - 1) (by omega) (y2 + 1) (by omega) (show 0 ≤ (y2 + 1) by omega) (show h.2.2 60 67 - (y2 + 1) ≤ ((n4 - 1 : Nat) : Int) by omega)
              · skip
                exact to_vret rfl (dat dk_X12_addDifferent 45 rfl) (rv_mk ⟨hI, (Fr.rf _ _), (show h.2.2 60 67 ≤ h.2.2 60 67 ∧ h.2.2 60 67 ≤ h.2.2 60 67 + 1 by omega)⟩)
            · skip
              have jn71_n39 : ∀ (y38 : Int), (y38 = 0 ∨ y38 = 1) → To l E_X12_addDifferent (71, [(0, .inr (.inr 60)), (1, .inr (.inr a)), (2, .inl f), (3, .inl n), (4, .inl y2), (5, .inl y29), (6, .inl y30)], [.inl y38], h, 0, 0) (Q_X12_addDifferent h a f n) := by
                intro y38 ry38
                refine to_istore (L' := [(0, .inr (.inr 60)), (1, .inr (.inr a)), (2, .inl f), (3, .inl n), (4, .inl y2), (5, .inl y38), (6, .inl y30)]) (dat dk_X12_addDifferent 40 rfl) (by decide) rfl (to_iinc (L' := [(0, .inr (.inr 60)), (1, .inr (.inr a)), (2, .inl f), (3, .inl n), (4, .inl y2), (5, .inl y38), (6, .inl (y30 + 1))]) (dat dk_X12_addDifferent 41 rfl) rfl (by decide) rfl (to_goto (dat dk_X12_addDifferent 42 rfl) rfl ?_))
                exact ihn32 (n32 - 1) (by omega) y38 (y30 + 1) (by omega) (by omega) (show 0 ≤ (y30 + 1) by omega) (show n - (y30 + 1) ≤ ((n32 - 1 : Nat) : Int) by omega)
              refine to_aload_n (dat dk_X12_addDifferent 23 rfl) rfl (to_getR 103 g_c13_147 (dat dk_X12_addDifferent 24 rfl) (hI.atS rfl) (hI.atE rfl) (to_bipush (dat dk_X12_addDifferent 25 rfl) (by decide) (to_iload (dat dk_X12_addDifferent 26 rfl) rfl (to_imul (dat dk_X12_addDifferent 27 rfl) (to_iload (dat dk_X12_addDifferent 28 rfl) rfl (to_iadd (dat dk_X12_addDifferent 29 rfl) ?_))))))
              obtain ⟨x40, ex40⟩ : ∃ y : Int, h.2.2 103 (Int.toNat ((16 * y2) + y30)) = y := ⟨_, rfl⟩
              have rx40 := hI.atR (a := 103) (j := Int.toNat ((16 * y2) + y30)) rfl
              rw [ex40] at rx40
              refine to_baldv (q := 1) ex40 (dat dk_X12_addDifferent 30 rfl) (by decide) (hI.atS rfl) rfl (by decide) (by omega) (to_aload_np (dat dk_X12_addDifferent 31 rfl) (hI.posN (hI.aT ha)) rfl (to_iload_n (dat dk_X12_addDifferent 32 rfl) rfl (to_iload (dat dk_X12_addDifferent 33 rfl) rfl (to_iadd (dat dk_X12_addDifferent 34 rfl) ?_))))
              obtain ⟨x41, ex41⟩ : ∃ y : Int, h.2.2 a (Int.toNat (f + y30)) = y := ⟨_, rfl⟩
              have rx41 := hI.aC (j := Int.toNat (f + y30)) ha
              rw [ex41] at rx41
              refine to_baldv (q := 1) ex41 (dat dk_X12_addDifferent 35 rfl) (by decide) (hI.aT ha) rfl (isA_n ha) (by omega) ?_
              refine to_ine 70 (dat dk_X12_addDifferent 36 rfl) rfl (by omega) (by omega) (fun c42 => ?_) (fun c42 => ?_)
              · skip
                refine to_iconst (dat dk_X12_addDifferent 39 rfl) ?_
                exact jn71_n39 0 (by decide)
              · skip
                refine to_iconst (dat dk_X12_addDifferent 37 rfl) (to_goto (dat dk_X12_addDifferent 38 rfl) rfl ?_)
                exact jn71_n39 1 (by decide)
        exact lp33_n32 (n - (0 : Int)).toNat y27 0 (by omega) (by decide) (show 0 ≤ (0 : Int) by omega) (by omega)
      refine to_aload_n (dat dk_X12_addDifferent 6 rfl) rfl (to_getR 104 g_c13_151 (dat dk_X12_addDifferent 7 rfl) (hI.atS rfl) (hI.atE rfl) (to_iload (dat dk_X12_addDifferent 8 rfl) rfl ?_))
      obtain ⟨x43, ex43⟩ : ∃ y : Int, h.2.2 104 (Int.toNat y2) = y := ⟨_, rfl⟩
      have rx43 := hI.atR (a := 104) (j := Int.toNat y2) rfl
      rw [ex43] at rx43
      refine to_ialdv ex43 (dat dk_X12_addDifferent 9 rfl) (hI.atS rfl) rfl (by decide) (by omega) (to_iload_n (dat dk_X12_addDifferent 10 rfl) rfl ?_)
      refine to_ine 27 (dat dk_X12_addDifferent 11 rfl) rfl (by omega) hn (fun c44 => ?_) (fun c44 => ?_)
      · skip
        refine to_iconst (dat dk_X12_addDifferent 14 rfl) ?_
        exact jn28_n28 0 (by decide)
      · skip
        refine to_iconst (dat dk_X12_addDifferent 12 rfl) (to_goto (dat dk_X12_addDifferent 13 rfl) rfl ?_)
        exact jn28_n28 1 (by decide)
  exact lp3_n4 (h.2.2 60 67 - (0 : Int)).toNat 0 (by decide) (show 0 ≤ (0 : Int) by omega) (by omega)
