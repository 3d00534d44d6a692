/-! Contracts, by program. -/
abbrev Q_X12_refuse_vx (h : Hp) (p : Int) : Option V → Hp → Nat → Nat → Prop := RI (fun x H => Inv H ∧ Fr [248] h H ∧ (x = 0 ∨ x = 1) ∧ (x = 0) ∧ (H.2.2 60 48 = p + 1))
set_option maxRecDepth 100000 in
theorem ct_X12_refuse_vx (l : Launch) (h : Hp) (hI : Inv h) (p : Int) (hp : I32 p) (g0 : 0 ≤ p ∧ p ≤ 1200) : Ct l D_X12_refuse 0 0 [.inr (.inr 60), .inl p] h (Q_X12_refuse_vx h p) := by
  refine ct_of pn_X12_refuse (Nat.le_of_ble_eq_true rfl) ?_
  show To l E_X12_refuse (0, [(0, .inr (.inr 60)), (1, .inl p)], [], h, 0, 0) _
  obtain ⟨x1, ex1⟩ : ∃ y : Int, h.2.2 60 48 = y := ⟨_, rfl⟩
  have rx1 := hI.atR (a := 60) (j := 48) rfl
  rw [ex1] at rx1
  refine to_aload_n (dat dk_X12_refuse 0 rfl) rfl (to_iconst (dat dk_X12_refuse 1 rfl) (to_iload_n (dat dk_X12_refuse 2 rfl) rfl (to_iadd (dat dk_X12_refuse 3 rfl) (to_putIw p_c13_391 (dat dk_X12_refuse 4 rfl) (hI.atS rfl) ?_))))
  intro h4 wh4
  have I2 : Inv h4 := by rw [wh4]; exact hI.put (a := 60) (j := 48) (x := (1 + p)) (0) (1201) rfl rfl (show (0 : Int) ≤ (1 + p) ∧ (1 + p) ≤ 1201 by omega)
  have f3 : Fr [248] h h4 := by rw [wh4]; exact Fr.putF (a := 60) (j := 48) (x := (1 + p)) (Fr.rf _ _) rfl
  refine to_iconst (dat dk_X12_refuse 5 rfl) ?_
  have e5 : h4.2.2 60 48 = (1 + p) := (by rw [wh4]; exact wr_eq)
  exact to_zret rfl (dat dk_X12_refuse 6 rfl) (by decide) (ri_mk (by decide) ⟨I2, f3, (by decide), (show (0 : Int) = 0 by omega), (show h4.2.2 60 48 = p + 1 by omega)⟩)
abbrev Q_X12_fault_vx (h : Hp) : Option V → Hp → Nat → Nat → Prop := RI (fun x H => Inv H ∧ Fr [200] h H ∧ (x = H.2.2 60 48))
set_option maxRecDepth 100000 in
theorem ct_X12_fault_vx (l : Launch) (h : Hp) (hI : Inv h)  : Ct l D_X12_fault 0 0 [.inr (.inr 60)] h (Q_X12_fault_vx h) := by
  refine ct_of pn_X12_fault (Nat.le_of_ble_eq_true rfl) ?_
  show To l E_X12_fault (0, [(0, .inr (.inr 60))], [], h, 0, 0) _
  obtain ⟨x1, ex1⟩ : ∃ y : Int, h.2.2 60 48 = y := ⟨_, rfl⟩
  have rx1 := hI.atR (a := 60) (j := 48) rfl
  rw [ex1] at rx1
  refine to_aload_n (dat dk_X12_fault 0 rfl) rfl (to_iconst (dat dk_X12_fault 1 rfl) (to_putIw p_c13_154 (dat dk_X12_fault 2 rfl) (hI.atS rfl) ?_))
  intro h4 wh4
  have I2 : Inv h4 := by rw [wh4]; exact hI.put (a := 60) (j := 0) (x := 0) (0) (3) rfl rfl (show (0 : Int) ≤ 0 ∧ 0 ≤ 3 by decide)
  have f3 : Fr [200] h h4 := by rw [wh4]; exact Fr.putF (a := 60) (j := 0) (x := 0) (Fr.rf _ _) rfl
  refine to_aload_n (dat dk_X12_fault 3 rfl) rfl (to_getIv (y := x1) (by rw [wh4]; exact ex1) g_c13_391 (dat dk_X12_fault 4 rfl) (I2.atS rfl) ?_)
  have e5 : h4.2.2 60 48 = x1 := (by rw [wh4]; exact ex1)
  exact to_iret rfl (dat dk_X12_fault 5 rfl) (ri_mk (by omega) ⟨I2, f3, (show x1 = h4.2.2 60 48 by omega)⟩)
abbrev Q_X12_isDate_vx (h : Hp) (f : Int) (g : Int) (k : Int) : Option V → Hp → Nat → Nat → Prop := RI (fun x H => Inv H ∧ Fr [93, 94] h H ∧ (x = 0 ∨ x = 1) ∧ (x = bi (datOK (hr h) (Int.toNat f) (Int.toNat g))))
set_option maxRecDepth 100000 in
theorem ct_X12_isDate_vx (l : Launch) (h : Hp) (hI : Inv h) (f : Int) (hf : I32 f) (g : Int) (hg : I32 g) (k : Int) (hk : I32 k) (g0 : 0 ≤ f ∧ f ≤ 1200) (g1 : 0 ≤ g ∧ g ≤ 1200) (g2 : 0 ≤ k ∧ k ≤ 809) : Ct l D_X12_isDate 4 90 [.inr (.inr 60), .inl f, .inl g, .inl k] h (Q_X12_isDate_vx h f g k) := by
  refine ct_of pn_X12_isDate (Nat.le_of_ble_eq_true rfl) ?_
  show To l E_X12_isDate (0, [(0, .inr (.inr 60)), (1, .inl f), (2, .inl g), (3, .inl k)], [], h, 0, 0) _
  have zh := hn_is hI
  have zD := datR (h := h) (a := Int.toNat f) (b := Int.toNat g)
  rw [show Int.toNat f + 10 = Int.toNat ((f + 8) + 2) by omega, show Int.toNat f + 9 = Int.toNat ((f + 8) + 1) by omega, show Int.toNat f + 8 = Int.toNat (f + 8) by omega, show Int.toNat f + 2 = Int.toNat (f + 2) by omega, show Int.toNat f + 1 = Int.toNat (f + 1) by omega] at zD
  refine to_iload_n (dat dk_X12_isDate 0 rfl) rfl (to_iload_n (dat dk_X12_isDate 1 rfl) rfl (to_isub (dat dk_X12_isDate 2 rfl) (to_istore (L' := [(0, .inr (.inr 60)), (1, .inl f), (2, .inl g), (3, .inl k), (4, .inl (g - f))]) (dat dk_X12_isDate 3 rfl) (by decide) rfl ?_)))
  have jn35_n3 : ∀ (y1 : Int), (y1 = 0 ∨ y1 = 1) → ((y1 = 1 ∧ (((g - f) = 10 ∧ h.2.2 88 (Int.toNat f) ≠ 46) ∨ (g - f) = 18)) ∨ (y1 = 0 ∧ (g - f) ≠ 18 ∧ ((g - f) ≠ 10 ∨ h.2.2 88 (Int.toNat f) = 46))) → To l E_X12_isDate (35, [(0, .inr (.inr 60)), (1, .inl f), (2, .inl g), (3, .inl k), (4, .inl (g - f))], [.inl y1], h, 0, 0) (Q_X12_isDate_vx h f g k) := by
    intro y1 ry1 c2
    refine to_istore (L' := [(0, .inr (.inr 60)), (1, .inl f), (2, .inl g), (3, .inl k), (4, .inl (g - f)), (5, .inl y1)]) (dat dk_X12_isDate 19 rfl) (by decide) rfl ?_
    have jn67_n6 : ∀ (y4 : Int), (y4 = 0 ∨ y4 = 1) → ((y4 = 1 ∧ (((g - f) = 10 ∧ h.2.2 88 (Int.toNat f) = 46) ∨ (g - f) = 18)) ∨ (y4 = 0 ∧ (g - f) ≠ 18 ∧ ((g - f) ≠ 10 ∨ h.2.2 88 (Int.toNat f) ≠ 46))) → To l E_X12_isDate (67, [(0, .inr (.inr 60)), (1, .inl f), (2, .inl g), (3, .inl k), (4, .inl (g - f)), (5, .inl y1)], [.inl y4], h, 0, 0) (Q_X12_isDate_vx h f g k) := by
      intro y4 ry4 c5
      refine to_istore (L' := [(0, .inr (.inr 60)), (1, .inl f), (2, .inl g), (3, .inl k), (4, .inl (g - f)), (5, .inl y1), (6, .inl y4)]) (dat dk_X12_isDate 35 rfl) (by decide) rfl (to_iload (dat dk_X12_isDate 36 rfl) rfl ?_)
      refine to_ifeq 81 (dat dk_X12_isDate 37 rfl) rfl (by omega) (fun c7 => ?_) (fun c7 => ?_)
      · skip
        refine to_iload_n (dat dk_X12_isDate 42 rfl) rfl (to_istore (L' := [(0, .inr (.inr 60)), (1, .inl f), (2, .inl g), (3, .inl k), (4, .inl (g - f)), (5, .inl y1), (6, .inl y4), (7, .inl f)]) (dat dk_X12_isDate 43 rfl) (by decide) rfl (to_iload (dat dk_X12_isDate 44 rfl) rfl ?_))
        refine to_ifne 94 (dat dk_X12_isDate 45 rfl) rfl (by omega) (fun c8 => ?_) (fun c8 => ?_)
        · skip
          refine to_aload_n (dat dk_X12_isDate 48 rfl) rfl (to_getR 88 g_c13_100 (dat dk_X12_isDate 49 rfl) (hI.atS rfl) (hI.atE rfl) (to_iload (dat dk_X12_isDate 50 rfl) rfl ?_))
          obtain ⟨x9, ex9⟩ : ∃ y : Int, h.2.2 88 (Int.toNat f) = y := ⟨_, rfl⟩
          have rx9 := hI.atR (a := 88) (j := Int.toNat f) rfl
          rw [ex9] at rx9
          refine to_baldv (q := 1) ex9 (dat dk_X12_isDate 51 rfl) (by decide) (hI.atS rfl) rfl (by decide) (by omega) (to_bipush (dat dk_X12_isDate 52 rfl) (by decide) ?_)
          refine to_ine 120 (dat dk_X12_isDate 53 rfl) rfl (by omega) (by decide) (fun c10 => ?_) (fun c10 => ?_)
          · skip
            refine to_iconst (dat dk_X12_isDate 62 rfl) ?_
            exact to_zret rfl (dat dk_X12_isDate 63 rfl) (by decide) (ri_mk (by decide) ⟨hI, (Fr.rf _ _), (by decide), (show (0 : Int) = bi (datOK (hr h) (Int.toNat f) (Int.toNat g)) by omega)⟩)
          · skip
            refine to_aload_n (dat dk_X12_isDate 54 rfl) rfl (to_getR 88 g_c13_100 (dat dk_X12_isDate 55 rfl) (hI.atS rfl) (hI.atE rfl) (to_iload (dat dk_X12_isDate 56 rfl) rfl (to_iconst (dat dk_X12_isDate 57 rfl) (to_iadd (dat dk_X12_isDate 58 rfl) ?_))))
            obtain ⟨x11, ex11⟩ : ∃ y : Int, h.2.2 88 (Int.toNat (f + 1)) = y := ⟨_, rfl⟩
            have rx11 := hI.atR (a := 88) (j := Int.toNat (f + 1)) rfl
            rw [ex11] at rx11
            refine to_baldv (q := 1) ex11 (dat dk_X12_isDate 59 rfl) (by decide) (hI.atS rfl) rfl (by decide) (by omega) (to_bipush (dat dk_X12_isDate 60 rfl) (by decide) ?_)
            refine to_ieq 122 (dat dk_X12_isDate 61 rfl) rfl (by omega) (by decide) (fun c12 => ?_) (fun c12 => ?_)
            · skip
              have jn161_n14 : (bi (datOK (hr h) (Int.toNat f) (Int.toNat g)) = 1) → To l E_X12_isDate (161, [(0, .inr (.inr 60)), (1, .inl f), (2, .inl g), (3, .inl k), (4, .inl (g - f)), (5, .inl y1), (6, .inl y4), (7, .inl f)], [], h, 0, 0) (Q_X12_isDate_vx h f g k) := by
                intro  c13
                refine to_sipush (dat dk_X12_isDate 84 rfl) (by decide) (to_iconst (dat dk_X12_isDate 85 rfl) (to_iconst (dat dk_X12_isDate 86 rfl) ?_))
                refine to_cL ca_c13_332 (dat dk_X12_isDate 87 rfl) (ct_X12_days_vx l h hI 1970 (by decide) 1 (by decide) 1 (by decide) (show 0 ≤ (1970 : Int) ∧ (1970 : Int) ≤ 9999 by omega) (show 1 ≤ (1 : Int) ∧ (1 : Int) ≤ 12 by omega) (show 1 ≤ (1 : Int) ∧ (1 : Int) ≤ 31 by omega)) rfl trivial rfl (fun x15 h16 p17 => ?_)
                obtain ⟨rfl, p17_0⟩ := p17
                refine to_lstore (L' := [(8, .inr (.inl x15)), (0, .inr (.inr 60)), (1, .inl f), (2, .inl g), (3, .inl k), (4, .inl (g - f)), (5, .inl y1), (6, .inl y4), (7, .inl f)]) (dat dk_X12_isDate 88 rfl) (by decide) rfl ?_
                have jn194_n19 : ∀ (h18 : Hp), (Inv h18) → (Fr [93, 94] h h18) → To l E_X12_isDate (194, [(8, .inr (.inl x15)), (0, .inr (.inr 60)), (1, .inl f), (2, .inl g), (3, .inl k), (4, .inl (g - f)), (5, .inl y1), (6, .inl y4), (7, .inl f)], [], h18, 0, 0) (Q_X12_isDate_vx h f g k) := by
                  intro h18 Ih18 fh18
                  refine to_iload (dat dk_X12_isDate 102 rfl) rfl ?_
                  refine to_ifeq 224 (dat dk_X12_isDate 103 rfl) rfl (by omega) (fun c20 => ?_) (fun c20 => ?_)
                  · skip
                    refine to_iconst (dat dk_X12_isDate 121 rfl) ?_
                    exact to_zret rfl (dat dk_X12_isDate 122 rfl) (by decide) (ri_mk (by decide) ⟨Ih18, fh18, (by decide), (show (1 : Int) = bi (datOK (hr h) (Int.toNat f) (Int.toNat g)) by omega)⟩)
                  · skip
                    refine to_aload_n (dat dk_X12_isDate 104 rfl) rfl (to_getR 94 g_c13_119 (dat dk_X12_isDate 105 rfl) (Ih18.atS rfl) (Ih18.atE rfl) (to_iload_n (dat dk_X12_isDate 106 rfl) rfl (to_ldc2 (v := 1440) (x := 1440) (tin 8 20 (by decide +kernel) rfl) (by decide +kernel) (dat dk_X12_isDate 107 rfl) (to_aload_n (dat dk_X12_isDate 108 rfl) rfl (to_iload (dat dk_X12_isDate 109 rfl) rfl (to_iconst (dat dk_X12_isDate 110 rfl) (to_iadd (dat dk_X12_isDate 111 rfl) ?_)))))))
                    refine to_cL ca_c13_423 (dat dk_X12_isDate 112 rfl) (ct_X12_day_vx l h18 Ih18 (f + 2) (by omega) (show 0 ≤ (f + 2) ∧ (f + 2) + 8 ≤ 1200 by omega)) rfl ⟨_, _, rfl, (Ih18.atS rfl)⟩ rfl (fun x21 h22 p23 => ?_)
                    obtain ⟨rfl, p23_0⟩ := p23
                    refine to_lload (dat dk_X12_isDate 113 rfl) rfl ?_
                    refine to_lsub (dat dk_X12_isDate 114 rfl) (fun w24 => ?_)
                    refine to_lconst (v := 1) (dat dk_X12_isDate 115 rfl) rfl ?_
                    refine to_ladd (dat dk_X12_isDate 116 rfl) (fun w25 => ?_)
                    refine to_lmul (dat dk_X12_isDate 117 rfl) (fun w26 => ?_)
                    refine to_lconst (v := 1) (dat dk_X12_isDate 118 rfl) rfl ?_
                    refine to_lsub (dat dk_X12_isDate 119 rfl) (fun w27 => ?_)
                    refine to_lastw (dat dk_X12_isDate 120 rfl) (Ih18.atS rfl) rfl (by decide) (by omega) ?_
                    intro h30 wh30
                    have I28 : Inv h30 := by rw [wh30]; exact Ih18.putL (x := w27) (a := 94) (j := (Int.toNat k)) rfl
                    have f29 : Fr [93, 94] h h30 := by rw [wh30]; exact Fr.putF (a := 94) (j := (Int.toNat k)) (x := w27) fh18 rfl
                    refine to_iconst (dat dk_X12_isDate 121 rfl) ?_
                    exact to_zret rfl (dat dk_X12_isDate 122 rfl) (by decide) (ri_mk (by decide) ⟨I28, f29, (by decide), (show (1 : Int) = bi (datOK (hr h) (Int.toNat f) (Int.toNat g)) by omega)⟩)
                refine to_iload (dat dk_X12_isDate 89 rfl) rfl ?_
                refine to_ifeq 194 (dat dk_X12_isDate 90 rfl) rfl (by omega) (fun c31 => ?_) (fun c31 => ?_)
                · skip
                  exact jn194_n19 h hI (Fr.rf _ _)
                · skip
                  refine to_aload_n (dat dk_X12_isDate 91 rfl) rfl (to_getR 93 g_c13_115 (dat dk_X12_isDate 92 rfl) (hI.atS rfl) (hI.atE rfl) (to_iload_n (dat dk_X12_isDate 93 rfl) rfl (to_ldc2 (v := 1440) (x := 1440) (tin 8 20 (by decide +kernel) rfl) (by decide +kernel) (dat dk_X12_isDate 94 rfl) (to_aload_n (dat dk_X12_isDate 95 rfl) rfl (to_iload_n (dat dk_X12_isDate 96 rfl) rfl ?_)))))
                  refine to_cL ca_c13_423 (dat dk_X12_isDate 97 rfl) (ct_X12_day_vx l h hI f hf (show 0 ≤ f ∧ f + 8 ≤ 1200 by omega)) rfl ⟨_, _, rfl, (hI.atS rfl)⟩ rfl (fun x32 h33 p34 => ?_)
                  obtain ⟨rfl, p34_0⟩ := p34
                  refine to_lload (dat dk_X12_isDate 98 rfl) rfl ?_
                  refine to_lsub (dat dk_X12_isDate 99 rfl) (fun w35 => ?_)
                  refine to_lmul (dat dk_X12_isDate 100 rfl) (fun w36 => ?_)
                  refine to_lastw (dat dk_X12_isDate 101 rfl) (hI.atS rfl) rfl (by decide) (by omega) ?_
                  intro h39 wh39
                  have I37 : Inv h39 := by rw [wh39]; exact hI.putL (x := w36) (a := 93) (j := (Int.toNat k)) rfl
                  have f38 : Fr [93, 94] h h39 := by rw [wh39]; exact Fr.putF (a := 93) (j := (Int.toNat k)) (x := w36) (Fr.rf _ _) rfl
                  exact jn194_n19 h39 I37 f38
              refine to_iload (dat dk_X12_isDate 64 rfl) rfl ?_
              refine to_ifeq 139 (dat dk_X12_isDate 65 rfl) rfl (by omega) (fun c40 => ?_) (fun c40 => ?_)
              · skip
                refine to_iload (dat dk_X12_isDate 72 rfl) rfl ?_
                refine to_ifeq 161 (dat dk_X12_isDate 73 rfl) rfl (by omega) (fun c41 => ?_) (fun c41 => ?_)
                · skip
                  exact jn161_n14  (show bi (datOK (hr h) (Int.toNat f) (Int.toNat g)) = 1 by omega)
                · skip
                  refine to_aload_n (dat dk_X12_isDate 74 rfl) rfl (to_iload (dat dk_X12_isDate 75 rfl) rfl (to_iconst (dat dk_X12_isDate 76 rfl) (to_iadd (dat dk_X12_isDate 77 rfl) ?_)))
                  refine to_cL ca_c13_423 (dat dk_X12_isDate 78 rfl) (ct_X12_day_vx l h hI (f + 2) (by omega) (show 0 ≤ (f + 2) ∧ (f + 2) + 8 ≤ 1200 by omega)) rfl ⟨_, _, rfl, (hI.atS rfl)⟩ rfl (fun x42 h43 p44 => ?_)
                  obtain ⟨rfl, p44_0⟩ := p44
                  refine to_ldc2 (v := (-1)) (x := -1) (tin 8 9 (by decide +kernel) rfl) (by decide +kernel) (dat dk_X12_isDate 79 rfl) ?_
                  refine to_lcmpx (show L64 x42 by unfold L64; omega) (show L64 (-1) by unfold L64; omega) (dat dk_X12_isDate 80 rfl) (fun x45 rx45 jx45 => ?_)
                  refine to_ifne 161 (dat dk_X12_isDate 81 rfl) rfl rx45 (fun c46 => ?_) (fun c46 => ?_)
                  · skip
                    exact jn161_n14  (show bi (datOK (hr h) (Int.toNat f) (Int.toNat g)) = 1 by omega)
                  · skip
                    refine to_iconst (dat dk_X12_isDate 82 rfl) ?_
                    exact to_zret rfl (dat dk_X12_isDate 83 rfl) (by decide) (ri_mk (by decide) ⟨hI, (Fr.rf _ _), (by decide), (show (0 : Int) = bi (datOK (hr h) (Int.toNat f) (Int.toNat g)) by omega)⟩)
              · skip
                refine to_aload_n (dat dk_X12_isDate 66 rfl) rfl (to_iload_n (dat dk_X12_isDate 67 rfl) rfl ?_)
                refine to_cL ca_c13_423 (dat dk_X12_isDate 68 rfl) (ct_X12_day_vx l h hI f hf (show 0 ≤ f ∧ f + 8 ≤ 1200 by omega)) rfl ⟨_, _, rfl, (hI.atS rfl)⟩ rfl (fun x47 h48 p49 => ?_)
                obtain ⟨rfl, p49_0⟩ := p49
                refine to_ldc2 (v := (-1)) (x := -1) (tin 8 9 (by decide +kernel) rfl) (by decide +kernel) (dat dk_X12_isDate 69 rfl) ?_
                refine to_lcmpx (show L64 x47 by unfold L64; omega) (show L64 (-1) by unfold L64; omega) (dat dk_X12_isDate 70 rfl) (fun x50 rx50 jx50 => ?_)
                refine to_ifeq 159 (dat dk_X12_isDate 71 rfl) rfl rx50 (fun c51 => ?_) (fun c51 => ?_)
                · skip
                  refine to_iconst (dat dk_X12_isDate 82 rfl) ?_
                  exact to_zret rfl (dat dk_X12_isDate 83 rfl) (by decide) (ri_mk (by decide) ⟨hI, (Fr.rf _ _), (by decide), (show (0 : Int) = bi (datOK (hr h) (Int.toNat f) (Int.toNat g)) by omega)⟩)
                · skip
                  refine to_iload (dat dk_X12_isDate 72 rfl) rfl ?_
                  refine to_ifeq 161 (dat dk_X12_isDate 73 rfl) rfl (by omega) (fun c52 => ?_) (fun c52 => ?_)
                  · skip
                    exact jn161_n14  (show bi (datOK (hr h) (Int.toNat f) (Int.toNat g)) = 1 by omega)
                  · skip
                    refine to_aload_n (dat dk_X12_isDate 74 rfl) rfl (to_iload (dat dk_X12_isDate 75 rfl) rfl (to_iconst (dat dk_X12_isDate 76 rfl) (to_iadd (dat dk_X12_isDate 77 rfl) ?_)))
                    refine to_cL ca_c13_423 (dat dk_X12_isDate 78 rfl) (ct_X12_day_vx l h hI (f + 2) (by omega) (show 0 ≤ (f + 2) ∧ (f + 2) + 8 ≤ 1200 by omega)) rfl ⟨_, _, rfl, (hI.atS rfl)⟩ rfl (fun x53 h54 p55 => ?_)
                    obtain ⟨rfl, p55_0⟩ := p55
                    refine to_ldc2 (v := (-1)) (x := -1) (tin 8 9 (by decide +kernel) rfl) (by decide +kernel) (dat dk_X12_isDate 79 rfl) ?_
                    refine to_lcmpx (show L64 x53 by unfold L64; omega) (show L64 (-1) by unfold L64; omega) (dat dk_X12_isDate 80 rfl) (fun x56 rx56 jx56 => ?_)
                    refine to_ifne 161 (dat dk_X12_isDate 81 rfl) rfl rx56 (fun c57 => ?_) (fun c57 => ?_)
                    · skip
                      exact jn161_n14  (show bi (datOK (hr h) (Int.toNat f) (Int.toNat g)) = 1 by omega)
                    · skip
                      refine to_iconst (dat dk_X12_isDate 82 rfl) ?_
                      exact to_zret rfl (dat dk_X12_isDate 83 rfl) (by decide) (ri_mk (by decide) ⟨hI, (Fr.rf _ _), (by decide), (show (0 : Int) = bi (datOK (hr h) (Int.toNat f) (Int.toNat g)) by omega)⟩)
            · skip
              refine to_iconst (dat dk_X12_isDate 62 rfl) ?_
              exact to_zret rfl (dat dk_X12_isDate 63 rfl) (by decide) (ri_mk (by decide) ⟨hI, (Fr.rf _ _), (by decide), (show (0 : Int) = bi (datOK (hr h) (Int.toNat f) (Int.toNat g)) by omega)⟩)
        · skip
          refine to_iload (dat dk_X12_isDate 46 rfl) rfl ?_
          refine to_ifeq 120 (dat dk_X12_isDate 47 rfl) rfl (by omega) (fun c58 => ?_) (fun c58 => ?_)
          · skip
            refine to_iconst (dat dk_X12_isDate 62 rfl) ?_
            exact to_zret rfl (dat dk_X12_isDate 63 rfl) (by decide) (ri_mk (by decide) ⟨hI, (Fr.rf _ _), (by decide), (show (0 : Int) = bi (datOK (hr h) (Int.toNat f) (Int.toNat g)) by omega)⟩)
          · skip
            refine to_aload_n (dat dk_X12_isDate 48 rfl) rfl (to_getR 88 g_c13_100 (dat dk_X12_isDate 49 rfl) (hI.atS rfl) (hI.atE rfl) (to_iload (dat dk_X12_isDate 50 rfl) rfl ?_))
            obtain ⟨x59, ex59⟩ : ∃ y : Int, h.2.2 88 (Int.toNat f) = y := ⟨_, rfl⟩
            have rx59 := hI.atR (a := 88) (j := Int.toNat f) rfl
            rw [ex59] at rx59
            refine to_baldv (q := 1) ex59 (dat dk_X12_isDate 51 rfl) (by decide) (hI.atS rfl) rfl (by decide) (by omega) (to_bipush (dat dk_X12_isDate 52 rfl) (by decide) ?_)
            refine to_ine 120 (dat dk_X12_isDate 53 rfl) rfl (by omega) (by decide) (fun c60 => ?_) (fun c60 => ?_)
            · skip
              refine to_iconst (dat dk_X12_isDate 62 rfl) ?_
              exact to_zret rfl (dat dk_X12_isDate 63 rfl) (by decide) (ri_mk (by decide) ⟨hI, (Fr.rf _ _), (by decide), (show (0 : Int) = bi (datOK (hr h) (Int.toNat f) (Int.toNat g)) by omega)⟩)
            · skip
              refine to_aload_n (dat dk_X12_isDate 54 rfl) rfl (to_getR 88 g_c13_100 (dat dk_X12_isDate 55 rfl) (hI.atS rfl) (hI.atE rfl) (to_iload (dat dk_X12_isDate 56 rfl) rfl (to_iconst (dat dk_X12_isDate 57 rfl) (to_iadd (dat dk_X12_isDate 58 rfl) ?_))))
              obtain ⟨x61, ex61⟩ : ∃ y : Int, h.2.2 88 (Int.toNat (f + 1)) = y := ⟨_, rfl⟩
              have rx61 := hI.atR (a := 88) (j := Int.toNat (f + 1)) rfl
              rw [ex61] at rx61
              refine to_baldv (q := 1) ex61 (dat dk_X12_isDate 59 rfl) (by decide) (hI.atS rfl) rfl (by decide) (by omega) (to_bipush (dat dk_X12_isDate 60 rfl) (by decide) ?_)
              refine to_ieq 122 (dat dk_X12_isDate 61 rfl) rfl (by omega) (by decide) (fun c62 => ?_) (fun c62 => ?_)
              · skip
                have jn161_n64 : (bi (datOK (hr h) (Int.toNat f) (Int.toNat g)) = 1) → To l E_X12_isDate (161, [(0, .inr (.inr 60)), (1, .inl f), (2, .inl g), (3, .inl k), (4, .inl (g - f)), (5, .inl y1), (6, .inl y4), (7, .inl f)], [], h, 0, 0) (Q_X12_isDate_vx h f g k) := by
                  intro  c63
                  refine to_sipush (dat dk_X12_isDate 84 rfl) (by decide) (to_iconst (dat dk_X12_isDate 85 rfl) (to_iconst (dat dk_X12_isDate 86 rfl) ?_))
                  refine to_cL ca_c13_332 (dat dk_X12_isDate 87 rfl) (ct_X12_days_vx l h hI 1970 (by decide) 1 (by decide) 1 (by decide) (show 0 ≤ (1970 : Int) ∧ (1970 : Int) ≤ 9999 by omega) (show 1 ≤ (1 : Int) ∧ (1 : Int) ≤ 12 by omega) (show 1 ≤ (1 : Int) ∧ (1 : Int) ≤ 31 by omega)) rfl trivial rfl (fun x65 h66 p67 => ?_)
                  obtain ⟨rfl, p67_0⟩ := p67
                  refine to_lstore (L' := [(8, .inr (.inl x65)), (0, .inr (.inr 60)), (1, .inl f), (2, .inl g), (3, .inl k), (4, .inl (g - f)), (5, .inl y1), (6, .inl y4), (7, .inl f)]) (dat dk_X12_isDate 88 rfl) (by decide) rfl ?_
                  have jn194_n69 : ∀ (h68 : Hp), (Inv h68) → (Fr [93, 94] h h68) → To l E_X12_isDate (194, [(8, .inr (.inl x65)), (0, .inr (.inr 60)), (1, .inl f), (2, .inl g), (3, .inl k), (4, .inl (g - f)), (5, .inl y1), (6, .inl y4), (7, .inl f)], [], h68, 0, 0) (Q_X12_isDate_vx h f g k) := by
                    intro h68 Ih68 fh68
                    refine to_iload (dat dk_X12_isDate 102 rfl) rfl ?_
                    refine to_ifeq 224 (dat dk_X12_isDate 103 rfl) rfl (by omega) (fun c70 => ?_) (fun c70 => ?_)
                    · skip
                      refine to_iconst (dat dk_X12_isDate 121 rfl) ?_
                      exact to_zret rfl (dat dk_X12_isDate 122 rfl) (by decide) (ri_mk (by decide) ⟨Ih68, fh68, (by decide), (show (1 : Int) = bi (datOK (hr h) (Int.toNat f) (Int.toNat g)) by omega)⟩)
                    · skip
                      refine to_aload_n (dat dk_X12_isDate 104 rfl) rfl (to_getR 94 g_c13_119 (dat dk_X12_isDate 105 rfl) (Ih68.atS rfl) (Ih68.atE rfl) (to_iload_n (dat dk_X12_isDate 106 rfl) rfl (to_ldc2 (v := 1440) (x := 1440) (tin 8 20 (by decide +kernel) rfl) (by decide +kernel) (dat dk_X12_isDate 107 rfl) (to_aload_n (dat dk_X12_isDate 108 rfl) rfl (to_iload (dat dk_X12_isDate 109 rfl) rfl (to_iconst (dat dk_X12_isDate 110 rfl) (to_iadd (dat dk_X12_isDate 111 rfl) ?_)))))))
                      refine to_cL ca_c13_423 (dat dk_X12_isDate 112 rfl) (ct_X12_day_vx l h68 Ih68 (f + 2) (by omega) (show 0 ≤ (f + 2) ∧ (f + 2) + 8 ≤ 1200 by omega)) rfl ⟨_, _, rfl, (Ih68.atS rfl)⟩ rfl (fun x71 h72 p73 => ?_)
                      obtain ⟨rfl, p73_0⟩ := p73
                      refine to_lload (dat dk_X12_isDate 113 rfl) rfl ?_
                      refine to_lsub (dat dk_X12_isDate 114 rfl) (fun w74 => ?_)
                      refine to_lconst (v := 1) (dat dk_X12_isDate 115 rfl) rfl ?_
                      refine to_ladd (dat dk_X12_isDate 116 rfl) (fun w75 => ?_)
                      refine to_lmul (dat dk_X12_isDate 117 rfl) (fun w76 => ?_)
                      refine to_lconst (v := 1) (dat dk_X12_isDate 118 rfl) rfl ?_
                      refine to_lsub (dat dk_X12_isDate 119 rfl) (fun w77 => ?_)
                      refine to_lastw (dat dk_X12_isDate 120 rfl) (Ih68.atS rfl) rfl (by decide) (by omega) ?_
                      intro h80 wh80
                      have I78 : Inv h80 := by rw [wh80]; exact Ih68.putL (x := w77) (a := 94) (j := (Int.toNat k)) rfl
                      have f79 : Fr [93, 94] h h80 := by rw [wh80]; exact Fr.putF (a := 94) (j := (Int.toNat k)) (x := w77) fh68 rfl
                      refine to_iconst (dat dk_X12_isDate 121 rfl) ?_
                      exact to_zret rfl (dat dk_X12_isDate 122 rfl) (by decide) (ri_mk (by decide) ⟨I78, f79, (by decide), (show (1 : Int) = bi (datOK (hr h) (Int.toNat f) (Int.toNat g)) by omega)⟩)
                  refine to_iload (dat dk_X12_isDate 89 rfl) rfl ?_
                  refine to_ifeq 194 (dat dk_X12_isDate 90 rfl) rfl (by omega) (fun c81 => ?_) (fun c81 => ?_)
                  · skip
                    exact jn194_n69 h hI (Fr.rf _ _)
                  · skip
                    refine to_aload_n (dat dk_X12_isDate 91 rfl) rfl (to_getR 93 g_c13_115 (dat dk_X12_isDate 92 rfl) (hI.atS rfl) (hI.atE rfl) (to_iload_n (dat dk_X12_isDate 93 rfl) rfl (to_ldc2 (v := 1440) (x := 1440) (tin 8 20 (by decide +kernel) rfl) (by decide +kernel) (dat dk_X12_isDate 94 rfl) (to_aload_n (dat dk_X12_isDate 95 rfl) rfl (to_iload_n (dat dk_X12_isDate 96 rfl) rfl ?_)))))
                    refine to_cL ca_c13_423 (dat dk_X12_isDate 97 rfl) (ct_X12_day_vx l h hI f hf (show 0 ≤ f ∧ f + 8 ≤ 1200 by omega)) rfl ⟨_, _, rfl, (hI.atS rfl)⟩ rfl (fun x82 h83 p84 => ?_)
                    obtain ⟨rfl, p84_0⟩ := p84
                    refine to_lload (dat dk_X12_isDate 98 rfl) rfl ?_
                    refine to_lsub (dat dk_X12_isDate 99 rfl) (fun w85 => ?_)
                    refine to_lmul (dat dk_X12_isDate 100 rfl) (fun w86 => ?_)
                    refine to_lastw (dat dk_X12_isDate 101 rfl) (hI.atS rfl) rfl (by decide) (by omega) ?_
                    intro h89 wh89
                    have I87 : Inv h89 := by rw [wh89]; exact hI.putL (x := w86) (a := 93) (j := (Int.toNat k)) rfl
                    have f88 : Fr [93, 94] h h89 := by rw [wh89]; exact Fr.putF (a := 93) (j := (Int.toNat k)) (x := w86) (Fr.rf _ _) rfl
                    exact jn194_n69 h89 I87 f88
                refine to_iload (dat dk_X12_isDate 64 rfl) rfl ?_
                refine to_ifeq 139 (dat dk_X12_isDate 65 rfl) rfl (by omega) (fun c90 => ?_) (fun c90 => ?_)
                · skip
                  refine to_iload (dat dk_X12_isDate 72 rfl) rfl ?_
                  refine to_ifeq 161 (dat dk_X12_isDate 73 rfl) rfl (by omega) (fun c91 => ?_) (fun c91 => ?_)
                  · skip
                    exact jn161_n64  (show bi (datOK (hr h) (Int.toNat f) (Int.toNat g)) = 1 by omega)
                  · skip
                    refine to_aload_n (dat dk_X12_isDate 74 rfl) rfl (to_iload (dat dk_X12_isDate 75 rfl) rfl (to_iconst (dat dk_X12_isDate 76 rfl) (to_iadd (dat dk_X12_isDate 77 rfl) ?_)))
                    refine to_cL ca_c13_423 (dat dk_X12_isDate 78 rfl) (ct_X12_day_vx l h hI (f + 2) (by omega) (show 0 ≤ (f + 2) ∧ (f + 2) + 8 ≤ 1200 by omega)) rfl ⟨_, _, rfl, (hI.atS rfl)⟩ rfl (fun x92 h93 p94 => ?_)
                    obtain ⟨rfl, p94_0⟩ := p94
                    refine to_ldc2 (v := (-1)) (x := -1) (tin 8 9 (by decide +kernel) rfl) (by decide +kernel) (dat dk_X12_isDate 79 rfl) ?_
                    refine to_lcmpx (show L64 x92 by unfold L64; omega) (show L64 (-1) by unfold L64; omega) (dat dk_X12_isDate 80 rfl) (fun x95 rx95 jx95 => ?_)
                    refine to_ifne 161 (dat dk_X12_isDate 81 rfl) rfl rx95 (fun c96 => ?_) (fun c96 => ?_)
                    · skip
                      exact jn161_n64  (show bi (datOK (hr h) (Int.toNat f) (Int.toNat g)) = 1 by omega)
                    · skip
                      refine to_iconst (dat dk_X12_isDate 82 rfl) ?_
                      exact to_zret rfl (dat dk_X12_isDate 83 rfl) (by decide) (ri_mk (by decide) ⟨hI, (Fr.rf _ _), (by decide), (show (0 : Int) = bi (datOK (hr h) (Int.toNat f) (Int.toNat g)) by omega)⟩)
                · skip
                  refine to_aload_n (dat dk_X12_isDate 66 rfl) rfl (to_iload_n (dat dk_X12_isDate 67 rfl) rfl ?_)
                  refine to_cL ca_c13_423 (dat dk_X12_isDate 68 rfl) (ct_X12_day_vx l h hI f hf (show 0 ≤ f ∧ f + 8 ≤ 1200 by omega)) rfl ⟨_, _, rfl, (hI.atS rfl)⟩ rfl (fun x97 h98 p99 => ?_)
                  obtain ⟨rfl, p99_0⟩ := p99
                  refine to_ldc2 (v := (-1)) (x := -1) (tin 8 9 (by decide +kernel) rfl) (by decide +kernel) (dat dk_X12_isDate 69 rfl) ?_
                  refine to_lcmpx (show L64 x97 by unfold L64; omega) (show L64 (-1) by unfold L64; omega) (dat dk_X12_isDate 70 rfl) (fun x100 rx100 jx100 => ?_)
                  refine to_ifeq 159 (dat dk_X12_isDate 71 rfl) rfl rx100 (fun c101 => ?_) (fun c101 => ?_)
                  · skip
                    refine to_iconst (dat dk_X12_isDate 82 rfl) ?_
                    exact to_zret rfl (dat dk_X12_isDate 83 rfl) (by decide) (ri_mk (by decide) ⟨hI, (Fr.rf _ _), (by decide), (show (0 : Int) = bi (datOK (hr h) (Int.toNat f) (Int.toNat g)) by omega)⟩)
                  · skip
                    refine to_iload (dat dk_X12_isDate 72 rfl) rfl ?_
                    refine to_ifeq 161 (dat dk_X12_isDate 73 rfl) rfl (by omega) (fun c102 => ?_) (fun c102 => ?_)
                    · skip
                      exact jn161_n64  (show bi (datOK (hr h) (Int.toNat f) (Int.toNat g)) = 1 by omega)
                    · skip
                      refine to_aload_n (dat dk_X12_isDate 74 rfl) rfl (to_iload (dat dk_X12_isDate 75 rfl) rfl (to_iconst (dat dk_X12_isDate 76 rfl) (to_iadd (dat dk_X12_isDate 77 rfl) ?_)))
                      refine to_cL ca_c13_423 (dat dk_X12_isDate 78 rfl) (ct_X12_day_vx l h hI (f + 2) (by omega) (show 0 ≤ (f + 2) ∧ (f + 2) + 8 ≤ 1200 by omega)) rfl ⟨_, _, rfl, (hI.atS rfl)⟩ rfl (fun x103 h104 p105 => ?_)
                      obtain ⟨rfl, p105_0⟩ := p105
                      refine to_ldc2 (v := (-1)) (x := -1) (tin 8 9 (by decide +kernel) rfl) (by decide +kernel) (dat dk_X12_isDate 79 rfl) ?_
                      refine to_lcmpx (show L64 x103 by unfold L64; omega) (show L64 (-1) by unfold L64; omega) (dat dk_X12_isDate 80 rfl) (fun x106 rx106 jx106 => ?_)
                      refine to_ifne 161 (dat dk_X12_isDate 81 rfl) rfl rx106 (fun c107 => ?_) (fun c107 => ?_)
                      · skip
                        exact jn161_n64  (show bi (datOK (hr h) (Int.toNat f) (Int.toNat g)) = 1 by omega)
                      · skip
                        refine to_iconst (dat dk_X12_isDate 82 rfl) ?_
                        exact to_zret rfl (dat dk_X12_isDate 83 rfl) (by decide) (ri_mk (by decide) ⟨hI, (Fr.rf _ _), (by decide), (show (0 : Int) = bi (datOK (hr h) (Int.toNat f) (Int.toNat g)) by omega)⟩)
              · skip
                refine to_iconst (dat dk_X12_isDate 62 rfl) ?_
                exact to_zret rfl (dat dk_X12_isDate 63 rfl) (by decide) (ri_mk (by decide) ⟨hI, (Fr.rf _ _), (by decide), (show (0 : Int) = bi (datOK (hr h) (Int.toNat f) (Int.toNat g)) by omega)⟩)
      · skip
        refine to_iload_n (dat dk_X12_isDate 38 rfl) rfl (to_bipush (dat dk_X12_isDate 39 rfl) (by decide) (to_iadd (dat dk_X12_isDate 40 rfl) (to_goto (dat dk_X12_isDate 41 rfl) rfl (to_istore (L' := [(0, .inr (.inr 60)), (1, .inl f), (2, .inl g), (3, .inl k), (4, .inl (g - f)), (5, .inl y1), (6, .inl y4), (7, .inl (f + 8))]) (dat dk_X12_isDate 43 rfl) (by decide) rfl (to_iload (dat dk_X12_isDate 44 rfl) rfl ?_)))))
        refine to_ifne 94 (dat dk_X12_isDate 45 rfl) rfl (by omega) (fun c108 => ?_) (fun c108 => ?_)
        · skip
          refine to_aload_n (dat dk_X12_isDate 48 rfl) rfl (to_getR 88 g_c13_100 (dat dk_X12_isDate 49 rfl) (hI.atS rfl) (hI.atE rfl) (to_iload (dat dk_X12_isDate 50 rfl) rfl ?_))
          obtain ⟨x109, ex109⟩ : ∃ y : Int, h.2.2 88 (Int.toNat (f + 8)) = y := ⟨_, rfl⟩
          have rx109 := hI.atR (a := 88) (j := Int.toNat (f + 8)) rfl
          rw [ex109] at rx109
          refine to_baldv (q := 1) ex109 (dat dk_X12_isDate 51 rfl) (by decide) (hI.atS rfl) rfl (by decide) (by omega) (to_bipush (dat dk_X12_isDate 52 rfl) (by decide) ?_)
          refine to_ine 120 (dat dk_X12_isDate 53 rfl) rfl (by omega) (by decide) (fun c110 => ?_) (fun c110 => ?_)
          · skip
            refine to_iconst (dat dk_X12_isDate 62 rfl) ?_
            exact to_zret rfl (dat dk_X12_isDate 63 rfl) (by decide) (ri_mk (by decide) ⟨hI, (Fr.rf _ _), (by decide), (show (0 : Int) = bi (datOK (hr h) (Int.toNat f) (Int.toNat g)) by omega)⟩)
          · skip
            refine to_aload_n (dat dk_X12_isDate 54 rfl) rfl (to_getR 88 g_c13_100 (dat dk_X12_isDate 55 rfl) (hI.atS rfl) (hI.atE rfl) (to_iload (dat dk_X12_isDate 56 rfl) rfl (to_iconst (dat dk_X12_isDate 57 rfl) (to_iadd (dat dk_X12_isDate 58 rfl) ?_))))
            obtain ⟨x111, ex111⟩ : ∃ y : Int, h.2.2 88 (Int.toNat ((f + 8) + 1)) = y := ⟨_, rfl⟩
            have rx111 := hI.atR (a := 88) (j := Int.toNat ((f + 8) + 1)) rfl
            rw [ex111] at rx111
            refine to_baldv (q := 1) ex111 (dat dk_X12_isDate 59 rfl) (by decide) (hI.atS rfl) rfl (by decide) (by omega) (to_bipush (dat dk_X12_isDate 60 rfl) (by decide) ?_)
            refine to_ieq 122 (dat dk_X12_isDate 61 rfl) rfl (by omega) (by decide) (fun c112 => ?_) (fun c112 => ?_)
            · skip
              have jn161_n114 : (bi (datOK (hr h) (Int.toNat f) (Int.toNat g)) = 1) → To l E_X12_isDate (161, [(0, .inr (.inr 60)), (1, .inl f), (2, .inl g), (3, .inl k), (4, .inl (g - f)), (5, .inl y1), (6, .inl y4), (7, .inl (f + 8))], [], h, 0, 0) (Q_X12_isDate_vx h f g k) := by
                intro  c113
                refine to_sipush (dat dk_X12_isDate 84 rfl) (by decide) (to_iconst (dat dk_X12_isDate 85 rfl) (to_iconst (dat dk_X12_isDate 86 rfl) ?_))
                refine to_cL ca_c13_332 (dat dk_X12_isDate 87 rfl) (ct_X12_days_vx l h hI 1970 (by decide) 1 (by decide) 1 (by decide) (show 0 ≤ (1970 : Int) ∧ (1970 : Int) ≤ 9999 by omega) (show 1 ≤ (1 : Int) ∧ (1 : Int) ≤ 12 by omega) (show 1 ≤ (1 : Int) ∧ (1 : Int) ≤ 31 by omega)) rfl trivial rfl (fun x115 h116 p117 => ?_)
                obtain ⟨rfl, p117_0⟩ := p117
                refine to_lstore (L' := [(8, .inr (.inl x115)), (0, .inr (.inr 60)), (1, .inl f), (2, .inl g), (3, .inl k), (4, .inl (g - f)), (5, .inl y1), (6, .inl y4), (7, .inl (f + 8))]) (dat dk_X12_isDate 88 rfl) (by decide) rfl ?_
                have jn194_n119 : ∀ (h118 : Hp), (Inv h118) → (Fr [93, 94] h h118) → To l E_X12_isDate (194, [(8, .inr (.inl x115)), (0, .inr (.inr 60)), (1, .inl f), (2, .inl g), (3, .inl k), (4, .inl (g - f)), (5, .inl y1), (6, .inl y4), (7, .inl (f + 8))], [], h118, 0, 0) (Q_X12_isDate_vx h f g k) := by
                  intro h118 Ih118 fh118
                  refine to_iload (dat dk_X12_isDate 102 rfl) rfl ?_
                  refine to_ifeq 224 (dat dk_X12_isDate 103 rfl) rfl (by omega) (fun c120 => ?_) (fun c120 => ?_)
                  · skip
                    refine to_iconst (dat dk_X12_isDate 121 rfl) ?_
                    exact to_zret rfl (dat dk_X12_isDate 122 rfl) (by decide) (ri_mk (by decide) ⟨Ih118, fh118, (by decide), (show (1 : Int) = bi (datOK (hr h) (Int.toNat f) (Int.toNat g)) by omega)⟩)
                  · skip
                    refine to_aload_n (dat dk_X12_isDate 104 rfl) rfl (to_getR 94 g_c13_119 (dat dk_X12_isDate 105 rfl) (Ih118.atS rfl) (Ih118.atE rfl) (to_iload_n (dat dk_X12_isDate 106 rfl) rfl (to_ldc2 (v := 1440) (x := 1440) (tin 8 20 (by decide +kernel) rfl) (by decide +kernel) (dat dk_X12_isDate 107 rfl) (to_aload_n (dat dk_X12_isDate 108 rfl) rfl (to_iload (dat dk_X12_isDate 109 rfl) rfl (to_iconst (dat dk_X12_isDate 110 rfl) (to_iadd (dat dk_X12_isDate 111 rfl) ?_)))))))
                    refine to_cL ca_c13_423 (dat dk_X12_isDate 112 rfl) (ct_X12_day_vx l h118 Ih118 ((f + 8) + 2) (by omega) (show 0 ≤ ((f + 8) + 2) ∧ ((f + 8) + 2) + 8 ≤ 1200 by omega)) rfl ⟨_, _, rfl, (Ih118.atS rfl)⟩ rfl (fun x121 h122 p123 => ?_)
                    obtain ⟨rfl, p123_0⟩ := p123
                    refine to_lload (dat dk_X12_isDate 113 rfl) rfl ?_
                    refine to_lsub (dat dk_X12_isDate 114 rfl) (fun w124 => ?_)
                    refine to_lconst (v := 1) (dat dk_X12_isDate 115 rfl) rfl ?_
                    refine to_ladd (dat dk_X12_isDate 116 rfl) (fun w125 => ?_)
                    refine to_lmul (dat dk_X12_isDate 117 rfl) (fun w126 => ?_)
                    refine to_lconst (v := 1) (dat dk_X12_isDate 118 rfl) rfl ?_
                    refine to_lsub (dat dk_X12_isDate 119 rfl) (fun w127 => ?_)
                    refine to_lastw (dat dk_X12_isDate 120 rfl) (Ih118.atS rfl) rfl (by decide) (by omega) ?_
                    intro h130 wh130
                    have I128 : Inv h130 := by rw [wh130]; exact Ih118.putL (x := w127) (a := 94) (j := (Int.toNat k)) rfl
                    have f129 : Fr [93, 94] h h130 := by rw [wh130]; exact Fr.putF (a := 94) (j := (Int.toNat k)) (x := w127) fh118 rfl
                    refine to_iconst (dat dk_X12_isDate 121 rfl) ?_
                    exact to_zret rfl (dat dk_X12_isDate 122 rfl) (by decide) (ri_mk (by decide) ⟨I128, f129, (by decide), (show (1 : Int) = bi (datOK (hr h) (Int.toNat f) (Int.toNat g)) by omega)⟩)
                refine to_iload (dat dk_X12_isDate 89 rfl) rfl ?_
                refine to_ifeq 194 (dat dk_X12_isDate 90 rfl) rfl (by omega) (fun c131 => ?_) (fun c131 => ?_)
                · skip
                  exact jn194_n119 h hI (Fr.rf _ _)
                · skip
                  refine to_aload_n (dat dk_X12_isDate 91 rfl) rfl (to_getR 93 g_c13_115 (dat dk_X12_isDate 92 rfl) (hI.atS rfl) (hI.atE rfl) (to_iload_n (dat dk_X12_isDate 93 rfl) rfl (to_ldc2 (v := 1440) (x := 1440) (tin 8 20 (by decide +kernel) rfl) (by decide +kernel) (dat dk_X12_isDate 94 rfl) (to_aload_n (dat dk_X12_isDate 95 rfl) rfl (to_iload_n (dat dk_X12_isDate 96 rfl) rfl ?_)))))
                  refine to_cL ca_c13_423 (dat dk_X12_isDate 97 rfl) (ct_X12_day_vx l h hI f hf (show 0 ≤ f ∧ f + 8 ≤ 1200 by omega)) rfl ⟨_, _, rfl, (hI.atS rfl)⟩ rfl (fun x132 h133 p134 => ?_)
                  obtain ⟨rfl, p134_0⟩ := p134
                  refine to_lload (dat dk_X12_isDate 98 rfl) rfl ?_
                  refine to_lsub (dat dk_X12_isDate 99 rfl) (fun w135 => ?_)
                  refine to_lmul (dat dk_X12_isDate 100 rfl) (fun w136 => ?_)
                  refine to_lastw (dat dk_X12_isDate 101 rfl) (hI.atS rfl) rfl (by decide) (by omega) ?_
                  intro h139 wh139
                  have I137 : Inv h139 := by rw [wh139]; exact hI.putL (x := w136) (a := 93) (j := (Int.toNat k)) rfl
                  have f138 : Fr [93, 94] h h139 := by rw [wh139]; exact Fr.putF (a := 93) (j := (Int.toNat k)) (x := w136) (Fr.rf _ _) rfl
                  exact jn194_n119 h139 I137 f138
              refine to_iload (dat dk_X12_isDate 64 rfl) rfl ?_
              refine to_ifeq 139 (dat dk_X12_isDate 65 rfl) rfl (by omega) (fun c140 => ?_) (fun c140 => ?_)
              · skip
                refine to_iload (dat dk_X12_isDate 72 rfl) rfl ?_
                refine to_ifeq 161 (dat dk_X12_isDate 73 rfl) rfl (by omega) (fun c141 => ?_) (fun c141 => ?_)
                · skip
                  exact jn161_n114  (show bi (datOK (hr h) (Int.toNat f) (Int.toNat g)) = 1 by omega)
                · skip
                  refine to_aload_n (dat dk_X12_isDate 74 rfl) rfl (to_iload (dat dk_X12_isDate 75 rfl) rfl (to_iconst (dat dk_X12_isDate 76 rfl) (to_iadd (dat dk_X12_isDate 77 rfl) ?_)))
                  refine to_cL ca_c13_423 (dat dk_X12_isDate 78 rfl) (ct_X12_day_vx l h hI ((f + 8) + 2) (by omega) (show 0 ≤ ((f + 8) + 2) ∧ ((f + 8) + 2) + 8 ≤ 1200 by omega)) rfl ⟨_, _, rfl, (hI.atS rfl)⟩ rfl (fun x142 h143 p144 => ?_)
                  obtain ⟨rfl, p144_0⟩ := p144
                  refine to_ldc2 (v := (-1)) (x := -1) (tin 8 9 (by decide +kernel) rfl) (by decide +kernel) (dat dk_X12_isDate 79 rfl) ?_
                  refine to_lcmpx (show L64 x142 by unfold L64; omega) (show L64 (-1) by unfold L64; omega) (dat dk_X12_isDate 80 rfl) (fun x145 rx145 jx145 => ?_)
                  refine to_ifne 161 (dat dk_X12_isDate 81 rfl) rfl rx145 (fun c146 => ?_) (fun c146 => ?_)
                  · skip
                    exact jn161_n114  (show bi (datOK (hr h) (Int.toNat f) (Int.toNat g)) = 1 by omega)
                  · skip
                    refine to_iconst (dat dk_X12_isDate 82 rfl) ?_
                    exact to_zret rfl (dat dk_X12_isDate 83 rfl) (by decide) (ri_mk (by decide) ⟨hI, (Fr.rf _ _), (by decide), (show (0 : Int) = bi (datOK (hr h) (Int.toNat f) (Int.toNat g)) by omega)⟩)
              · skip
                refine to_aload_n (dat dk_X12_isDate 66 rfl) rfl (to_iload_n (dat dk_X12_isDate 67 rfl) rfl ?_)
                refine to_cL ca_c13_423 (dat dk_X12_isDate 68 rfl) (ct_X12_day_vx l h hI f hf (show 0 ≤ f ∧ f + 8 ≤ 1200 by omega)) rfl ⟨_, _, rfl, (hI.atS rfl)⟩ rfl (fun x147 h148 p149 => ?_)
                obtain ⟨rfl, p149_0⟩ := p149
                refine to_ldc2 (v := (-1)) (x := -1) (tin 8 9 (by decide +kernel) rfl) (by decide +kernel) (dat dk_X12_isDate 69 rfl) ?_
                refine to_lcmpx (show L64 x147 by unfold L64; omega) (show L64 (-1) by unfold L64; omega) (dat dk_X12_isDate 70 rfl) (fun x150 rx150 jx150 => ?_)
                refine to_ifeq 159 (dat dk_X12_isDate 71 rfl) rfl rx150 (fun c151 => ?_) (fun c151 => ?_)
                · skip
                  refine to_iconst (dat dk_X12_isDate 82 rfl) ?_
                  exact to_zret rfl (dat dk_X12_isDate 83 rfl) (by decide) (ri_mk (by decide) ⟨hI, (Fr.rf _ _), (by decide), (show (0 : Int) = bi (datOK (hr h) (Int.toNat f) (Int.toNat g)) by omega)⟩)
                · skip
                  refine to_iload (dat dk_X12_isDate 72 rfl) rfl ?_
                  refine to_ifeq 161 (dat dk_X12_isDate 73 rfl) rfl (by omega) (fun c152 => ?_) (fun c152 => ?_)
                  · skip
                    exact jn161_n114  (show bi (datOK (hr h) (Int.toNat f) (Int.toNat g)) = 1 by omega)
                  · skip
                    refine to_aload_n (dat dk_X12_isDate 74 rfl) rfl (to_iload (dat dk_X12_isDate 75 rfl) rfl (to_iconst (dat dk_X12_isDate 76 rfl) (to_iadd (dat dk_X12_isDate 77 rfl) ?_)))
                    refine to_cL ca_c13_423 (dat dk_X12_isDate 78 rfl) (ct_X12_day_vx l h hI ((f + 8) + 2) (by omega) (show 0 ≤ ((f + 8) + 2) ∧ ((f + 8) + 2) + 8 ≤ 1200 by omega)) rfl ⟨_, _, rfl, (hI.atS rfl)⟩ rfl (fun x153 h154 p155 => ?_)
                    obtain ⟨rfl, p155_0⟩ := p155
                    refine to_ldc2 (v := (-1)) (x := -1) (tin 8 9 (by decide +kernel) rfl) (by decide +kernel) (dat dk_X12_isDate 79 rfl) ?_
                    refine to_lcmpx (show L64 x153 by unfold L64; omega) (show L64 (-1) by unfold L64; omega) (dat dk_X12_isDate 80 rfl) (fun x156 rx156 jx156 => ?_)
                    refine to_ifne 161 (dat dk_X12_isDate 81 rfl) rfl rx156 (fun c157 => ?_) (fun c157 => ?_)
                    · skip
                      exact jn161_n114  (show bi (datOK (hr h) (Int.toNat f) (Int.toNat g)) = 1 by omega)
                    · skip
                      refine to_iconst (dat dk_X12_isDate 82 rfl) ?_
                      exact to_zret rfl (dat dk_X12_isDate 83 rfl) (by decide) (ri_mk (by decide) ⟨hI, (Fr.rf _ _), (by decide), (show (0 : Int) = bi (datOK (hr h) (Int.toNat f) (Int.toNat g)) by omega)⟩)
            · skip
              refine to_iconst (dat dk_X12_isDate 62 rfl) ?_
              exact to_zret rfl (dat dk_X12_isDate 63 rfl) (by decide) (ri_mk (by decide) ⟨hI, (Fr.rf _ _), (by decide), (show (0 : Int) = bi (datOK (hr h) (Int.toNat f) (Int.toNat g)) by omega)⟩)
        · skip
          refine to_iload (dat dk_X12_isDate 46 rfl) rfl ?_
          refine to_ifeq 120 (dat dk_X12_isDate 47 rfl) rfl (by omega) (fun c158 => ?_) (fun c158 => ?_)
          · skip
            refine to_iconst (dat dk_X12_isDate 62 rfl) ?_
            exact to_zret rfl (dat dk_X12_isDate 63 rfl) (by decide) (ri_mk (by decide) ⟨hI, (Fr.rf _ _), (by decide), (show (0 : Int) = bi (datOK (hr h) (Int.toNat f) (Int.toNat g)) by omega)⟩)
          · skip
            refine to_aload_n (dat dk_X12_isDate 48 rfl) rfl (to_getR 88 g_c13_100 (dat dk_X12_isDate 49 rfl) (hI.atS rfl) (hI.atE rfl) (to_iload (dat dk_X12_isDate 50 rfl) rfl ?_))
            obtain ⟨x159, ex159⟩ : ∃ y : Int, h.2.2 88 (Int.toNat (f + 8)) = y := ⟨_, rfl⟩
            have rx159 := hI.atR (a := 88) (j := Int.toNat (f + 8)) rfl
            rw [ex159] at rx159
            refine to_baldv (q := 1) ex159 (dat dk_X12_isDate 51 rfl) (by decide) (hI.atS rfl) rfl (by decide) (by omega) (to_bipush (dat dk_X12_isDate 52 rfl) (by decide) ?_)
            refine to_ine 120 (dat dk_X12_isDate 53 rfl) rfl (by omega) (by decide) (fun c160 => ?_) (fun c160 => ?_)
            · skip
              refine to_iconst (dat dk_X12_isDate 62 rfl) ?_
              exact to_zret rfl (dat dk_X12_isDate 63 rfl) (by decide) (ri_mk (by decide) ⟨hI, (Fr.rf _ _), (by decide), (show (0 : Int) = bi (datOK (hr h) (Int.toNat f) (Int.toNat g)) by omega)⟩)
            · skip
              refine to_aload_n (dat dk_X12_isDate 54 rfl) rfl (to_getR 88 g_c13_100 (dat dk_X12_isDate 55 rfl) (hI.atS rfl) (hI.atE rfl) (to_iload (dat dk_X12_isDate 56 rfl) rfl (to_iconst (dat dk_X12_isDate 57 rfl) (to_iadd (dat dk_X12_isDate 58 rfl) ?_))))
              obtain ⟨x161, ex161⟩ : ∃ y : Int, h.2.2 88 (Int.toNat ((f + 8) + 1)) = y := ⟨_, rfl⟩
              have rx161 := hI.atR (a := 88) (j := Int.toNat ((f + 8) + 1)) rfl
              rw [ex161] at rx161
              refine to_baldv (q := 1) ex161 (dat dk_X12_isDate 59 rfl) (by decide) (hI.atS rfl) rfl (by decide) (by omega) (to_bipush (dat dk_X12_isDate 60 rfl) (by decide) ?_)
              refine to_ieq 122 (dat dk_X12_isDate 61 rfl) rfl (by omega) (by decide) (fun c162 => ?_) (fun c162 => ?_)
              · skip
                have jn161_n164 : (bi (datOK (hr h) (Int.toNat f) (Int.toNat g)) = 1) → To l E_X12_isDate (161, [(0, .inr (.inr 60)), (1, .inl f), (2, .inl g), (3, .inl k), (4, .inl (g - f)), (5, .inl y1), (6, .inl y4), (7, .inl (f + 8))], [], h, 0, 0) (Q_X12_isDate_vx h f g k) := by
                  intro  c163
                  refine to_sipush (dat dk_X12_isDate 84 rfl) (by decide) (to_iconst (dat dk_X12_isDate 85 rfl) (to_iconst (dat dk_X12_isDate 86 rfl) ?_))
                  refine to_cL ca_c13_332 (dat dk_X12_isDate 87 rfl) (ct_X12_days_vx l h hI 1970 (by decide) 1 (by decide) 1 (by decide) (show 0 ≤ (1970 : Int) ∧ (1970 : Int) ≤ 9999 by omega) (show 1 ≤ (1 : Int) ∧ (1 : Int) ≤ 12 by omega) (show 1 ≤ (1 : Int) ∧ (1 : Int) ≤ 31 by omega)) rfl trivial rfl (fun x165 h166 p167 => ?_)
                  obtain ⟨rfl, p167_0⟩ := p167
                  refine to_lstore (L' := [(8, .inr (.inl x165)), (0, .inr (.inr 60)), (1, .inl f), (2, .inl g), (3, .inl k), (4, .inl (g - f)), (5, .inl y1), (6, .inl y4), (7, .inl (f + 8))]) (dat dk_X12_isDate 88 rfl) (by decide) rfl ?_
                  have jn194_n169 : ∀ (h168 : Hp), (Inv h168) → (Fr [93, 94] h h168) → To l E_X12_isDate (194, [(8, .inr (.inl x165)), (0, .inr (.inr 60)), (1, .inl f), (2, .inl g), (3, .inl k), (4, .inl (g - f)), (5, .inl y1), (6, .inl y4), (7, .inl (f + 8))], [], h168, 0, 0) (Q_X12_isDate_vx h f g k) := by
                    intro h168 Ih168 fh168
                    refine to_iload (dat dk_X12_isDate 102 rfl) rfl ?_
                    refine to_ifeq 224 (dat dk_X12_isDate 103 rfl) rfl (by omega) (fun c170 => ?_) (fun c170 => ?_)
                    · skip
                      refine to_iconst (dat dk_X12_isDate 121 rfl) ?_
                      exact to_zret rfl (dat dk_X12_isDate 122 rfl) (by decide) (ri_mk (by decide) ⟨Ih168, fh168, (by decide), (show (1 : Int) = bi (datOK (hr h) (Int.toNat f) (Int.toNat g)) by omega)⟩)
                    · skip
                      refine to_aload_n (dat dk_X12_isDate 104 rfl) rfl (to_getR 94 g_c13_119 (dat dk_X12_isDate 105 rfl) (Ih168.atS rfl) (Ih168.atE rfl) (to_iload_n (dat dk_X12_isDate 106 rfl) rfl (to_ldc2 (v := 1440) (x := 1440) (tin 8 20 (by decide +kernel) rfl) (by decide +kernel) (dat dk_X12_isDate 107 rfl) (to_aload_n (dat dk_X12_isDate 108 rfl) rfl (to_iload (dat dk_X12_isDate 109 rfl) rfl (to_iconst (dat dk_X12_isDate 110 rfl) (to_iadd (dat dk_X12_isDate 111 rfl) ?_)))))))
                      refine to_cL ca_c13_423 (dat dk_X12_isDate 112 rfl) (ct_X12_day_vx l h168 Ih168 ((f + 8) + 2) (by omega) (show 0 ≤ ((f + 8) + 2) ∧ ((f + 8) + 2) + 8 ≤ 1200 by omega)) rfl ⟨_, _, rfl, (Ih168.atS rfl)⟩ rfl (fun x171 h172 p173 => ?_)
                      obtain ⟨rfl, p173_0⟩ := p173
                      refine to_lload (dat dk_X12_isDate 113 rfl) rfl ?_
                      refine to_lsub (dat dk_X12_isDate 114 rfl) (fun w174 => ?_)
                      refine to_lconst (v := 1) (dat dk_X12_isDate 115 rfl) rfl ?_
                      refine to_ladd (dat dk_X12_isDate 116 rfl) (fun w175 => ?_)
                      refine to_lmul (dat dk_X12_isDate 117 rfl) (fun w176 => ?_)
                      refine to_lconst (v := 1) (dat dk_X12_isDate 118 rfl) rfl ?_
                      refine to_lsub (dat dk_X12_isDate 119 rfl) (fun w177 => ?_)
                      refine to_lastw (dat dk_X12_isDate 120 rfl) (Ih168.atS rfl) rfl (by decide) (by omega) ?_
                      intro h180 wh180
                      have I178 : Inv h180 := by rw [wh180]; exact Ih168.putL (x := w177) (a := 94) (j := (Int.toNat k)) rfl
                      have f179 : Fr [93, 94] h h180 := by rw [wh180]; exact Fr.putF (a := 94) (j := (Int.toNat k)) (x := w177) fh168 rfl
                      refine to_iconst (dat dk_X12_isDate 121 rfl) ?_
                      exact to_zret rfl (dat dk_X12_isDate 122 rfl) (by decide) (ri_mk (by decide) ⟨I178, f179, (by decide), (show (1 : Int) = bi (datOK (hr h) (Int.toNat f) (Int.toNat g)) by omega)⟩)
                  refine to_iload (dat dk_X12_isDate 89 rfl) rfl ?_
                  refine to_ifeq 194 (dat dk_X12_isDate 90 rfl) rfl (by omega) (fun c181 => ?_) (fun c181 => ?_)
                  · skip
                    exact jn194_n169 h hI (Fr.rf _ _)
                  · skip
                    refine to_aload_n (dat dk_X12_isDate 91 rfl) rfl (to_getR 93 g_c13_115 (dat dk_X12_isDate 92 rfl) (hI.atS rfl) (hI.atE rfl) (to_iload_n (dat dk_X12_isDate 93 rfl) rfl (to_ldc2 (v := 1440) (x := 1440) (tin 8 20 (by decide +kernel) rfl) (by decide +kernel) (dat dk_X12_isDate 94 rfl) (to_aload_n (dat dk_X12_isDate 95 rfl) rfl (to_iload_n (dat dk_X12_isDate 96 rfl) rfl ?_)))))
                    refine to_cL ca_c13_423 (dat dk_X12_isDate 97 rfl) (ct_X12_day_vx l h hI f hf (show 0 ≤ f ∧ f + 8 ≤ 1200 by omega)) rfl ⟨_, _, rfl, (hI.atS rfl)⟩ rfl (fun x182 h183 p184 => ?_)
                    obtain ⟨rfl, p184_0⟩ := p184
                    refine to_lload (dat dk_X12_isDate 98 rfl) rfl ?_
                    refine to_lsub (dat dk_X12_isDate 99 rfl) (fun w185 => ?_)
                    refine to_lmul (dat dk_X12_isDate 100 rfl) (fun w186 => ?_)
                    refine to_lastw (dat dk_X12_isDate 101 rfl) (hI.atS rfl) rfl (by decide) (by omega) ?_
                    intro h189 wh189
                    have I187 : Inv h189 := by rw [wh189]; exact hI.putL (x := w186) (a := 93) (j := (Int.toNat k)) rfl
                    have f188 : Fr [93, 94] h h189 := by rw [wh189]; exact Fr.putF (a := 93) (j := (Int.toNat k)) (x := w186) (Fr.rf _ _) rfl
                    exact jn194_n169 h189 I187 f188
                refine to_iload (dat dk_X12_isDate 64 rfl) rfl ?_
                refine to_ifeq 139 (dat dk_X12_isDate 65 rfl) rfl (by omega) (fun c190 => ?_) (fun c190 => ?_)
                · skip
                  refine to_iload (dat dk_X12_isDate 72 rfl) rfl ?_
                  refine to_ifeq 161 (dat dk_X12_isDate 73 rfl) rfl (by omega) (fun c191 => ?_) (fun c191 => ?_)
                  · skip
                    exact jn161_n164  (show bi (datOK (hr h) (Int.toNat f) (Int.toNat g)) = 1 by omega)
                  · skip
                    refine to_aload_n (dat dk_X12_isDate 74 rfl) rfl (to_iload (dat dk_X12_isDate 75 rfl) rfl (to_iconst (dat dk_X12_isDate 76 rfl) (to_iadd (dat dk_X12_isDate 77 rfl) ?_)))
                    refine to_cL ca_c13_423 (dat dk_X12_isDate 78 rfl) (ct_X12_day_vx l h hI ((f + 8) + 2) (by omega) (show 0 ≤ ((f + 8) + 2) ∧ ((f + 8) + 2) + 8 ≤ 1200 by omega)) rfl ⟨_, _, rfl, (hI.atS rfl)⟩ rfl (fun x192 h193 p194 => ?_)
                    obtain ⟨rfl, p194_0⟩ := p194
                    refine to_ldc2 (v := (-1)) (x := -1) (tin 8 9 (by decide +kernel) rfl) (by decide +kernel) (dat dk_X12_isDate 79 rfl) ?_
                    refine to_lcmpx (show L64 x192 by unfold L64; omega) (show L64 (-1) by unfold L64; omega) (dat dk_X12_isDate 80 rfl) (fun x195 rx195 jx195 => ?_)
                    refine to_ifne 161 (dat dk_X12_isDate 81 rfl) rfl rx195 (fun c196 => ?_) (fun c196 => ?_)
                    · skip
                      exact jn161_n164  (show bi (datOK (hr h) (Int.toNat f) (Int.toNat g)) = 1 by omega)
                    · skip
                      refine to_iconst (dat dk_X12_isDate 82 rfl) ?_
                      exact to_zret rfl (dat dk_X12_isDate 83 rfl) (by decide) (ri_mk (by decide) ⟨hI, (Fr.rf _ _), (by decide), (show (0 : Int) = bi (datOK (hr h) (Int.toNat f) (Int.toNat g)) by omega)⟩)
                · skip
                  refine to_aload_n (dat dk_X12_isDate 66 rfl) rfl (to_iload_n (dat dk_X12_isDate 67 rfl) rfl ?_)
                  refine to_cL ca_c13_423 (dat dk_X12_isDate 68 rfl) (ct_X12_day_vx l h hI f hf (show 0 ≤ f ∧ f + 8 ≤ 1200 by omega)) rfl ⟨_, _, rfl, (hI.atS rfl)⟩ rfl (fun x197 h198 p199 => ?_)
                  obtain ⟨rfl, p199_0⟩ := p199
                  refine to_ldc2 (v := (-1)) (x := -1) (tin 8 9 (by decide +kernel) rfl) (by decide +kernel) (dat dk_X12_isDate 69 rfl) ?_
                  refine to_lcmpx (show L64 x197 by unfold L64; omega) (show L64 (-1) by unfold L64; omega) (dat dk_X12_isDate 70 rfl) (fun x200 rx200 jx200 => ?_)
                  refine to_ifeq 159 (dat dk_X12_isDate 71 rfl) rfl rx200 (fun c201 => ?_) (fun c201 => ?_)
                  · skip
                    refine to_iconst (dat dk_X12_isDate 82 rfl) ?_
                    exact to_zret rfl (dat dk_X12_isDate 83 rfl) (by decide) (ri_mk (by decide) ⟨hI, (Fr.rf _ _), (by decide), (show (0 : Int) = bi (datOK (hr h) (Int.toNat f) (Int.toNat g)) by omega)⟩)
                  · skip
                    refine to_iload (dat dk_X12_isDate 72 rfl) rfl ?_
                    refine to_ifeq 161 (dat dk_X12_isDate 73 rfl) rfl (by omega) (fun c202 => ?_) (fun c202 => ?_)
                    · skip
                      exact jn161_n164  (show bi (datOK (hr h) (Int.toNat f) (Int.toNat g)) = 1 by omega)
                    · skip
                      refine to_aload_n (dat dk_X12_isDate 74 rfl) rfl (to_iload (dat dk_X12_isDate 75 rfl) rfl (to_iconst (dat dk_X12_isDate 76 rfl) (to_iadd (dat dk_X12_isDate 77 rfl) ?_)))
                      refine to_cL ca_c13_423 (dat dk_X12_isDate 78 rfl) (ct_X12_day_vx l h hI ((f + 8) + 2) (by omega) (show 0 ≤ ((f + 8) + 2) ∧ ((f + 8) + 2) + 8 ≤ 1200 by omega)) rfl ⟨_, _, rfl, (hI.atS rfl)⟩ rfl (fun x203 h204 p205 => ?_)
                      obtain ⟨rfl, p205_0⟩ := p205
                      refine to_ldc2 (v := (-1)) (x := -1) (tin 8 9 (by decide +kernel) rfl) (by decide +kernel) (dat dk_X12_isDate 79 rfl) ?_
                      refine to_lcmpx (show L64 x203 by unfold L64; omega) (show L64 (-1) by unfold L64; omega) (dat dk_X12_isDate 80 rfl) (fun x206 rx206 jx206 => ?_)
                      refine to_ifne 161 (dat dk_X12_isDate 81 rfl) rfl rx206 (fun c207 => ?_) (fun c207 => ?_)
                      · skip
                        exact jn161_n164  (show bi (datOK (hr h) (Int.toNat f) (Int.toNat g)) = 1 by omega)
                      · skip
                        refine to_iconst (dat dk_X12_isDate 82 rfl) ?_
                        exact to_zret rfl (dat dk_X12_isDate 83 rfl) (by decide) (ri_mk (by decide) ⟨hI, (Fr.rf _ _), (by decide), (show (0 : Int) = bi (datOK (hr h) (Int.toNat f) (Int.toNat g)) by omega)⟩)
              · skip
                refine to_iconst (dat dk_X12_isDate 62 rfl) ?_
                exact to_zret rfl (dat dk_X12_isDate 63 rfl) (by decide) (ri_mk (by decide) ⟨hI, (Fr.rf _ _), (by decide), (show (0 : Int) = bi (datOK (hr h) (Int.toNat f) (Int.toNat g)) by omega)⟩)
    refine to_iload (dat dk_X12_isDate 20 rfl) rfl (to_bipush (dat dk_X12_isDate 21 rfl) (by decide) ?_)
    refine to_ine 55 (dat dk_X12_isDate 22 rfl) rfl (by omega) (by decide) (fun c208 => ?_) (fun c208 => ?_)
    · skip
      refine to_iload (dat dk_X12_isDate 29 rfl) rfl (to_bipush (dat dk_X12_isDate 30 rfl) (by decide) ?_)
      refine to_ine 66 (dat dk_X12_isDate 31 rfl) rfl (by omega) (by decide) (fun c209 => ?_) (fun c209 => ?_)
      · skip
        refine to_iconst (dat dk_X12_isDate 34 rfl) ?_
        exact jn67_n6 0 (by decide) (show ((0 : Int) = 1 ∧ (((g - f) = 10 ∧ h.2.2 88 (Int.toNat f) = 46) ∨ (g - f) = 18)) ∨ ((0 : Int) = 0 ∧ (g - f) ≠ 18 ∧ ((g - f) ≠ 10 ∨ h.2.2 88 (Int.toNat f) ≠ 46)) by omega)
      · skip
        refine to_iconst (dat dk_X12_isDate 32 rfl) (to_goto (dat dk_X12_isDate 33 rfl) rfl ?_)
        exact jn67_n6 1 (by decide) (show ((1 : Int) = 1 ∧ (((g - f) = 10 ∧ h.2.2 88 (Int.toNat f) = 46) ∨ (g - f) = 18)) ∨ ((1 : Int) = 0 ∧ (g - f) ≠ 18 ∧ ((g - f) ≠ 10 ∨ h.2.2 88 (Int.toNat f) ≠ 46)) by omega)
    · skip
      refine to_aload_n (dat dk_X12_isDate 23 rfl) rfl (to_getR 88 g_c13_100 (dat dk_X12_isDate 24 rfl) (hI.atS rfl) (hI.atE rfl) (to_iload_n (dat dk_X12_isDate 25 rfl) rfl ?_))
      obtain ⟨x210, ex210⟩ : ∃ y : Int, h.2.2 88 (Int.toNat f) = y := ⟨_, rfl⟩
      have rx210 := hI.atR (a := 88) (j := Int.toNat f) rfl
      rw [ex210] at rx210
      refine to_baldv (q := 1) ex210 (dat dk_X12_isDate 26 rfl) (by decide) (hI.atS rfl) rfl (by decide) (by omega) (to_bipush (dat dk_X12_isDate 27 rfl) (by decide) ?_)
      refine to_ieq 62 (dat dk_X12_isDate 28 rfl) rfl (by omega) (by decide) (fun c211 => ?_) (fun c211 => ?_)
      · skip
        refine to_iconst (dat dk_X12_isDate 32 rfl) (to_goto (dat dk_X12_isDate 33 rfl) rfl ?_)
        exact jn67_n6 1 (by decide) (show ((1 : Int) = 1 ∧ (((g - f) = 10 ∧ h.2.2 88 (Int.toNat f) = 46) ∨ (g - f) = 18)) ∨ ((1 : Int) = 0 ∧ (g - f) ≠ 18 ∧ ((g - f) ≠ 10 ∨ h.2.2 88 (Int.toNat f) ≠ 46)) by omega)
      · skip
        refine to_iload (dat dk_X12_isDate 29 rfl) rfl (to_bipush (dat dk_X12_isDate 30 rfl) (by decide) ?_)
        refine to_ine 66 (dat dk_X12_isDate 31 rfl) rfl (by omega) (by decide) (fun c212 => ?_) (fun c212 => ?_)
        · skip
          refine to_iconst (dat dk_X12_isDate 34 rfl) ?_
          exact jn67_n6 0 (by decide) (show ((0 : Int) = 1 ∧ (((g - f) = 10 ∧ h.2.2 88 (Int.toNat f) = 46) ∨ (g - f) = 18)) ∨ ((0 : Int) = 0 ∧ (g - f) ≠ 18 ∧ ((g - f) ≠ 10 ∨ h.2.2 88 (Int.toNat f) ≠ 46)) by omega)
        · skip
          refine to_iconst (dat dk_X12_isDate 32 rfl) (to_goto (dat dk_X12_isDate 33 rfl) rfl ?_)
          exact jn67_n6 1 (by decide) (show ((1 : Int) = 1 ∧ (((g - f) = 10 ∧ h.2.2 88 (Int.toNat f) = 46) ∨ (g - f) = 18)) ∨ ((1 : Int) = 0 ∧ (g - f) ≠ 18 ∧ ((g - f) ≠ 10 ∨ h.2.2 88 (Int.toNat f) ≠ 46)) by omega)
  refine to_iload (dat dk_X12_isDate 4 rfl) rfl (to_bipush (dat dk_X12_isDate 5 rfl) (by decide) ?_)
  refine to_ine 23 (dat dk_X12_isDate 6 rfl) rfl (by omega) (by decide) (fun c213 => ?_) (fun c213 => ?_)
  · skip
    refine to_iload (dat dk_X12_isDate 13 rfl) rfl (to_bipush (dat dk_X12_isDate 14 rfl) (by decide) ?_)
    refine to_ine 34 (dat dk_X12_isDate 15 rfl) rfl (by omega) (by decide) (fun c214 => ?_) (fun c214 => ?_)
    · skip
      refine to_iconst (dat dk_X12_isDate 18 rfl) ?_
      exact jn35_n3 0 (by decide) (show ((0 : Int) = 1 ∧ (((g - f) = 10 ∧ h.2.2 88 (Int.toNat f) ≠ 46) ∨ (g - f) = 18)) ∨ ((0 : Int) = 0 ∧ (g - f) ≠ 18 ∧ ((g - f) ≠ 10 ∨ h.2.2 88 (Int.toNat f) = 46)) by omega)
    · skip
      refine to_iconst (dat dk_X12_isDate 16 rfl) (to_goto (dat dk_X12_isDate 17 rfl) rfl ?_)
      exact jn35_n3 1 (by decide) (show ((1 : Int) = 1 ∧ (((g - f) = 10 ∧ h.2.2 88 (Int.toNat f) ≠ 46) ∨ (g - f) = 18)) ∨ ((1 : Int) = 0 ∧ (g - f) ≠ 18 ∧ ((g - f) ≠ 10 ∨ h.2.2 88 (Int.toNat f) = 46)) by omega)
  · skip
    refine to_aload_n (dat dk_X12_isDate 7 rfl) rfl (to_getR 88 g_c13_100 (dat dk_X12_isDate 8 rfl) (hI.atS rfl) (hI.atE rfl) (to_iload_n (dat dk_X12_isDate 9 rfl) rfl ?_))
    obtain ⟨x215, ex215⟩ : ∃ y : Int, h.2.2 88 (Int.toNat f) = y := ⟨_, rfl⟩
    have rx215 := hI.atR (a := 88) (j := Int.toNat f) rfl
    rw [ex215] at rx215
    refine to_baldv (q := 1) ex215 (dat dk_X12_isDate 10 rfl) (by decide) (hI.atS rfl) rfl (by decide) (by omega) (to_bipush (dat dk_X12_isDate 11 rfl) (by decide) ?_)
    refine to_ine 30 (dat dk_X12_isDate 12 rfl) rfl (by omega) (by decide) (fun c216 => ?_) (fun c216 => ?_)
    · skip
      refine to_iconst (dat dk_X12_isDate 16 rfl) (to_goto (dat dk_X12_isDate 17 rfl) rfl ?_)
      exact jn35_n3 1 (by decide) (show ((1 : Int) = 1 ∧ (((g - f) = 10 ∧ h.2.2 88 (Int.toNat f) ≠ 46) ∨ (g - f) = 18)) ∨ ((1 : Int) = 0 ∧ (g - f) ≠ 18 ∧ ((g - f) ≠ 10 ∨ h.2.2 88 (Int.toNat f) = 46)) by omega)
    · skip
      refine to_iload (dat dk_X12_isDate 13 rfl) rfl (to_bipush (dat dk_X12_isDate 14 rfl) (by decide) ?_)
      refine to_ine 34 (dat dk_X12_isDate 15 rfl) rfl (by omega) (by decide) (fun c217 => ?_) (fun c217 => ?_)
      · skip
        refine to_iconst (dat dk_X12_isDate 18 rfl) ?_
        exact jn35_n3 0 (by decide) (show ((0 : Int) = 1 ∧ (((g - f) = 10 ∧ h.2.2 88 (Int.toNat f) ≠ 46) ∨ (g - f) = 18)) ∨ ((0 : Int) = 0 ∧ (g - f) ≠ 18 ∧ ((g - f) ≠ 10 ∨ h.2.2 88 (Int.toNat f) = 46)) by omega)
      · skip
        refine to_iconst (dat dk_X12_isDate 16 rfl) (to_goto (dat dk_X12_isDate 17 rfl) rfl ?_)
        exact jn35_n3 1 (by decide) (show ((1 : Int) = 1 ∧ (((g - f) = 10 ∧ h.2.2 88 (Int.toNat f) ≠ 46) ∨ (g - f) = 18)) ∨ ((1 : Int) = 0 ∧ (g - f) ≠ 18 ∧ ((g - f) ≠ 10 ∨ h.2.2 88 (Int.toNat f) = 46)) by omega)
abbrev Q_X12_one_vx (h : Hp) (p : Int) (e : Int) : Option V → Hp → Nat → Nat → Prop := RI (fun x H => Inv H ∧ Fr [89, 90, 91, 92, 93, 94, 95, 245, 246] h H ∧ (Val H) ∧ (LfOK H) ∧ (x = -1 ∨ (p < x ∧ x ≤ H.2.2 60 44 ∧ H.2.2 60 45 = h.2.2 60 45 + 1 ∧ H.2.2 60 46 = h.2.2 60 46 + 1 ∧ htq H = htq h + 1 ∧ (p + 2 ≤ x ∨ (h.2.2 88 (Int.toNat p) ≠ 34 ∧ x = e)))) ∧ (x = oneQ (hr h) (hn h) (Int.toNat p) (Int.toNat e)))
set_option maxRecDepth 100000 in
theorem ct_X12_one_vx (l : Launch) (h : Hp) (hI : Inv h) (p : Int) (hp : I32 p) (e : Int) (he : I32 e) (g0 : 0 ≤ p ∧ p < h.2.2 60 44) (g1 : p ≤ e ∧ e ≤ h.2.2 60 44) (g2 : Val h) (g3 : LfOK h) (g4 : htq h ≤ h.2.2 60 45) (g5 : h.2.2 60 45 ≤ 809) (g6 : h.2.2 60 46 ≤ 2999) (g7 : e = h.2.2 60 44 ∨ sp (h.2.2 88 (Int.toNat e)) = 1) (g8 : p < e ∨ h.2.2 88 (Int.toNat p) = 34) : Ct l D_X12_one 5 119 [.inr (.inr 60), .inl p, .inl e] h (Q_X12_one_vx h p e) := by
  refine ct_of pn_X12_one (Nat.le_of_ble_eq_true rfl) ?_
  show To l E_X12_one (0, [(0, .inr (.inr 60)), (1, .inl p), (2, .inl e)], [], h, 0, 0) _
  have zh := hn_is hI
  obtain ⟨x1, ex1⟩ : ∃ y : Int, h.2.2 60 44 = y := ⟨_, rfl⟩
  have rx1 := hI.atR (a := 60) (j := 44) rfl
  rw [ex1] at rx1
  obtain ⟨x2, ex2⟩ : ∃ y : Int, h.2.2 60 45 = y := ⟨_, rfl⟩
  have rx2 := hI.atR (a := 60) (j := 45) rfl
  rw [ex2] at rx2
  obtain ⟨x3, ex3⟩ : ∃ y : Int, h.2.2 60 46 = y := ⟨_, rfl⟩
  have rx3 := hI.atR (a := 60) (j := 46) rfl
  rw [ex3] at rx3
  refine to_aload_n (dat dk_X12_one 0 rfl) rfl (to_getR 88 g_c13_100 (dat dk_X12_one 1 rfl) (hI.atS rfl) (hI.atE rfl) (to_iload_n (dat dk_X12_one 2 rfl) rfl ?_))
  obtain ⟨x4, ex4⟩ : ∃ y : Int, h.2.2 88 (Int.toNat p) = y := ⟨_, rfl⟩
  have rx4 := hI.atR (a := 88) (j := Int.toNat p) rfl
  rw [ex4] at rx4
  refine to_baldv (q := 1) ex4 (dat dk_X12_one 3 rfl) (by decide) (hI.atS rfl) rfl (by decide) (by omega) (to_bipush (dat dk_X12_one 4 rfl) (by decide) ?_)
  refine to_ine 47 (dat dk_X12_one 5 rfl) rfl (by omega) (by decide) (fun c5 => ?_) (fun c5 => ?_)
  · skip
    have z34 : hr h (Int.toNat p) ≠ 34 := (show h.2.2 88 (Int.toNat p) ≠ 34 by omega)
    refine to_aload_n (dat dk_X12_one 33 rfl) rfl (to_iload_n (dat dk_X12_one 34 rfl) rfl (to_iload_n (dat dk_X12_one 35 rfl) rfl ?_))
    refine to_cI ca_c13_434 (dat dk_X12_one 36 rfl) (ct_X12_fieldOf_vx l h hI p hp e he (show 0 ≤ p ∧ p ≤ e by omega) (show e ≤ h.2.2 60 44 by omega)) rfl ⟨_, _, rfl, (hI.atS rfl)⟩ rfl (fun x6 h7 rx6 p8 => ?_)
    obtain ⟨rfl, p8_0, p8_1⟩ := p8
    refine to_istore_n (L' := [(0, .inr (.inr 60)), (1, .inl p), (2, .inl e), (3, .inl x6)]) (dat dk_X12_one 37 rfl) (by decide) rfl (to_iload_n (dat dk_X12_one 38 rfl) rfl (to_iconst (dat dk_X12_one 39 rfl) ?_))
    refine to_ine 76 (dat dk_X12_one 40 rfl) rfl rx6 (by decide) (fun c9 => ?_) (fun c9 => ?_)
    · skip
      have z10 := FE_c (f := x6) (by omega)
      have zf : fld (hr h) (Int.toNat p) (Int.toNat e) = Int.toNat x6 := by have := p8_1; omega
      have zl := (FE_len (f := x6) (by omega)).1
      rw [← zf] at zl
      have zf7 : 0 ≤ x6 ∧ x6 ≤ 7 := by omega
      refine to_iload_n (dat dk_X12_one 53 rfl) rfl (to_gst (C := "MailArchiveModel") (f9 := "FIELD_ENDS") (d9 := "[I") (List.mem_of_getElem? (i := 8) rfl) (tin 7 233 (by decide +kernel) rfl) (dat dk_X12_one 54 rfl) (to_iload_n (dat dk_X12_one 55 rfl) rfl (to_iconst (dat dk_X12_one 56 rfl) (to_iadd (dat dk_X12_one 57 rfl) ?_))))
      refine to_ialdFE (dat dk_X12_one 58 rfl) (by omega) ?_
      refine to_iadd (dat dk_X12_one 59 rfl) (to_gst (C := "MailArchiveModel") (f9 := "FIELD_ENDS") (d9 := "[I") (List.mem_of_getElem? (i := 8) rfl) (tin 7 233 (by decide +kernel) rfl) (dat dk_X12_one 60 rfl) (to_iload_n (dat dk_X12_one 61 rfl) rfl ?_))
      refine to_ialdFE (dat dk_X12_one 62 rfl) (by omega) ?_
      refine to_isub (dat dk_X12_one 63 rfl) (to_istore (L' := [(0, .inr (.inr 60)), (1, .inl p), (2, .inl e), (3, .inl x6), (4, .inl ((p + (FE (x6 + 1))) - (FE x6)))]) (dat dk_X12_one 64 rfl) (by decide) rfl (to_iload (dat dk_X12_one 65 rfl) rfl (to_iload_n (dat dk_X12_one 66 rfl) rfl ?_)))
      refine to_ine 166 (dat dk_X12_one 67 rfl) rfl (by omega) he (fun c13 => ?_) (fun c13 => ?_)
      · skip
        refine to_aload_n (dat dk_X12_one 110 rfl) rfl (to_iload_n (dat dk_X12_one 111 rfl) rfl (to_iload (dat dk_X12_one 112 rfl) rfl (to_iload_n (dat dk_X12_one 113 rfl) rfl (to_iconst (dat dk_X12_one 114 rfl) ?_))))
        refine to_cI ca_c13_430 (dat dk_X12_one 115 rfl) (ct_X12_leaf_vb l h hI x6 rx6 ((p + (FE (x6 + 1))) - (FE x6)) (by omega) e he 0 (by decide) (show 0 ≤ ((p + (FE (x6 + 1))) - (FE x6)) ∧ ((p + (FE (x6 + 1))) - (FE x6)) ≤ 1200 by omega) (show 0 ≤ e ∧ e ≤ 1200 by omega) (show 0 ≤ x6 ∧ x6 ≤ 8 by omega) (show h.2.2 60 45 ≤ 809 by omega) g3 (show ((p + (FE (x6 + 1))) - (FE x6)) ≤ e ∧ ((0 : Int) = 1 ∨ 1 ≤ e) by omega)) rfl ⟨_, _, rfl, (hI.atS rfl)⟩ rfl (fun x14 h15 rx14 p16 => ?_)
        obtain ⟨Ih15, fh15, p16_0, p16_1, p16_2⟩ := p16
        have f17 : Fr [89, 90, 91, 92, 93, 94, 95, 245, 246] h h15 := Fr.sub (Fr.rf _ _) fh15 rfl
        have t18 : htq h15 = htq h := htq_fr fh15 hI rfl
        obtain ⟨x19, ex19⟩ : ∃ y : Int, h15.2.2 60 45 = y := ⟨_, rfl⟩
        have rx19 := Ih15.atR (a := 60) (j := 45) rfl
        rw [ex19] at rx19
        have q20 : Val h15 := Val.mono (fh15.arr hI (a := 95) (by decide) (fun _ => rfl)) (fh15.getF hI (a := 60) (j := 46) (by decide) rfl) (by omega) g2
        refine to_istore (L' := [(0, .inr (.inr 60)), (1, .inl p), (2, .inl e), (3, .inl x6), (4, .inl ((p + (FE (x6 + 1))) - (FE x6))), (5, .inl x14)]) (dat dk_X12_one 116 rfl) (by decide) rfl ?_
        have jn211_n25 : ∀ (h21 : Hp), (Inv h21) → (Fr [89, 90, 91, 92, 93, 94, 95, 245, 246] h h21) → (Val h21) → (LfOK h21) → (oneQ (hr h) (hn h) (Int.toNat p) (Int.toNat e) = -1) → To l E_X12_one (211, [(0, .inr (.inr 60)), (1, .inl p), (2, .inl e), (3, .inl x6), (4, .inl ((p + (FE (x6 + 1))) - (FE x6))), (5, .inl x14)], [], h21, 0, 0) (Q_X12_one_vx h p e) := by
          intro h21 Ih21 fh21 c22 c23 c24
          refine to_iconst (dat dk_X12_one 134 rfl) ?_
          have e26 : h21.2.2 60 44 = x1 := ((Fr.get fh21 (by have := hI.1.1; omega) rfl).trans ex1)
          exact to_iret rfl (dat dk_X12_one 135 rfl) (ri_mk (by decide) ⟨Ih21, fh21, c22, c23, (show (-1 : Int) = -1 ∨ (p < (-1 : Int) ∧ (-1 : Int) ≤ h21.2.2 60 44 ∧ h21.2.2 60 45 = h.2.2 60 45 + 1 ∧ h21.2.2 60 46 = h.2.2 60 46 + 1 ∧ htq h21 = htq h + 1 ∧ (p + 2 ≤ (-1 : Int) ∨ (h.2.2 88 (Int.toNat p) ≠ 34 ∧ (-1 : Int) = e))) by omega), (show (-1 : Int) = oneQ (hr h) (hn h) (Int.toNat p) (Int.toNat e) by omega)⟩)
        have jn213_n34 : ∀ (h27 : Hp), (Inv h27) → (Fr [89, 90, 91, 92, 93, 94, 95, 245, 246] h h27) → (Val h27) → (LfOK h27) → (htq h27 = htq h) → (h27.2.2 60 45 = h.2.2 60 45 + 1) → (h27.2.2 60 46 = h.2.2 60 46) → (oneQ (hr h) (hn h) (Int.toNat p) (Int.toNat e) = ((Int.toNat e) : Nat)) → To l E_X12_one (213, [(0, .inr (.inr 60)), (1, .inl p), (2, .inl e), (3, .inl x6), (4, .inl ((p + (FE (x6 + 1))) - (FE x6))), (5, .inl x14)], [], h27, 0, 0) (Q_X12_one_vx h p e) := by
          intro h27 Ih27 fh27 c28 c29 c30 c31 c32 c33
          obtain ⟨x35, ex35⟩ : ∃ y : Int, h27.2.2 60 45 = y := ⟨_, rfl⟩
          have rx35 := Ih27.atR (a := 60) (j := 45) rfl
          rw [ex35] at rx35
          obtain ⟨x36, ex36⟩ : ∃ y : Int, h27.2.2 60 46 = y := ⟨_, rfl⟩
          have rx36 := Ih27.atR (a := 60) (j := 46) rfl
          rw [ex36] at rx36
          refine to_aload_n (dat dk_X12_one 136 rfl) rfl (to_iconst (dat dk_X12_one 137 rfl) (to_iload (dat dk_X12_one 138 rfl) rfl (to_iadd (dat dk_X12_one 139 rfl) ?_)))
          refine to_cV ca_c13_409 (dat dk_X12_one 140 rfl) (ct_X12_done_vb l h27 Ih27 (1 + x14) (by omega) (show -4 ≤ (1 + x14) ∧ (1 + x14) ≤ 810 by omega) (show h27.2.2 60 46 ≤ 2999 by omega)) rfl ⟨_, _, rfl, (Ih27.atS rfl)⟩ rfl (fun h38 p39 => ?_)
          obtain ⟨Ih38, fh38, p39_0, p39_1⟩ := p39
          have f40 : Fr [89, 90, 91, 92, 93, 94, 95, 245, 246] h h38 := Fr.sub fh27 fh38 rfl
          have t41 : LfOK h38 := LfOK_fr fh38 Ih27 rfl c29
          obtain ⟨x42, ex42⟩ : ∃ y : Int, h38.2.2 60 46 = y := ⟨_, rfl⟩
          have rx42 := Ih38.atR (a := 60) (j := 46) rfl
          rw [ex42] at rx42
          have q43 := DoneP.sum p39_1 (Ih27.atR (a := 60) (j := 46) rfl).1
          have q44 := hs_c (1 + x14)
          have q45 := p39_1.2.2.2
          have q46 : Val h38 := DoneP.val p39_1 (Ih27.atR (a := 60) (j := 46) rfl).1 c28 (by omega) (by omega) (by omega)
          refine to_iload_n (dat dk_X12_one 141 rfl) rfl ?_
          have e47 : h38.2.2 60 44 = x1 := ((Fr.get fh38 (by have := Ih27.1.1; omega) rfl).trans ((Fr.get fh27 (by have := hI.1.1; omega) rfl).trans ex1))
          have e48 : h38.2.2 60 45 = x35 := ((Fr.get fh38 (by have := Ih27.1.1; omega) rfl).trans ex35)
          exact to_iret rfl (dat dk_X12_one 142 rfl) (ri_mk he ⟨Ih38, f40, q46, t41, (show e = -1 ∨ (p < e ∧ e ≤ h38.2.2 60 44 ∧ h38.2.2 60 45 = h.2.2 60 45 + 1 ∧ h38.2.2 60 46 = h.2.2 60 46 + 1 ∧ htq h38 = htq h + 1 ∧ (p + 2 ≤ e ∨ (h.2.2 88 (Int.toNat p) ≠ 34 ∧ e = e))) by omega), (show e = oneQ (hr h) (hn h) (Int.toNat p) (Int.toNat e) by omega)⟩)
        refine to_iload_n (dat dk_X12_one 117 rfl) rfl (to_bipush (dat dk_X12_one 118 rfl) (by decide) ?_)
        refine to_ine 193 (dat dk_X12_one 119 rfl) rfl rx6 (by decide) (fun c49 => ?_) (fun c49 => ?_)
        · skip
          refine to_iload_n (dat dk_X12_one 125 rfl) rfl (to_bipush (dat dk_X12_one 126 rfl) (by decide) ?_)
          refine to_ine 213 (dat dk_X12_one 127 rfl) rfl rx6 (by decide) (fun c50 => ?_) (fun c50 => ?_)
          · skip
            have e51 : h15.2.2 60 46 = x3 := ((Fr.get fh15 (by have := hI.1.1; omega) rfl).trans ex3)
            exact jn213_n34 h15 Ih15 f17 q20 p16_2 t18 (show h15.2.2 60 45 = h.2.2 60 45 + 1 by omega) (show h15.2.2 60 46 = h.2.2 60 46 by omega) (oEl z34 (by omega) (by omega) (by omega) (by omega))
          · skip
            refine to_aload_n (dat dk_X12_one 128 rfl) rfl (to_iload (dat dk_X12_one 129 rfl) rfl (to_iload_n (dat dk_X12_one 130 rfl) rfl (to_iload (dat dk_X12_one 131 rfl) rfl ?_)))
            refine to_cI ca_c13_440 (dat dk_X12_one 132 rfl) (ct_X12_isDate_vx l h15 Ih15 ((p + (FE (x6 + 1))) - (FE x6)) (by omega) e he x14 rx14 (show 0 ≤ ((p + (FE (x6 + 1))) - (FE x6)) ∧ ((p + (FE (x6 + 1))) - (FE x6)) ≤ 1200 by omega) (show 0 ≤ e ∧ e ≤ 1200 by omega) (show 0 ≤ x14 ∧ x14 ≤ 809 by omega)) rfl ⟨_, _, rfl, (Ih15.atS rfl)⟩ rfl (fun x52 h53 rx52 p54 => ?_)
            obtain ⟨Ih53, fh53, zx52, p54_0⟩ := p54
            have f55 : Fr [89, 90, 91, 92, 93, 94, 95, 245, 246] h h53 := Fr.sub f17 fh53 rfl
            have t56 : Val h53 := Val_fr fh53 Ih15 rfl q20
            have t57 : LfOK h53 := LfOK_fr fh53 Ih15 rfl p16_2
            have t58 : htq h53 = htq h15 := htq_fr fh53 Ih15 rfl
            rw [(hr_fr f17 hI rfl), show Int.toNat ((p + (FE (x6 + 1))) - (FE x6)) = ((Int.toNat p) + (FN (fld (hr h) (Int.toNat p) (Int.toNat e))).length) by omega] at p54_0
            refine to_ifne 213 (dat dk_X12_one 133 rfl) rfl rx52 (fun c59 => ?_) (fun c59 => ?_)
            · skip
              have e60 : h53.2.2 60 45 = x19 := ((Fr.get fh53 (by have := Ih15.1.1; omega) rfl).trans ex19)
              have e61 : h53.2.2 60 46 = x3 := ((Fr.get fh53 (by have := Ih15.1.1; omega) rfl).trans ((Fr.get fh15 (by have := hI.1.1; omega) rfl).trans ex3))
              exact jn213_n34 h53 Ih53 f55 t56 t57 (t58.trans t18) (show h53.2.2 60 45 = h.2.2 60 45 + 1 by omega) (show h53.2.2 60 46 = h.2.2 60 46 by omega) (o7y z34 (by omega) (by omega) (by omega))
            · skip
              exact jn211_n25 h53 Ih53 f55 t56 t57 (o7n z34 (by omega) (by omega) (by omega))
        · skip
          refine to_aload_n (dat dk_X12_one 120 rfl) rfl (to_iload (dat dk_X12_one 121 rfl) rfl (to_iload_n (dat dk_X12_one 122 rfl) rfl ?_))
          refine to_cI ca_c13_437 (dat dk_X12_one 123 rfl) (ct_X12_isNumber_vx l h15 Ih15 ((p + (FE (x6 + 1))) - (FE x6)) (by omega) e he (show 0 ≤ ((p + (FE (x6 + 1))) - (FE x6)) ∧ ((p + (FE (x6 + 1))) - (FE x6)) ≤ 1200 by omega) (show 0 ≤ e ∧ e ≤ 1200 by omega)) rfl ⟨_, _, rfl, (Ih15.atS rfl)⟩ rfl (fun x62 h63 rx62 p64 => ?_)
          obtain ⟨rfl, zx62, p64_0⟩ := p64
          rw [(hr_fr f17 hI rfl), show Int.toNat ((p + (FE (x6 + 1))) - (FE x6)) = ((Int.toNat p) + (FN (fld (hr h) (Int.toNat p) (Int.toNat e))).length) by omega] at p64_0
          refine to_ifeq 211 (dat dk_X12_one 124 rfl) rfl rx62 (fun c65 => ?_) (fun c65 => ?_)
          · skip
            exact jn211_n25 h15 Ih15 f17 q20 p16_2 (o6nK z34 (by omega) (by omega) (by omega))
          · skip
            refine to_iload_n (dat dk_X12_one 125 rfl) rfl (to_bipush (dat dk_X12_one 126 rfl) (by decide) ?_)
            refine to_ine 213 (dat dk_X12_one 127 rfl) rfl rx6 (by decide) (fun c66 => ?_) (fun c66 => ?_)
            · skip
              have e67 : h15.2.2 60 46 = x3 := ((Fr.get fh15 (by have := hI.1.1; omega) rfl).trans ex3)
              exact jn213_n34 h15 Ih15 f17 q20 p16_2 t18 (show h15.2.2 60 45 = h.2.2 60 45 + 1 by omega) (show h15.2.2 60 46 = h.2.2 60 46 by omega) (o6yK z34 (by omega) (by omega) (by omega))
            · skip
              refine to_aload_n (dat dk_X12_one 128 rfl) rfl (to_iload (dat dk_X12_one 129 rfl) rfl (to_iload_n (dat dk_X12_one 130 rfl) rfl (to_iload (dat dk_X12_one 131 rfl) rfl ?_)))
              refine to_cI ca_c13_440 (dat dk_X12_one 132 rfl) (ct_X12_isDate_vx l h15 Ih15 ((p + (FE (x6 + 1))) - (FE x6)) (by omega) e he x14 rx14 (show 0 ≤ ((p + (FE (x6 + 1))) - (FE x6)) ∧ ((p + (FE (x6 + 1))) - (FE x6)) ≤ 1200 by omega) (show 0 ≤ e ∧ e ≤ 1200 by omega) (show 0 ≤ x14 ∧ x14 ≤ 809 by omega)) rfl ⟨_, _, rfl, (Ih15.atS rfl)⟩ rfl (fun x68 h69 rx68 p70 => ?_)
              obtain ⟨Ih69, fh69, zx68, p70_0⟩ := p70
              have f71 : Fr [89, 90, 91, 92, 93, 94, 95, 245, 246] h h69 := Fr.sub f17 fh69 rfl
              have t72 : Val h69 := Val_fr fh69 Ih15 rfl q20
              have t73 : LfOK h69 := LfOK_fr fh69 Ih15 rfl p16_2
              have t74 : htq h69 = htq h15 := htq_fr fh69 Ih15 rfl
              rw [(hr_fr f17 hI rfl), show Int.toNat ((p + (FE (x6 + 1))) - (FE x6)) = ((Int.toNat p) + (FN (fld (hr h) (Int.toNat p) (Int.toNat e))).length) by omega] at p70_0
              refine to_ifne 213 (dat dk_X12_one 133 rfl) rfl rx68 (fun c75 => ?_) (fun c75 => ?_)
              · skip
                have e76 : h69.2.2 60 45 = x19 := ((Fr.get fh69 (by have := Ih15.1.1; omega) rfl).trans ex19)
                have e77 : h69.2.2 60 46 = x3 := ((Fr.get fh69 (by have := Ih15.1.1; omega) rfl).trans ((Fr.get fh15 (by have := hI.1.1; omega) rfl).trans ex3))
                exact jn213_n34 h69 Ih69 f71 t72 t73 (t74.trans t18) (show h69.2.2 60 45 = h.2.2 60 45 + 1 by omega) (show h69.2.2 60 46 = h.2.2 60 46 by omega) (o7y z34 (by omega) (by omega) (by omega))
              · skip
                exact jn211_n25 h69 Ih69 f71 t72 t73 (o7n z34 (by omega) (by omega) (by omega))
      · skip
        have jn134_n81 : ∀ (y78 : Int), (I32 y78) → (y78 = -1 ∨ (e < y78 ∧ y78 < h.2.2 60 44)) → ((y78 = -1 ∧ oneQ (hr h) (hn h) (Int.toNat p) (Int.toNat e) = -1) ∨ (y78 ≠ -1 ∧ oneQ (hr h) (hn h) (Int.toNat p) (Int.toNat e) = y78 + 1)) → To l E_X12_one (134, [(0, .inr (.inr 60)), (1, .inl p), (2, .inl e), (3, .inl x6), (4, .inl ((p + (FE (x6 + 1))) - (FE x6)))], [.inl y78], h, 0, 0) (Q_X12_one_vx h p e) := by
          intro y78 ry78 c79 c80
          refine to_istore (L' := [(0, .inr (.inr 60)), (1, .inl p), (2, .inl e), (3, .inl x6), (4, .inl ((p + (FE (x6 + 1))) - (FE x6))), (5, .inl y78)]) (dat dk_X12_one 88 rfl) (by decide) rfl (to_iload (dat dk_X12_one 89 rfl) rfl (to_iconst (dat dk_X12_one 90 rfl) ?_))
          refine to_ine 144 (dat dk_X12_one 91 rfl) rfl ry78 (by decide) (fun c82 => ?_) (fun c82 => ?_)
          · skip
            refine to_aload_n (dat dk_X12_one 94 rfl) rfl (to_iconst (dat dk_X12_one 95 rfl) (to_aload_n (dat dk_X12_one 96 rfl) rfl (to_iload_n (dat dk_X12_one 97 rfl) rfl (to_iload_n (dat dk_X12_one 98 rfl) rfl (to_iconst (dat dk_X12_one 99 rfl) (to_iadd (dat dk_X12_one 100 rfl) (to_iload (dat dk_X12_one 101 rfl) rfl (to_iconst (dat dk_X12_one 102 rfl) ?_))))))))
            refine to_cI ca_c13_430 (dat dk_X12_one 103 rfl) (ct_X12_leaf_vb l h hI x6 rx6 (e + 1) (by omega) y78 ry78 1 (by decide) (show 0 ≤ (e + 1) ∧ (e + 1) ≤ 1200 by omega) (show 0 ≤ y78 ∧ y78 ≤ 1200 by omega) (show 0 ≤ x6 ∧ x6 ≤ 8 by omega) (show h.2.2 60 45 ≤ 809 by omega) g3 (show (e + 1) ≤ y78 ∧ ((1 : Int) = 1 ∨ 1 ≤ y78) by omega)) rfl ⟨_, _, rfl, (hI.atS rfl)⟩ rfl (fun x83 h84 rx83 p85 => ?_)
            obtain ⟨Ih84, fh84, p85_0, p85_1, p85_2⟩ := p85
            have f86 : Fr [89, 90, 91, 92, 93, 94, 95, 245, 246] h h84 := Fr.sub (Fr.rf _ _) fh84 rfl
            have t87 : htq h84 = htq h := htq_fr fh84 hI rfl
            obtain ⟨x88, ex88⟩ : ∃ y : Int, h84.2.2 60 45 = y := ⟨_, rfl⟩
            have rx88 := Ih84.atR (a := 60) (j := 45) rfl
            rw [ex88] at rx88
            have q89 : Val h84 := Val.mono (fh84.arr hI (a := 95) (by decide) (fun _ => rfl)) (fh84.getF hI (a := 60) (j := 46) (by decide) rfl) (by omega) g2
            refine to_iadd (dat dk_X12_one 104 rfl) ?_
            have e90 : h84.2.2 60 46 = x3 := ((Fr.get fh84 (by have := hI.1.1; omega) rfl).trans ex3)
            refine to_cV ca_c13_409 (dat dk_X12_one 105 rfl) (ct_X12_done_vb l h84 Ih84 (1 + x83) (by omega) (show -4 ≤ (1 + x83) ∧ (1 + x83) ≤ 810 by omega) (show h84.2.2 60 46 ≤ 2999 by omega)) rfl ⟨_, _, rfl, (Ih84.atS rfl)⟩ rfl (fun h92 p93 => ?_)
            obtain ⟨Ih92, fh92, p93_0, p93_1⟩ := p93
            have f94 : Fr [89, 90, 91, 92, 93, 94, 95, 245, 246] h h92 := Fr.sub f86 fh92 rfl
            have t95 : LfOK h92 := LfOK_fr fh92 Ih84 rfl p85_2
            obtain ⟨x96, ex96⟩ : ∃ y : Int, h92.2.2 60 46 = y := ⟨_, rfl⟩
            have rx96 := Ih92.atR (a := 60) (j := 46) rfl
            rw [ex96] at rx96
            have q97 := DoneP.sum p93_1 (Ih84.atR (a := 60) (j := 46) rfl).1
            have q98 := hs_c (1 + x83)
            have q99 := p93_1.2.2.2
            have q100 : Val h92 := DoneP.val p93_1 (Ih84.atR (a := 60) (j := 46) rfl).1 q89 (by omega) (by omega) (by omega)
            refine to_iload (dat dk_X12_one 106 rfl) rfl (to_iconst (dat dk_X12_one 107 rfl) (to_iadd (dat dk_X12_one 108 rfl) ?_))
            have e101 : h92.2.2 60 44 = x1 := ((Fr.get fh92 (by have := Ih84.1.1; omega) rfl).trans ((Fr.get fh84 (by have := hI.1.1; omega) rfl).trans ex1))
            have e102 : h92.2.2 60 45 = x88 := ((Fr.get fh92 (by have := Ih84.1.1; omega) rfl).trans ex88)
            exact to_iret rfl (dat dk_X12_one 109 rfl) (ri_mk (by omega) ⟨Ih92, f94, q100, t95, (show (y78 + 1) = -1 ∨ (p < (y78 + 1) ∧ (y78 + 1) ≤ h92.2.2 60 44 ∧ h92.2.2 60 45 = h.2.2 60 45 + 1 ∧ h92.2.2 60 46 = h.2.2 60 46 + 1 ∧ htq h92 = htq h + 1 ∧ (p + 2 ≤ (y78 + 1) ∨ (h.2.2 88 (Int.toNat p) ≠ 34 ∧ (y78 + 1) = e))) by omega), (show (y78 + 1) = oneQ (hr h) (hn h) (Int.toNat p) (Int.toNat e) by omega)⟩)
          · skip
            refine to_iconst (dat dk_X12_one 92 rfl) ?_
            exact to_iret rfl (dat dk_X12_one 93 rfl) (ri_mk (by decide) ⟨hI, (Fr.rf _ _), g2, g3, (show (-1 : Int) = -1 ∨ (p < (-1 : Int) ∧ (-1 : Int) ≤ h.2.2 60 44 ∧ h.2.2 60 45 = h.2.2 60 45 + 1 ∧ h.2.2 60 46 = h.2.2 60 46 + 1 ∧ htq h = htq h + 1 ∧ (p + 2 ≤ (-1 : Int) ∨ (h.2.2 88 (Int.toNat p) ≠ 34 ∧ (-1 : Int) = e))) by omega), (show (-1 : Int) = oneQ (hr h) (hn h) (Int.toNat p) (Int.toNat e) by omega)⟩)
        refine to_iload_n (dat dk_X12_one 68 rfl) rfl (to_iconst (dat dk_X12_one 69 rfl) ?_)
        refine to_ige 133 (dat dk_X12_one 70 rfl) rfl rx6 (by decide) (fun c103 => ?_) (fun c103 => ?_)
        · skip
          refine to_iconst (dat dk_X12_one 87 rfl) ?_
          exact jn134_n81 (-1) (by decide) (show (-1 : Int) = -1 ∨ (e < (-1 : Int) ∧ (-1 : Int) < h.2.2 60 44) by omega) (Or.inl ⟨by omega, oNo z34 (by omega) (by omega) (by first | exact Or.inl (by omega) | exact Or.inr (Or.inl (by omega)) | exact Or.inr (Or.inr (show h.2.2 88 (Int.toNat e) ≠ 34 by omega)))⟩)
        · skip
          refine to_iload_n (dat dk_X12_one 71 rfl) rfl (to_aload_n (dat dk_X12_one 72 rfl) rfl (to_getIv (y := x1) ex1 g_c13_412 (dat dk_X12_one 73 rfl) (hI.atS rfl) ?_))
          refine to_ige 133 (dat dk_X12_one 74 rfl) rfl he (by omega) (fun c104 => ?_) (fun c104 => ?_)
          · skip
            refine to_iconst (dat dk_X12_one 87 rfl) ?_
            exact jn134_n81 (-1) (by decide) (show (-1 : Int) = -1 ∨ (e < (-1 : Int) ∧ (-1 : Int) < h.2.2 60 44) by omega) (Or.inl ⟨by omega, oNo z34 (by omega) (by omega) (by first | exact Or.inl (by omega) | exact Or.inr (Or.inl (by omega)) | exact Or.inr (Or.inr (show h.2.2 88 (Int.toNat e) ≠ 34 by omega)))⟩)
          · skip
            refine to_aload_n (dat dk_X12_one 75 rfl) rfl (to_getR 88 g_c13_100 (dat dk_X12_one 76 rfl) (hI.atS rfl) (hI.atE rfl) (to_iload_n (dat dk_X12_one 77 rfl) rfl ?_))
            obtain ⟨x105, ex105⟩ : ∃ y : Int, h.2.2 88 (Int.toNat e) = y := ⟨_, rfl⟩
            have rx105 := hI.atR (a := 88) (j := Int.toNat e) rfl
            rw [ex105] at rx105
            refine to_baldv (q := 1) ex105 (dat dk_X12_one 78 rfl) (by decide) (hI.atS rfl) rfl (by decide) (by omega) (to_bipush (dat dk_X12_one 79 rfl) (by decide) ?_)
            refine to_ine 133 (dat dk_X12_one 80 rfl) rfl (by omega) (by decide) (fun c106 => ?_) (fun c106 => ?_)
            · skip
              refine to_iconst (dat dk_X12_one 87 rfl) ?_
              exact jn134_n81 (-1) (by decide) (show (-1 : Int) = -1 ∨ (e < (-1 : Int) ∧ (-1 : Int) < h.2.2 60 44) by omega) (Or.inl ⟨by omega, oNo z34 (by omega) (by omega) (by first | exact Or.inl (by omega) | exact Or.inr (Or.inl (by omega)) | exact Or.inr (Or.inr (show h.2.2 88 (Int.toNat e) ≠ 34 by omega)))⟩)
            · skip
              refine to_aload_n (dat dk_X12_one 81 rfl) rfl (to_iload_n (dat dk_X12_one 82 rfl) rfl (to_iconst (dat dk_X12_one 83 rfl) (to_iadd (dat dk_X12_one 84 rfl) ?_)))
              refine to_cI ca_c13_427 (dat dk_X12_one 85 rfl) (ct_X12_phraseEnd_vx l h hI (e + 1) (by omega) (show 0 ≤ (e + 1) ∧ (e + 1) ≤ 1201 by omega)) rfl ⟨_, _, rfl, (hI.atS rfl)⟩ rfl (fun x107 h108 rx107 p109 => ?_)
              obtain ⟨rfl, p109_0, p109_1⟩ := p109
              rw [show Int.toNat (e + 1) = Int.toNat e + 1 by omega] at p109_1
              have zr : hr h (Int.toNat e) = 34 := (show h.2.2 88 (Int.toNat e) = 34 by omega)
              refine to_goto (dat dk_X12_one 86 rfl) rfl ?_
              exact jn134_n81 x107 rx107 (show x107 = -1 ∨ (e < x107 ∧ x107 < h.2.2 60 44) by omega) (if cz : x107 = -1 then Or.inl ⟨cz, oPh7 z34 (by omega) (by omega) (by omega) zr (by omega)⟩ else Or.inr ⟨cz, (oPh6 z34 (by omega) (by omega) (by omega) zr (by omega)).trans (by omega)⟩)
    · skip
      refine to_aload_n (dat dk_X12_one 41 rfl) rfl (to_iconst (dat dk_X12_one 42 rfl) (to_aload_n (dat dk_X12_one 43 rfl) rfl (to_bipush (dat dk_X12_one 44 rfl) (by decide) (to_iload_n (dat dk_X12_one 45 rfl) rfl (to_iload_n (dat dk_X12_one 46 rfl) rfl (to_iconst (dat dk_X12_one 47 rfl) ?_))))))
      refine to_cI ca_c13_430 (dat dk_X12_one 48 rfl) (ct_X12_leaf_vb l h hI 8 (by decide) p hp e he 0 (by decide) (show 0 ≤ p ∧ p ≤ 1200 by omega) (show 0 ≤ e ∧ e ≤ 1200 by omega) (show 0 ≤ (8 : Int) ∧ (8 : Int) ≤ 8 by omega) (show h.2.2 60 45 ≤ 809 by omega) g3 (show p ≤ e ∧ ((0 : Int) = 1 ∨ 1 ≤ e) by omega)) rfl ⟨_, _, rfl, (hI.atS rfl)⟩ rfl (fun x110 h111 rx110 p112 => ?_)
      obtain ⟨Ih111, fh111, p112_0, p112_1, p112_2⟩ := p112
      have f113 : Fr [89, 90, 91, 92, 93, 94, 95, 245, 246] h h111 := Fr.sub (Fr.rf _ _) fh111 rfl
      have t114 : htq h111 = htq h := htq_fr fh111 hI rfl
      obtain ⟨x115, ex115⟩ : ∃ y : Int, h111.2.2 60 45 = y := ⟨_, rfl⟩
      have rx115 := Ih111.atR (a := 60) (j := 45) rfl
      rw [ex115] at rx115
      have q116 : Val h111 := Val.mono (fh111.arr hI (a := 95) (by decide) (fun _ => rfl)) (fh111.getF hI (a := 60) (j := 46) (by decide) rfl) (by omega) g2
      refine to_iadd (dat dk_X12_one 49 rfl) ?_
      have e117 : h111.2.2 60 46 = x3 := ((Fr.get fh111 (by have := hI.1.1; omega) rfl).trans ex3)
      refine to_cV ca_c13_409 (dat dk_X12_one 50 rfl) (ct_X12_done_vb l h111 Ih111 (1 + x110) (by omega) (show -4 ≤ (1 + x110) ∧ (1 + x110) ≤ 810 by omega) (show h111.2.2 60 46 ≤ 2999 by omega)) rfl ⟨_, _, rfl, (Ih111.atS rfl)⟩ rfl (fun h119 p120 => ?_)
      obtain ⟨Ih119, fh119, p120_0, p120_1⟩ := p120
      have f121 : Fr [89, 90, 91, 92, 93, 94, 95, 245, 246] h h119 := Fr.sub f113 fh119 rfl
      have t122 : LfOK h119 := LfOK_fr fh119 Ih111 rfl p112_2
      obtain ⟨x123, ex123⟩ : ∃ y : Int, h119.2.2 60 46 = y := ⟨_, rfl⟩
      have rx123 := Ih119.atR (a := 60) (j := 46) rfl
      rw [ex123] at rx123
      have q124 := DoneP.sum p120_1 (Ih111.atR (a := 60) (j := 46) rfl).1
      have q125 := hs_c (1 + x110)
      have q126 := p120_1.2.2.2
      have q127 : Val h119 := DoneP.val p120_1 (Ih111.atR (a := 60) (j := 46) rfl).1 q116 (by omega) (by omega) (by omega)
      refine to_iload_n (dat dk_X12_one 51 rfl) rfl ?_
      have e128 : h119.2.2 60 44 = x1 := ((Fr.get fh119 (by have := Ih111.1.1; omega) rfl).trans ((Fr.get fh111 (by have := hI.1.1; omega) rfl).trans ex1))
      have e129 : h119.2.2 60 45 = x115 := ((Fr.get fh119 (by have := Ih111.1.1; omega) rfl).trans ex115)
      exact to_iret rfl (dat dk_X12_one 52 rfl) (ri_mk he ⟨Ih119, f121, q127, t122, (show e = -1 ∨ (p < e ∧ e ≤ h119.2.2 60 44 ∧ h119.2.2 60 45 = h.2.2 60 45 + 1 ∧ h119.2.2 60 46 = h.2.2 60 46 + 1 ∧ htq h119 = htq h + 1 ∧ (p + 2 ≤ e ∨ (h.2.2 88 (Int.toNat p) ≠ 34 ∧ e = e))) by omega), (by rw [o8 z34 (by have := p8_1; omega)]; omega)⟩)
  · skip
    refine to_aload_n (dat dk_X12_one 6 rfl) rfl (to_iload_n (dat dk_X12_one 7 rfl) rfl (to_iconst (dat dk_X12_one 8 rfl) (to_iadd (dat dk_X12_one 9 rfl) ?_)))
    refine to_cI ca_c13_427 (dat dk_X12_one 10 rfl) (ct_X12_phraseEnd_vx l h hI (p + 1) (by omega) (show 0 ≤ (p + 1) ∧ (p + 1) ≤ 1201 by omega)) rfl ⟨_, _, rfl, (hI.atS rfl)⟩ rfl (fun x130 h131 rx130 p132 => ?_)
    obtain ⟨rfl, p132_0, p132_1⟩ := p132
    rw [show Int.toNat (p + 1) = Int.toNat p + 1 by omega] at p132_1
    have zo := oq34 (r := hr h) (n := hn h) (e := (Int.toNat e)) (show h.2.2 88 (Int.toNat p) = 34 by omega)
    refine to_istore_n (L' := [(0, .inr (.inr 60)), (1, .inl p), (2, .inl e), (3, .inl x130)]) (dat dk_X12_one 11 rfl) (by decide) rfl (to_iload_n (dat dk_X12_one 12 rfl) rfl (to_iconst (dat dk_X12_one 13 rfl) ?_))
    refine to_ine 26 (dat dk_X12_one 14 rfl) rfl rx130 (by decide) (fun c133 => ?_) (fun c133 => ?_)
    · skip
      refine to_aload_n (dat dk_X12_one 17 rfl) rfl (to_iconst (dat dk_X12_one 18 rfl) (to_aload_n (dat dk_X12_one 19 rfl) rfl (to_bipush (dat dk_X12_one 20 rfl) (by decide) (to_iload_n (dat dk_X12_one 21 rfl) rfl (to_iconst (dat dk_X12_one 22 rfl) (to_iadd (dat dk_X12_one 23 rfl) (to_iload_n (dat dk_X12_one 24 rfl) rfl (to_iconst (dat dk_X12_one 25 rfl) ?_))))))))
      refine to_cI ca_c13_430 (dat dk_X12_one 26 rfl) (ct_X12_leaf_vb l h hI 8 (by decide) (p + 1) (by omega) x130 rx130 1 (by decide) (show 0 ≤ (p + 1) ∧ (p + 1) ≤ 1200 by omega) (show 0 ≤ x130 ∧ x130 ≤ 1200 by omega) (show 0 ≤ (8 : Int) ∧ (8 : Int) ≤ 8 by omega) (show h.2.2 60 45 ≤ 809 by omega) g3 (show (p + 1) ≤ x130 ∧ ((1 : Int) = 1 ∨ 1 ≤ x130) by omega)) rfl ⟨_, _, rfl, (hI.atS rfl)⟩ rfl (fun x134 h135 rx134 p136 => ?_)
      obtain ⟨Ih135, fh135, p136_0, p136_1, p136_2⟩ := p136
      have f137 : Fr [89, 90, 91, 92, 93, 94, 95, 245, 246] h h135 := Fr.sub (Fr.rf _ _) fh135 rfl
      have t138 : htq h135 = htq h := htq_fr fh135 hI rfl
      obtain ⟨x139, ex139⟩ : ∃ y : Int, h135.2.2 60 45 = y := ⟨_, rfl⟩
      have rx139 := Ih135.atR (a := 60) (j := 45) rfl
      rw [ex139] at rx139
      have q140 : Val h135 := Val.mono (fh135.arr hI (a := 95) (by decide) (fun _ => rfl)) (fh135.getF hI (a := 60) (j := 46) (by decide) rfl) (by omega) g2
      refine to_iadd (dat dk_X12_one 27 rfl) ?_
      have e141 : h135.2.2 60 46 = x3 := ((Fr.get fh135 (by have := hI.1.1; omega) rfl).trans ex3)
      refine to_cV ca_c13_409 (dat dk_X12_one 28 rfl) (ct_X12_done_vb l h135 Ih135 (1 + x134) (by omega) (show -4 ≤ (1 + x134) ∧ (1 + x134) ≤ 810 by omega) (show h135.2.2 60 46 ≤ 2999 by omega)) rfl ⟨_, _, rfl, (Ih135.atS rfl)⟩ rfl (fun h143 p144 => ?_)
      obtain ⟨Ih143, fh143, p144_0, p144_1⟩ := p144
      have f145 : Fr [89, 90, 91, 92, 93, 94, 95, 245, 246] h h143 := Fr.sub f137 fh143 rfl
      have t146 : LfOK h143 := LfOK_fr fh143 Ih135 rfl p136_2
      obtain ⟨x147, ex147⟩ : ∃ y : Int, h143.2.2 60 46 = y := ⟨_, rfl⟩
      have rx147 := Ih143.atR (a := 60) (j := 46) rfl
      rw [ex147] at rx147
      have q148 := DoneP.sum p144_1 (Ih135.atR (a := 60) (j := 46) rfl).1
      have q149 := hs_c (1 + x134)
      have q150 := p144_1.2.2.2
      have q151 : Val h143 := DoneP.val p144_1 (Ih135.atR (a := 60) (j := 46) rfl).1 q140 (by omega) (by omega) (by omega)
      refine to_iload_n (dat dk_X12_one 29 rfl) rfl (to_iconst (dat dk_X12_one 30 rfl) (to_iadd (dat dk_X12_one 31 rfl) ?_))
      have e152 : h143.2.2 60 44 = x1 := ((Fr.get fh143 (by have := Ih135.1.1; omega) rfl).trans ((Fr.get fh135 (by have := hI.1.1; omega) rfl).trans ex1))
      have e153 : h143.2.2 60 45 = x139 := ((Fr.get fh143 (by have := Ih135.1.1; omega) rfl).trans ex139)
      exact to_iret rfl (dat dk_X12_one 32 rfl) (ri_mk (by omega) ⟨Ih143, f145, q151, t146, (show (x130 + 1) = -1 ∨ (p < (x130 + 1) ∧ (x130 + 1) ≤ h143.2.2 60 44 ∧ h143.2.2 60 45 = h.2.2 60 45 + 1 ∧ h143.2.2 60 46 = h.2.2 60 46 + 1 ∧ htq h143 = htq h + 1 ∧ (p + 2 ≤ (x130 + 1) ∨ (h.2.2 88 (Int.toNat p) ≠ 34 ∧ (x130 + 1) = e))) by omega), (by rw [zo, if_neg (by omega)]; omega)⟩)
    · skip
      refine to_iconst (dat dk_X12_one 15 rfl) ?_
      exact to_iret rfl (dat dk_X12_one 16 rfl) (ri_mk (by decide) ⟨hI, (Fr.rf _ _), g2, g3, (show (-1 : Int) = -1 ∨ (p < (-1 : Int) ∧ (-1 : Int) ≤ h.2.2 60 44 ∧ h.2.2 60 45 = h.2.2 60 45 + 1 ∧ h.2.2 60 46 = h.2.2 60 46 + 1 ∧ htq h = htq h + 1 ∧ (p + 2 ≤ (-1 : Int) ∨ (h.2.2 88 (Int.toNat p) ≠ 34 ∧ (-1 : Int) = e))) by omega), (by rw [zo, if_pos (by omega)])⟩)
