/-! Contracts, by program. -/
abbrev Q_X12_field (h : Hp) (f : Int) (g : Int) (n : Int) : Option V → Hp → Nat → Nat → Prop := RI (fun x H => Inv H ∧ Fr [75, 223, 226] h H ∧ (x = 0 ∨ x = 1) ∧ (f ≤ H.2.2 60 26 ∧ H.2.2 60 26 ≤ g) ∧ (H.2.2 60 23 ≤ g - f + 1))
set_option maxRecDepth 100000 in
theorem ct_X12_field (l : Launch) (h : Hp) (hI : Inv h) (f : Int) (hf : I32 f) (g : Int) (hg : I32 g) (n : Int) (hn : I32 n) (g0 : 0 ≤ f ∧ f ≤ g) (g1 : g ≤ 240000) (g2 : g - f ≤ 1200) (g3 : 0 ≤ n ∧ n ≤ 8) : Ct l D_X12_field 3 63 [.inr (.inr 60), .inl f, .inl g, .inl n] h (Q_X12_field h f g n) := by
  refine ct_of pn_X12_field (Nat.le_of_ble_eq_true rfl) ?_
  show To l E_X12_field (0, [(0, .inr (.inr 60)), (1, .inl f), (2, .inl g), (3, .inl n)], [], h, 0, 0) _
  obtain ⟨x1, ex1⟩ : ∃ y : Int, h.2.2 60 26 = y := ⟨_, rfl⟩
  have rx1 := hI.atR (a := 60) (j := 26) rfl
  rw [ex1] at rx1
  obtain ⟨x2, ex2⟩ : ∃ y : Int, h.2.2 60 23 = y := ⟨_, rfl⟩
  have rx2 := hI.atR (a := 60) (j := 23) rfl
  rw [ex2] at rx2
  refine to_iconst (dat dk_X12_field 0 rfl) (to_istore (L' := [(0, .inr (.inr 60)), (1, .inl f), (2, .inl g), (3, .inl n), (4, .inl 0)]) (dat dk_X12_field 1 rfl) (by decide) rfl (to_iconst (dat dk_X12_field 2 rfl) (to_istore (L' := [(0, .inr (.inr 60)), (1, .inl f), (2, .inl g), (3, .inl n), (4, .inl 0), (5, .inl 0)]) (dat dk_X12_field 3 rfl) (by decide) rfl (to_iconst (dat dk_X12_field 4 rfl) (to_istore (L' := [(0, .inr (.inr 60)), (1, .inl f), (2, .inl g), (3, .inl n), (4, .inl 0), (5, .inl 0), (6, .inl 0)]) (dat dk_X12_field 5 rfl) (by decide) rfl (to_aload_n (dat dk_X12_field 6 rfl) rfl (to_iconst (dat dk_X12_field 7 rfl) (to_putIw p_c13_171 (dat dk_X12_field 8 rfl) (hI.atS rfl) ?_))))))))
  intro h5 wh5
  have I3 : Inv h5 := by rw [wh5]; exact hI.put (a := 60) (j := 23) (x := 0) (0) (1300) rfl rfl (show (0 : Int) ≤ 0 ∧ 0 ≤ 1300 by decide)
  have f4 : Fr [75, 223, 226] h h5 := by rw [wh5]; exact Fr.putF (a := 60) (j := 23) (x := 0) (Fr.rf _ _) rfl
  refine to_iload_n (dat dk_X12_field 9 rfl) rfl (to_istore (L' := [(0, .inr (.inr 60)), (1, .inl f), (2, .inl g), (3, .inl n), (4, .inl 0), (5, .inl 0), (6, .inl 0), (7, .inl f)]) (dat dk_X12_field 10 rfl) (by decide) rfl ?_)
  have e12 : h5.2.2 60 23 = (0 : Int) := (by rw [wh5]; exact wr_eq)
  have lp17_n14 : ∀ (n14 : Nat) (y6 : Int) (y7 : Int) (y8 : Int) (y9 : Int) (h10 : Hp), (y6 = 0 ∨ y6 = 1) → (y7 = 0 ∨ y7 = 1) → (y8 = 0 ∨ y8 = 1) → (I32 y9) → (Inv h10) → (Fr [75, 223, 226] h h10) → (f ≤ y9 ∧ y9 ≤ g) → (h10.2.2 60 23 ≤ y9 - f ∨ (y9 = g ∧ h10.2.2 60 23 ≤ g - f + 1)) → (g - y9 ≤ (n14 : Int)) → To l E_X12_field (17, [(0, .inr (.inr 60)), (1, .inl f), (2, .inl g), (3, .inl n), (4, .inl y6), (5, .inl y7), (6, .inl y8), (7, .inl y9)], [], h10, 0, 0) (Q_X12_field h f g n) := by
    intro n14
    induction n14 using Nat.strongRecOn with
    | _ n14 ihn14 =>
    intro y6 y7 y8 y9 h10 ry6 ry7 ry8 ry9 Ih10 fh10 c11 c13 c15
    obtain ⟨x16, ex16⟩ : ∃ y : Int, h10.2.2 60 23 = y := ⟨_, rfl⟩
    have rx16 := Ih10.atR (a := 60) (j := 23) rfl
    rw [ex16] at rx16
    refine to_iload (dat dk_X12_field 11 rfl) rfl (to_iload_n (dat dk_X12_field 12 rfl) rfl ?_)
    refine to_ige 266 (dat dk_X12_field 13 rfl) rfl ry9 hg (fun c17 => ?_) (fun c17 => ?_)
    · skip
      refine to_aload_n (dat dk_X12_field 133 rfl) rfl (to_iload (dat dk_X12_field 134 rfl) rfl (to_putIw p_c13_202 (dat dk_X12_field 135 rfl) (Ih10.atS rfl) ?_))
      intro h20 wh20
      have I18 : Inv h20 := by rw [wh20]; exact Ih10.put (a := 60) (j := 26) (x := y9) (0) (240000) rfl rfl (show (0 : Int) ≤ y9 ∧ y9 ≤ 240000 by omega)
      have f19 : Fr [75, 223, 226] h h20 := by rw [wh20]; exact Fr.putF (a := 60) (j := 26) (x := y9) fh10 rfl
      refine to_aload_n (dat dk_X12_field 136 rfl) rfl ?_
      have e21 : h20.2.2 60 23 = x16 := (by rw [wh20]; exact ex16)
      refine to_cV ca_c13_205 (dat dk_X12_field 137 rfl) (ct_X12_trim l h20 I18 ) rfl ⟨_, _, rfl, (I18.atS rfl)⟩ rfl (fun h23 p24 => ?_)
      obtain ⟨Ih23, fh23, p24_0⟩ := p24
      have f25 : Fr [75, 223, 226] h h23 := Fr.sub f19 fh23 rfl
      obtain ⟨x26, ex26⟩ : ∃ y : Int, h23.2.2 60 23 = y := ⟨_, rfl⟩
      have rx26 := Ih23.atR (a := 60) (j := 23) rfl
      rw [ex26] at rx26
      refine to_iload (dat dk_X12_field 138 rfl) rfl ?_
      have e27 : h23.2.2 60 26 = y9 := ((Fr.get fh23 (by have := I18.1.1; omega) rfl).trans (by rw [wh20]; exact wr_eq))
      exact to_zret rfl (dat dk_X12_field 139 rfl) (by omega) (ri_mk (by omega) ⟨Ih23, f25, (by omega), (show f ≤ h23.2.2 60 26 ∧ h23.2.2 60 26 ≤ g by omega), (show h23.2.2 60 23 ≤ g - f + 1 by omega)⟩)
    · skip
      refine to_aload_n (dat dk_X12_field 14 rfl) rfl (to_getR 63 g_c13_17 (dat dk_X12_field 15 rfl) (Ih10.atS rfl) (Ih10.atE rfl) (to_iload (dat dk_X12_field 16 rfl) rfl (to_iload_n (dat dk_X12_field 17 rfl) rfl ?_)))
      refine to_cI ca_c13_174 (dat dk_X12_field 18 rfl) (ct_X12_lineEnd l h10 Ih10 63 240000 rfl y9 ry9 g hg (show 0 ≤ y9 by omega) (show g ≤ (240000 : Int) by omega)) rfl trivial rfl (fun x28 h29 rx28 p30 => ?_)
      obtain ⟨rfl, p30_0, p30_1⟩ := p30
      refine to_istore (L' := [(0, .inr (.inr 60)), (1, .inl f), (2, .inl g), (3, .inl n), (4, .inl y6), (5, .inl y7), (6, .inl y8), (7, .inl y9), (8, .inl x28)]) (dat dk_X12_field 19 rfl) (by decide) rfl (to_aload_n (dat dk_X12_field 20 rfl) rfl (to_getR 63 g_c13_17 (dat dk_X12_field 21 rfl) (Ih10.atS rfl) (Ih10.atE rfl) (to_iload (dat dk_X12_field 22 rfl) rfl (to_iload (dat dk_X12_field 23 rfl) rfl (to_iload_n (dat dk_X12_field 24 rfl) rfl ?_)))))
      refine to_cI ca_c13_178 (dat dk_X12_field 25 rfl) (ct_X12_textEnd l h10 Ih10 63 240000 rfl y9 ry9 x28 rx28 g hg (show 0 ≤ y9 by omega) (show g ≤ (240000 : Int) by omega)) rfl trivial rfl (fun x31 h32 rx31 p33 => ?_)
      obtain ⟨rfl, p33_0, p33_1⟩ := p33
      refine to_istore (L' := [(0, .inr (.inr 60)), (1, .inl f), (2, .inl g), (3, .inl n), (4, .inl y6), (5, .inl y7), (6, .inl y8), (7, .inl y9), (8, .inl x28), (9, .inl x31)]) (dat dk_X12_field 26 rfl) (by decide) rfl ?_
      have jn63_n36 : ∀ (y34 : Int), (I32 y34) → ((x28 < g ∧ y34 = x28 + 1) ∨ (g ≤ x28 ∧ y34 = g)) → To l E_X12_field (63, [(0, .inr (.inr 60)), (1, .inl f), (2, .inl g), (3, .inl n), (4, .inl y6), (5, .inl y7), (6, .inl y8), (7, .inl y9), (8, .inl x28), (9, .inl x31)], [.inl y34], h10, 0, 0) (Q_X12_field h f g n) := by
        intro y34 ry34 c35
        refine to_istore (L' := [(0, .inr (.inr 60)), (1, .inl f), (2, .inl g), (3, .inl n), (4, .inl y6), (5, .inl y7), (6, .inl y8), (7, .inl y9), (8, .inl x28), (9, .inl x31), (10, .inl y34)]) (dat dk_X12_field 35 rfl) (by decide) rfl (to_iload (dat dk_X12_field 36 rfl) rfl (to_iload (dat dk_X12_field 37 rfl) rfl ?_))
        refine to_ine 79 (dat dk_X12_field 38 rfl) rfl rx31 ry9 (fun c37 => ?_) (fun c37 => ?_)
        · skip
          have jn259_n43 : ∀ (y38 : Int) (y39 : Int) (y40 : Int) (h41 : Hp), (y38 = 0 ∨ y38 = 1) → (y39 = 0 ∨ y39 = 1) → (y40 = 0 ∨ y40 = 1) → (Inv h41) → (Fr [75, 223, 226] h h41) → (h41.2.2 60 23 ≤ y34 - f ∨ (y34 = g ∧ h41.2.2 60 23 ≤ g - f + 1)) → To l E_X12_field (259, [(0, .inr (.inr 60)), (1, .inl f), (2, .inl g), (3, .inl n), (4, .inl y38), (5, .inl y39), (6, .inl y40), (7, .inl y9), (8, .inl x28), (9, .inl x31), (10, .inl y34)], [], h41, 0, 0) (Q_X12_field h f g n) := by
            intro y38 y39 y40 h41 ry38 ry39 ry40 Ih41 fh41 c42
            obtain ⟨x44, ex44⟩ : ∃ y : Int, h41.2.2 60 23 = y := ⟨_, rfl⟩
            have rx44 := Ih41.atR (a := 60) (j := 23) rfl
            rw [ex44] at rx44
            refine to_iload (dat dk_X12_field 130 rfl) rfl (to_istore (L' := [(0, .inr (.inr 60)), (1, .inl f), (2, .inl g), (3, .inl n), (4, .inl y38), (5, .inl y39), (6, .inl y40), (7, .inl y34), (8, .inl x28), (9, .inl x31), (10, .inl y34)]) (dat dk_X12_field 131 rfl) (by decide) rfl (to_goto (dat dk_X12_field 132 rfl) rfl ?_))
            refine to_pick [0, 1, 2, 3, 4, 5, 6, 7] rfl ?_
            exact ihn14 (n14 - 1) (by omega) y38 y39 y40 y34 h41 (by omega) (by omega) (by omega) ry34 Ih41 fh41 (show f ≤ y34 ∧ y34 ≤ g by omega) (show h41.2.2 60 23 ≤ y34 - f ∨ (y34 = g ∧ h41.2.2 60 23 ≤ g - f + 1) by omega) (show g - y34 ≤ ((n14 - 1 : Nat) : Int) by omega)
          refine to_aload_n (dat dk_X12_field 42 rfl) rfl (to_getR 63 g_c13_17 (dat dk_X12_field 43 rfl) (Ih10.atS rfl) (Ih10.atE rfl) (to_iload (dat dk_X12_field 44 rfl) rfl ?_))
          obtain ⟨x45, ex45⟩ : ∃ y : Int, h10.2.2 63 (Int.toNat y9) = y := ⟨_, rfl⟩
          have rx45 := Ih10.atR (a := 63) (j := Int.toNat y9) rfl
          rw [ex45] at rx45
          refine to_baldv (q := 1) ex45 (dat dk_X12_field 45 rfl) (by decide) (Ih10.atS rfl) rfl (by decide) (by omega) ?_
          refine to_cI ca_c13_182 (dat dk_X12_field 46 rfl) (ct_X12_isBlank l h10 Ih10 x45 (by omega)) rfl trivial rfl (fun x46 h47 rx46 p48 => ?_)
          obtain ⟨rfl, zx46⟩ := p48
          refine to_ifeq 171 (dat dk_X12_field 47 rfl) rfl rx46 (fun c49 => ?_) (fun c49 => ?_)
          · skip
            refine to_aload_n (dat dk_X12_field 85 rfl) rfl (to_getR 63 g_c13_17 (dat dk_X12_field 86 rfl) (Ih10.atS rfl) (Ih10.atE rfl) (to_iload (dat dk_X12_field 87 rfl) rfl (to_iload (dat dk_X12_field 88 rfl) rfl ?_)))
            refine to_cI ca_c13_189 (dat dk_X12_field 89 rfl) (ct_X12_nameEnd l h10 Ih10 63 240000 rfl y9 ry9 x31 rx31 (show 0 ≤ y9 by omega) (show x31 ≤ (240000 : Int) by omega)) rfl trivial rfl (fun x50 h51 rx50 p52 => ?_)
            obtain ⟨rfl, p52_0⟩ := p52
            refine to_istore (L' := [(0, .inr (.inr 60)), (1, .inl f), (2, .inl g), (3, .inl n), (4, .inl y6), (5, .inl y7), (6, .inl y8), (7, .inl y9), (8, .inl x28), (9, .inl x31), (10, .inl y34), (11, .inl x50)]) (dat dk_X12_field 90 rfl) (by decide) rfl (to_iload (dat dk_X12_field 91 rfl) rfl (to_iconst (dat dk_X12_field 92 rfl) ?_))
            refine to_ine 193 (dat dk_X12_field 93 rfl) rfl rx50 (by decide) (fun c53 => ?_) (fun c53 => ?_)
            · skip
              refine to_iconst (dat dk_X12_field 95 rfl) (to_istore (L' := [(0, .inr (.inr 60)), (1, .inl f), (2, .inl g), (3, .inl n), (4, .inl y6), (5, .inl y7), (6, .inl 1), (7, .inl y9), (8, .inl x28), (9, .inl x31), (10, .inl y34), (11, .inl x50)]) (dat dk_X12_field 96 rfl) (by decide) rfl ?_)
              have jn235_n55 : ∀ (y54 : Int), (y54 = 0 ∨ y54 = 1) → To l E_X12_field (235, [(0, .inr (.inr 60)), (1, .inl f), (2, .inl g), (3, .inl n), (4, .inl y6), (5, .inl y7), (6, .inl 1), (7, .inl y9), (8, .inl x28), (9, .inl x31), (10, .inl y34), (11, .inl x50)], [.inl y54], h10, 0, 0) (Q_X12_field h f g n) := by
                intro y54 ry54
                refine to_istore (L' := [(0, .inr (.inr 60)), (1, .inl f), (2, .inl g), (3, .inl n), (4, .inl y6), (5, .inl y54), (6, .inl 1), (7, .inl y9), (8, .inl x28), (9, .inl x31), (10, .inl y34), (11, .inl x50)]) (dat dk_X12_field 117 rfl) (by decide) rfl (to_iload (dat dk_X12_field 118 rfl) rfl ?_)
                refine to_ifeq 259 (dat dk_X12_field 119 rfl) rfl (by omega) (fun c56 => ?_) (fun c56 => ?_)
                · skip
                  refine to_pick [0, 1, 2, 3, 4, 5, 6, 7, 8, 9, 10] rfl ?_
                  exact jn259_n43 y6 y54 1 h10 (by omega) (by omega) (by decide) Ih10 fh10 (show h10.2.2 60 23 ≤ y34 - f ∨ (y34 = g ∧ h10.2.2 60 23 ≤ g - f + 1) by omega)
                · skip
                  refine to_iconst (dat dk_X12_field 120 rfl) (to_istore (L' := [(0, .inr (.inr 60)), (1, .inl f), (2, .inl g), (3, .inl n), (4, .inl 1), (5, .inl y54), (6, .inl 1), (7, .inl y9), (8, .inl x28), (9, .inl x31), (10, .inl y34), (11, .inl x50)]) (dat dk_X12_field 121 rfl) (by decide) rfl (to_aload_n (dat dk_X12_field 122 rfl) rfl (to_aload_n (dat dk_X12_field 123 rfl) rfl (to_getR 63 g_c13_17 (dat dk_X12_field 124 rfl) (Ih10.atS rfl) (Ih10.atE rfl) (to_iload (dat dk_X12_field 125 rfl) rfl (to_iconst (dat dk_X12_field 126 rfl) (to_iadd (dat dk_X12_field 127 rfl) (to_iload (dat dk_X12_field 128 rfl) rfl ?_))))))))
                  refine to_cV ca_c13_185 (dat dk_X12_field 129 rfl) (ct_X12_addValue l h10 Ih10 63 240000 rfl (x50 + 1) (by omega) x31 rx31 (show 0 ≤ (x50 + 1) by omega) (show x31 ≤ (240000 : Int) by omega) (show h10.2.2 60 23 + (x31 - (x50 + 1)) ≤ 1300 by omega)) rfl ⟨_, _, rfl, (Ih10.atS rfl)⟩ rfl (fun h58 p59 => ?_)
                  obtain ⟨Ih58, fh58, p59_0⟩ := p59
                  have f60 : Fr [75, 223, 226] h h58 := Fr.sub fh10 fh58 rfl
                  obtain ⟨x61, ex61⟩ : ∃ y : Int, h58.2.2 60 23 = y := ⟨_, rfl⟩
                  have rx61 := Ih58.atR (a := 60) (j := 23) rfl
                  rw [ex61] at rx61
                  refine to_pick [0, 1, 2, 3, 4, 5, 6, 7, 8, 9, 10] rfl ?_
                  exact jn259_n43 1 y54 1 h58 (by decide) (by omega) (by decide) Ih58 f60 (show h58.2.2 60 23 ≤ y34 - f ∨ (y34 = g ∧ h58.2.2 60 23 ≤ g - f + 1) by omega)
              refine to_iload (dat dk_X12_field 97 rfl) rfl ?_
              refine to_ifne 234 (dat dk_X12_field 98 rfl) rfl (by omega) (fun c62 => ?_) (fun c62 => ?_)
              · skip
                refine to_iconst (dat dk_X12_field 116 rfl) ?_
                exact jn235_n55 0 (by decide)
              · skip
                refine to_aload_n (dat dk_X12_field 99 rfl) rfl (to_getR 63 g_c13_17 (dat dk_X12_field 100 rfl) (Ih10.atS rfl) (Ih10.atE rfl) (to_iload (dat dk_X12_field 101 rfl) rfl (to_iload (dat dk_X12_field 102 rfl) rfl (to_gst (C := "MailArchiveModel") (f9 := "NAMES") (d9 := "[I") (List.mem_of_getElem? (i := 11) rfl) (tin 8 64 (by decide +kernel) rfl) (dat dk_X12_field 103 rfl) (to_gst (C := "MailArchiveModel") (f9 := "ENDS") (d9 := "[I") (List.mem_of_getElem? (i := 6) rfl) (tin 8 66 (by decide +kernel) rfl) (dat dk_X12_field 104 rfl) (to_iload_n (dat dk_X12_field 105 rfl) rfl ?_))))))
                refine to_ialdXr 0 85 (List.mem_of_getElem? (i := 41) rfl) (dat dk_X12_field 106 rfl) ⟨by decide, by decide⟩ (by decide) (by omega) (fun x63 rx63 => ?_)
                refine to_gst (C := "MailArchiveModel") (f9 := "ENDS") (d9 := "[I") (List.mem_of_getElem? (i := 6) rfl) (tin 8 66 (by decide +kernel) rfl) (dat dk_X12_field 107 rfl) (to_iload_n (dat dk_X12_field 108 rfl) rfl (to_iconst (dat dk_X12_field 109 rfl) (to_iadd (dat dk_X12_field 110 rfl) ?_)))
                refine to_ialdXr 0 85 (List.mem_of_getElem? (i := 41) rfl) (dat dk_X12_field 111 rfl) ⟨by decide, by decide⟩ (by decide) (by omega) (fun x64 rx64 => ?_)
                refine to_cI ca_c13_198 (dat dk_X12_field 112 rfl) (ct_X12_same l h10 Ih10 63 240000 rfl y9 ry9 x50 rx50 1000210 85 (List.mem_of_getElem? (i := 9) rfl) x63 (by omega) x64 (by omega) (show 0 ≤ y9 ∧ y9 ≤ 640000 by omega) (show -1 ≤ x50 ∧ x50 ≤ 640000 by omega) (show 0 ≤ x63 ∧ x63 ≤ 100 by omega) (show 0 ≤ x64 ∧ x64 ≤ (85 : Int) by omega) (show x50 ≤ (240000 : Int) ∨ y9 + (x64 - x63) ≤ (240000 : Int) by omega)) rfl trivial rfl (fun x65 h66 rx65 p67 => ?_)
                obtain ⟨rfl, zx65⟩ := p67
                refine to_ifeq 234 (dat dk_X12_field 113 rfl) rfl rx65 (fun c68 => ?_) (fun c68 => ?_)
                · skip
                  refine to_iconst (dat dk_X12_field 116 rfl) ?_
                  exact jn235_n55 0 (by decide)
                · skip
                  refine to_iconst (dat dk_X12_field 114 rfl) (to_goto (dat dk_X12_field 115 rfl) rfl ?_)
                  exact jn235_n55 1 (by decide)
            · skip
              refine to_goto (dat dk_X12_field 94 rfl) rfl (to_aload_n (dat dk_X12_field 133 rfl) rfl (to_iload (dat dk_X12_field 134 rfl) rfl (to_putIw p_c13_202 (dat dk_X12_field 135 rfl) (Ih10.atS rfl) ?_)))
              intro h71 wh71
              have I69 : Inv h71 := by rw [wh71]; exact Ih10.put (a := 60) (j := 26) (x := y9) (0) (240000) rfl rfl (show (0 : Int) ≤ y9 ∧ y9 ≤ 240000 by omega)
              have f70 : Fr [75, 223, 226] h h71 := by rw [wh71]; exact Fr.putF (a := 60) (j := 26) (x := y9) fh10 rfl
              refine to_aload_n (dat dk_X12_field 136 rfl) rfl ?_
              have e72 : h71.2.2 60 23 = x16 := (by rw [wh71]; exact ex16)
              refine to_cV ca_c13_205 (dat dk_X12_field 137 rfl) (ct_X12_trim l h71 I69 ) rfl ⟨_, _, rfl, (I69.atS rfl)⟩ rfl (fun h74 p75 => ?_)
              obtain ⟨Ih74, fh74, p75_0⟩ := p75
              have f76 : Fr [75, 223, 226] h h74 := Fr.sub f70 fh74 rfl
              obtain ⟨x77, ex77⟩ : ∃ y : Int, h74.2.2 60 23 = y := ⟨_, rfl⟩
              have rx77 := Ih74.atR (a := 60) (j := 23) rfl
              rw [ex77] at rx77
              refine to_iload (dat dk_X12_field 138 rfl) rfl ?_
              have e78 : h74.2.2 60 26 = y9 := ((Fr.get fh74 (by have := I69.1.1; omega) rfl).trans (by rw [wh71]; exact wr_eq))
              exact to_zret rfl (dat dk_X12_field 139 rfl) (by omega) (ri_mk (by omega) ⟨Ih74, f76, (by omega), (show f ≤ h74.2.2 60 26 ∧ h74.2.2 60 26 ≤ g by omega), (show h74.2.2 60 23 ≤ g - f + 1 by omega)⟩)
          · skip
            refine to_iload (dat dk_X12_field 48 rfl) rfl ?_
            refine to_ifne 100 (dat dk_X12_field 49 rfl) rfl (by omega) (fun c79 => ?_) (fun c79 => ?_)
            · skip
              refine to_iload (dat dk_X12_field 51 rfl) rfl (to_istore (L' := [(0, .inr (.inr 60)), (1, .inl f), (2, .inl g), (3, .inl n), (4, .inl y6), (5, .inl y7), (6, .inl y8), (7, .inl y9), (8, .inl x28), (9, .inl x31), (10, .inl y34), (11, .inl y9)]) (dat dk_X12_field 52 rfl) (by decide) rfl ?_)
              have lp104_n82 : ∀ (n82 : Nat) (y80 : Int), (I32 y80) → (y9 ≤ y80 ∧ y80 ≤ x31) → (x31 - y80 ≤ (n82 : Int)) → To l E_X12_field (104, [(0, .inr (.inr 60)), (1, .inl f), (2, .inl g), (3, .inl n), (4, .inl y6), (5, .inl y7), (6, .inl y8), (7, .inl y9), (8, .inl x28), (9, .inl x31), (10, .inl y34), (11, .inl y80)], [], h10, 0, 0) (Q_X12_field h f g n) := by
                intro n82
                induction n82 using Nat.strongRecOn with
                | _ n82 ihn82 =>
                intro y80 ry80 c81 c83
                refine to_iload (dat dk_X12_field 53 rfl) rfl (to_iload (dat dk_X12_field 54 rfl) rfl ?_)
                refine to_ige 130 (dat dk_X12_field 55 rfl) rfl ry80 rx31 (fun c84 => ?_) (fun c84 => ?_)
                · skip
                  refine to_iload (dat dk_X12_field 64 rfl) rfl ?_
                  refine to_ifeq 168 (dat dk_X12_field 65 rfl) rfl (by omega) (fun c85 => ?_) (fun c85 => ?_)
                  · skip
                    refine to_goto (dat dk_X12_field 84 rfl) rfl ?_
                    refine to_pick [0, 1, 2, 3, 4, 5, 6, 7, 8, 9, 10] rfl ?_
                    exact jn259_n43 y6 y7 y8 h10 (by omega) (by omega) (by omega) Ih10 fh10 (show h10.2.2 60 23 ≤ y34 - f ∨ (y34 = g ∧ h10.2.2 60 23 ≤ g - f + 1) by omega)
                  · skip
                    refine to_aload_n (dat dk_X12_field 66 rfl) rfl (to_getR 75 g_c13_60 (dat dk_X12_field 67 rfl) (Ih10.atS rfl) (Ih10.atE rfl) (to_aload_n (dat dk_X12_field 68 rfl) rfl (to_getIv (y := x16) ex16 g_c13_171 (dat dk_X12_field 69 rfl) (Ih10.atS rfl) (to_bipush (dat dk_X12_field 70 rfl) (by decide) (to_bastw (dat dk_X12_field 71 rfl) (Ih10.atS rfl) rfl (by decide) (by omega) ?_)))))
                    intro h88 wh88
                    have I86 : Inv h88 := by rw [wh88]; exact Ih10.put (a := 75) (j := (Int.toNat x16)) (x := (b8 32)) (-128) (127) rfl rfl (show (-128 : Int) ≤ (b8 32) ∧ (b8 32) ≤ 127 by have := b8_in 32; omega)
                    have f87 : Fr [75, 223, 226] h h88 := by rw [wh88]; exact Fr.putF (a := 75) (j := (Int.toNat x16)) (x := (b8 32)) fh10 rfl
                    refine to_aload_n (dat dk_X12_field 72 rfl) rfl (to_dup (dat dk_X12_field 73 rfl) rfl (to_getIv (y := x16) (by rw [wh88]; exact ex16) g_c13_171 (dat dk_X12_field 74 rfl) (I86.atS rfl) (to_iconst (dat dk_X12_field 75 rfl) (to_iadd (dat dk_X12_field 76 rfl) (to_putIw p_c13_171 (dat dk_X12_field 77 rfl) (I86.atS rfl) ?_)))))
                    intro h91 wh91
                    have I89 : Inv h91 := by rw [wh91]; exact I86.put (a := 60) (j := 23) (x := (x16 + 1)) (0) (1300) rfl rfl (show (0 : Int) ≤ (x16 + 1) ∧ (x16 + 1) ≤ 1300 by omega)
                    have f90 : Fr [75, 223, 226] h h91 := by rw [wh91]; exact Fr.putF (a := 60) (j := 23) (x := (x16 + 1)) f87 rfl
                    refine to_aload_n (dat dk_X12_field 78 rfl) rfl (to_aload_n (dat dk_X12_field 79 rfl) rfl (to_getR 63 g_c13_17 (dat dk_X12_field 80 rfl) (I89.atS rfl) (I89.atE rfl) (to_iload (dat dk_X12_field 81 rfl) rfl (to_iload (dat dk_X12_field 82 rfl) rfl ?_))))
                    have e92 : h91.2.2 60 23 = (x16 + 1) := (by rw [wh91]; exact wr_eq)
                    refine to_cV ca_c13_185 (dat dk_X12_field 83 rfl) (ct_X12_addValue l h91 I89 63 240000 rfl y80 ry80 x31 rx31 (show 0 ≤ y80 by omega) (show x31 ≤ (240000 : Int) by omega) (show h91.2.2 60 23 + (x31 - y80) ≤ 1300 by omega)) rfl ⟨_, _, rfl, (I89.atS rfl)⟩ rfl (fun h94 p95 => ?_)
                    obtain ⟨Ih94, fh94, p95_0⟩ := p95
                    have f96 : Fr [75, 223, 226] h h94 := Fr.sub f90 fh94 rfl
                    obtain ⟨x97, ex97⟩ : ∃ y : Int, h94.2.2 60 23 = y := ⟨_, rfl⟩
                    have rx97 := Ih94.atR (a := 60) (j := 23) rfl
                    rw [ex97] at rx97
                    refine to_goto (dat dk_X12_field 84 rfl) rfl ?_
                    refine to_pick [0, 1, 2, 3, 4, 5, 6, 7, 8, 9, 10] rfl ?_
                    exact jn259_n43 y6 y7 y8 h94 (by omega) (by omega) (by omega) Ih94 f96 (show h94.2.2 60 23 ≤ y34 - f ∨ (y34 = g ∧ h94.2.2 60 23 ≤ g - f + 1) by omega)
                · skip
                  refine to_aload_n (dat dk_X12_field 56 rfl) rfl (to_getR 63 g_c13_17 (dat dk_X12_field 57 rfl) (Ih10.atS rfl) (Ih10.atE rfl) (to_iload (dat dk_X12_field 58 rfl) rfl ?_))
                  obtain ⟨x98, ex98⟩ : ∃ y : Int, h10.2.2 63 (Int.toNat y80) = y := ⟨_, rfl⟩
                  have rx98 := Ih10.atR (a := 63) (j := Int.toNat y80) rfl
                  rw [ex98] at rx98
                  refine to_baldv (q := 1) ex98 (dat dk_X12_field 59 rfl) (by decide) (Ih10.atS rfl) rfl (by decide) (by omega) ?_
                  refine to_cI ca_c13_182 (dat dk_X12_field 60 rfl) (ct_X12_isBlank l h10 Ih10 x98 (by omega)) rfl trivial rfl (fun x99 h100 rx99 p101 => ?_)
                  obtain ⟨rfl, zx99⟩ := p101
                  refine to_ifeq 130 (dat dk_X12_field 61 rfl) rfl rx99 (fun c102 => ?_) (fun c102 => ?_)
                  · skip
                    refine to_iload (dat dk_X12_field 64 rfl) rfl ?_
                    refine to_ifeq 168 (dat dk_X12_field 65 rfl) rfl (by omega) (fun c103 => ?_) (fun c103 => ?_)
                    · skip
                      refine to_goto (dat dk_X12_field 84 rfl) rfl ?_
                      refine to_pick [0, 1, 2, 3, 4, 5, 6, 7, 8, 9, 10] rfl ?_
                      exact jn259_n43 y6 y7 y8 h10 (by omega) (by omega) (by omega) Ih10 fh10 (show h10.2.2 60 23 ≤ y34 - f ∨ (y34 = g ∧ h10.2.2 60 23 ≤ g - f + 1) by omega)
                    · skip
                      refine to_aload_n (dat dk_X12_field 66 rfl) rfl (to_getR 75 g_c13_60 (dat dk_X12_field 67 rfl) (Ih10.atS rfl) (Ih10.atE rfl) (to_aload_n (dat dk_X12_field 68 rfl) rfl (to_getIv (y := x16) ex16 g_c13_171 (dat dk_X12_field 69 rfl) (Ih10.atS rfl) (to_bipush (dat dk_X12_field 70 rfl) (by decide) (to_bastw (dat dk_X12_field 71 rfl) (Ih10.atS rfl) rfl (by decide) (by omega) ?_)))))
                      intro h106 wh106
                      have I104 : Inv h106 := by rw [wh106]; exact Ih10.put (a := 75) (j := (Int.toNat x16)) (x := (b8 32)) (-128) (127) rfl rfl (show (-128 : Int) ≤ (b8 32) ∧ (b8 32) ≤ 127 by have := b8_in 32; omega)
                      have f105 : Fr [75, 223, 226] h h106 := by rw [wh106]; exact Fr.putF (a := 75) (j := (Int.toNat x16)) (x := (b8 32)) fh10 rfl
                      refine to_aload_n (dat dk_X12_field 72 rfl) rfl (to_dup (dat dk_X12_field 73 rfl) rfl (to_getIv (y := x16) (by rw [wh106]; exact ex16) g_c13_171 (dat dk_X12_field 74 rfl) (I104.atS rfl) (to_iconst (dat dk_X12_field 75 rfl) (to_iadd (dat dk_X12_field 76 rfl) (to_putIw p_c13_171 (dat dk_X12_field 77 rfl) (I104.atS rfl) ?_)))))
                      intro h109 wh109
                      have I107 : Inv h109 := by rw [wh109]; exact I104.put (a := 60) (j := 23) (x := (x16 + 1)) (0) (1300) rfl rfl (show (0 : Int) ≤ (x16 + 1) ∧ (x16 + 1) ≤ 1300 by omega)
                      have f108 : Fr [75, 223, 226] h h109 := by rw [wh109]; exact Fr.putF (a := 60) (j := 23) (x := (x16 + 1)) f105 rfl
                      refine to_aload_n (dat dk_X12_field 78 rfl) rfl (to_aload_n (dat dk_X12_field 79 rfl) rfl (to_getR 63 g_c13_17 (dat dk_X12_field 80 rfl) (I107.atS rfl) (I107.atE rfl) (to_iload (dat dk_X12_field 81 rfl) rfl (to_iload (dat dk_X12_field 82 rfl) rfl ?_))))
                      have e110 : h109.2.2 60 23 = (x16 + 1) := (by rw [wh109]; exact wr_eq)
                      refine to_cV ca_c13_185 (dat dk_X12_field 83 rfl) (ct_X12_addValue l h109 I107 63 240000 rfl y80 ry80 x31 rx31 (show 0 ≤ y80 by omega) (show x31 ≤ (240000 : Int) by omega) (show h109.2.2 60 23 + (x31 - y80) ≤ 1300 by omega)) rfl ⟨_, _, rfl, (I107.atS rfl)⟩ rfl (fun h112 p113 => ?_)
                      obtain ⟨Ih112, fh112, p113_0⟩ := p113
                      have f114 : Fr [75, 223, 226] h h112 := Fr.sub f108 fh112 rfl
                      obtain ⟨x115, ex115⟩ : ∃ y : Int, h112.2.2 60 23 = y := ⟨_, rfl⟩
                      have rx115 := Ih112.atR (a := 60) (j := 23) rfl
                      rw [ex115] at rx115
                      refine to_goto (dat dk_X12_field 84 rfl) rfl ?_
                      refine to_pick [0, 1, 2, 3, 4, 5, 6, 7, 8, 9, 10] rfl ?_
                      exact jn259_n43 y6 y7 y8 h112 (by omega) (by omega) (by omega) Ih112 f114 (show h112.2.2 60 23 ≤ y34 - f ∨ (y34 = g ∧ h112.2.2 60 23 ≤ g - f + 1) by omega)
                  · skip
                    refine to_iinc (L' := [(0, .inr (.inr 60)), (1, .inl f), (2, .inl g), (3, .inl n), (4, .inl y6), (5, .inl y7), (6, .inl y8), (7, .inl y9), (8, .inl x28), (9, .inl x31), (10, .inl y34), (11, .inl (y80 + 1))]) (dat dk_X12_field 62 rfl) rfl (by decide) rfl (to_goto (dat dk_X12_field 63 rfl) rfl ?_)
                    exact ihn82 (n82 - 1) (by omega) (y80 + 1) (by omega) (show y9 ≤ (y80 + 1) ∧ (y80 + 1) ≤ x31 by omega) (show x31 - (y80 + 1) ≤ ((n82 - 1 : Nat) : Int) by omega)
              exact lp104_n82 (x31 - y9).toNat y9 ry9 (show y9 ≤ y9 ∧ y9 ≤ x31 by omega) (by omega)
            · skip
              refine to_goto (dat dk_X12_field 50 rfl) rfl (to_aload_n (dat dk_X12_field 133 rfl) rfl (to_iload (dat dk_X12_field 134 rfl) rfl (to_putIw p_c13_202 (dat dk_X12_field 135 rfl) (Ih10.atS rfl) ?_)))
              intro h118 wh118
              have I116 : Inv h118 := by rw [wh118]; exact Ih10.put (a := 60) (j := 26) (x := y9) (0) (240000) rfl rfl (show (0 : Int) ≤ y9 ∧ y9 ≤ 240000 by omega)
              have f117 : Fr [75, 223, 226] h h118 := by rw [wh118]; exact Fr.putF (a := 60) (j := 26) (x := y9) fh10 rfl
              refine to_aload_n (dat dk_X12_field 136 rfl) rfl ?_
              have e119 : h118.2.2 60 23 = x16 := (by rw [wh118]; exact ex16)
              refine to_cV ca_c13_205 (dat dk_X12_field 137 rfl) (ct_X12_trim l h118 I116 ) rfl ⟨_, _, rfl, (I116.atS rfl)⟩ rfl (fun h121 p122 => ?_)
              obtain ⟨Ih121, fh121, p122_0⟩ := p122
              have f123 : Fr [75, 223, 226] h h121 := Fr.sub f117 fh121 rfl
              obtain ⟨x124, ex124⟩ : ∃ y : Int, h121.2.2 60 23 = y := ⟨_, rfl⟩
              have rx124 := Ih121.atR (a := 60) (j := 23) rfl
              rw [ex124] at rx124
              refine to_iload (dat dk_X12_field 138 rfl) rfl ?_
              have e125 : h121.2.2 60 26 = y9 := ((Fr.get fh121 (by have := I116.1.1; omega) rfl).trans (by rw [wh118]; exact wr_eq))
              exact to_zret rfl (dat dk_X12_field 139 rfl) (by omega) (ri_mk (by omega) ⟨Ih121, f123, (by omega), (show f ≤ h121.2.2 60 26 ∧ h121.2.2 60 26 ≤ g by omega), (show h121.2.2 60 23 ≤ g - f + 1 by omega)⟩)
        · skip
          refine to_iload (dat dk_X12_field 39 rfl) rfl (to_istore (L' := [(0, .inr (.inr 60)), (1, .inl f), (2, .inl g), (3, .inl n), (4, .inl y6), (5, .inl y7), (6, .inl y8), (7, .inl y34), (8, .inl x28), (9, .inl x31), (10, .inl y34)]) (dat dk_X12_field 40 rfl) (by decide) rfl (to_goto (dat dk_X12_field 41 rfl) rfl (to_aload_n (dat dk_X12_field 133 rfl) rfl (to_iload (dat dk_X12_field 134 rfl) rfl (to_putIw p_c13_202 (dat dk_X12_field 135 rfl) (Ih10.atS rfl) ?_)))))
          intro h128 wh128
          have I126 : Inv h128 := by rw [wh128]; exact Ih10.put (a := 60) (j := 26) (x := y34) (0) (240000) rfl rfl (show (0 : Int) ≤ y34 ∧ y34 ≤ 240000 by omega)
          have f127 : Fr [75, 223, 226] h h128 := by rw [wh128]; exact Fr.putF (a := 60) (j := 26) (x := y34) fh10 rfl
          refine to_aload_n (dat dk_X12_field 136 rfl) rfl ?_
          have e129 : h128.2.2 60 23 = x16 := (by rw [wh128]; exact ex16)
          refine to_cV ca_c13_205 (dat dk_X12_field 137 rfl) (ct_X12_trim l h128 I126 ) rfl ⟨_, _, rfl, (I126.atS rfl)⟩ rfl (fun h131 p132 => ?_)
          obtain ⟨Ih131, fh131, p132_0⟩ := p132
          have f133 : Fr [75, 223, 226] h h131 := Fr.sub f127 fh131 rfl
          obtain ⟨x134, ex134⟩ : ∃ y : Int, h131.2.2 60 23 = y := ⟨_, rfl⟩
          have rx134 := Ih131.atR (a := 60) (j := 23) rfl
          rw [ex134] at rx134
          refine to_iload (dat dk_X12_field 138 rfl) rfl ?_
          have e135 : h131.2.2 60 26 = y34 := ((Fr.get fh131 (by have := I126.1.1; omega) rfl).trans (by rw [wh128]; exact wr_eq))
          exact to_zret rfl (dat dk_X12_field 139 rfl) (by omega) (ri_mk (by omega) ⟨Ih131, f133, (by omega), (show f ≤ h131.2.2 60 26 ∧ h131.2.2 60 26 ≤ g by omega), (show h131.2.2 60 23 ≤ g - f + 1 by omega)⟩)
      refine to_iload (dat dk_X12_field 27 rfl) rfl (to_iload_n (dat dk_X12_field 28 rfl) rfl ?_)
      refine to_ige 62 (dat dk_X12_field 29 rfl) rfl rx28 hg (fun c136 => ?_) (fun c136 => ?_)
      · skip
        refine to_iload_n (dat dk_X12_field 34 rfl) rfl ?_
        exact jn63_n36 g hg (show (x28 < g ∧ g = x28 + 1) ∨ (g ≤ x28 ∧ g = g) by omega)
      · skip
        refine to_iload (dat dk_X12_field 30 rfl) rfl (to_iconst (dat dk_X12_field 31 rfl) (to_iadd (dat dk_X12_field 32 rfl) (to_goto (dat dk_X12_field 33 rfl) rfl ?_)))
        exact jn63_n36 (x28 + 1) (by omega) (show (x28 < g ∧ (x28 + 1) = x28 + 1) ∨ (g ≤ x28 ∧ (x28 + 1) = g) by omega)
  exact lp17_n14 (g - f).toNat 0 0 0 f h5 (by decide) (by decide) (by decide) hf I3 f4 (show f ≤ f ∧ f ≤ g by omega) (show h5.2.2 60 23 ≤ f - f ∨ (f = g ∧ h5.2.2 60 23 ≤ g - f + 1) by omega) (by omega)
abbrev Q_X12_base (h : Hp) (a : Nat) (f : Int) (g : Int) : Option V → Hp → Nat → Nat → Prop := RV (fun H => Inv H ∧ Fr [76, 225] h H ∧ ((g ≤ f ∧ H.2.2 60 25 = h.2.2 60 25) ∨ (f ≤ g ∧ H.2.2 60 25 ≤ h.2.2 60 25 + (g - f))) ∧ (h.2.2 60 25 ≤ H.2.2 60 25))
set_option maxRecDepth 100000 in
theorem ct_X12_base (l : Launch) (h : Hp) (hI : Inv h) (a : Nat) (na : Nat) (ha : isA a na = true) (f : Int) (hf : I32 f) (g : Int) (hg : I32 g) (g0 : 0 ≤ f) (g1 : g ≤ (na : Int)) (g2 : h.2.2 60 25 + (g - f) ≤ 4000) : Ct l D_X12_base 2 40 [.inr (.inr 60), .inr (.inr a), .inl f, .inl g] h (Q_X12_base h a f g) := by
  refine ct_of pn_X12_base (Nat.le_of_ble_eq_true rfl) ?_
  show To l E_X12_base (0, [(0, .inr (.inr 60)), (1, .inr (.inr a)), (2, .inl f), (3, .inl g)], [], h, 0, 0) _
  have la := isA_le ha
  obtain ⟨x1, ex1⟩ : ∃ y : Int, h.2.2 60 25 = y := ⟨_, rfl⟩
  have rx1 := hI.atR (a := 60) (j := 25) rfl
  rw [ex1] at rx1
  refine to_iconst (dat dk_X12_base 0 rfl) (to_istore (L' := [(0, .inr (.inr 60)), (1, .inr (.inr a)), (2, .inl f), (3, .inl g), (4, .inl 0)]) (dat dk_X12_base 1 rfl) (by decide) rfl (to_iconst (dat dk_X12_base 2 rfl) (to_istore (L' := [(0, .inr (.inr 60)), (1, .inr (.inr a)), (2, .inl f), (3, .inl g), (4, .inl 0), (5, .inl 0)]) (dat dk_X12_base 3 rfl) (by decide) rfl (to_iload_n (dat dk_X12_base 4 rfl) rfl (to_istore (L' := [(0, .inr (.inr 60)), (1, .inr (.inr a)), (2, .inl f), (3, .inl g), (4, .inl 0), (5, .inl 0), (6, .inl f)]) (dat dk_X12_base 5 rfl) (by decide) rfl ?_)))))
  have lp9_n11 : ∀ (n11 : Nat) (y2 : Int) (y3 : Int) (y4 : Int) (h5 : Hp), (I32 y2) → (I32 y3) → (I32 y4) → (Inv h5) → (Fr [76, 225] h h5) → (f ≤ y4) → (y4 = f ∨ y4 ≤ g) → (0 ≤ y3 ∧ y3 ≤ 3) → (h5.2.2 60 25 + y3 ≤ h.2.2 60 25 + (y4 - f)) → (h.2.2 60 25 ≤ h5.2.2 60 25) → (g - y4 ≤ (n11 : Int)) → To l E_X12_base (9, [(0, .inr (.inr 60)), (1, .inr (.inr a)), (2, .inl f), (3, .inl g), (4, .inl y2), (5, .inl y3), (6, .inl y4)], [], h5, 0, 0) (Q_X12_base h a f g) := by
    intro n11
    induction n11 using Nat.strongRecOn with
    | _ n11 ihn11 =>
    intro y2 y3 y4 h5 ry2 ry3 ry4 Ih5 fh5 c6 c7 c8 c9 c10 c12
    obtain ⟨x13, ex13⟩ : ∃ y : Int, h5.2.2 60 25 = y := ⟨_, rfl⟩
    have rx13 := Ih5.atR (a := 60) (j := 25) rfl
    rw [ex13] at rx13
    refine to_iload (dat dk_X12_base 6 rfl) rfl (to_iload_n (dat dk_X12_base 7 rfl) rfl ?_)
    refine to_ige 91 (dat dk_X12_base 8 rfl) rfl ry4 hg (fun c14 => ?_) (fun c14 => ?_)
    · skip
      refine to_iload (dat dk_X12_base 48 rfl) rfl (to_iconst (dat dk_X12_base 49 rfl) ?_)
      refine to_ine 114 (dat dk_X12_base 50 rfl) rfl ry3 (by decide) (fun c15 => ?_) (fun c15 => ?_)
      · skip
        refine to_iload (dat dk_X12_base 61 rfl) rfl (to_iconst (dat dk_X12_base 62 rfl) ?_)
        refine to_ine 128 (dat dk_X12_base 63 rfl) rfl ry3 (by decide) (fun c16 => ?_) (fun c16 => ?_)
        · skip
          exact to_vret rfl (dat dk_X12_base 69 rfl) (rv_mk ⟨Ih5, fh5, (show (g ≤ f ∧ h5.2.2 60 25 = h.2.2 60 25) ∨ (f ≤ g ∧ h5.2.2 60 25 ≤ h.2.2 60 25 + (g - f)) by omega), (show h.2.2 60 25 ≤ h5.2.2 60 25 by omega)⟩)
        · skip
          refine to_aload_n (dat dk_X12_base 64 rfl) rfl (to_iload (dat dk_X12_base 65 rfl) rfl (to_iconst (dat dk_X12_base 66 rfl) ?_))
          refine to_ishr (dat dk_X12_base 67 rfl) (fun x17 rx17 => ?_)
          refine to_cV ca_c13_211 (dat dk_X12_base 68 rfl) (ct_X12_put l h5 Ih5 x17 rx17 (show h5.2.2 60 25 ≤ 3999 by omega)) rfl ⟨_, _, rfl, (Ih5.atS rfl)⟩ rfl (fun h19 p20 => ?_)
          obtain ⟨Ih19, fh19, p20_0⟩ := p20
          have f21 : Fr [76, 225] h h19 := Fr.sub fh5 fh19 (sub_self _)
          obtain ⟨x22, ex22⟩ : ∃ y : Int, h19.2.2 60 25 = y := ⟨_, rfl⟩
          have rx22 := Ih19.atR (a := 60) (j := 25) rfl
          rw [ex22] at rx22
          exact to_vret rfl (dat dk_X12_base 69 rfl) (rv_mk ⟨Ih19, f21, (show (g ≤ f ∧ h19.2.2 60 25 = h.2.2 60 25) ∨ (f ≤ g ∧ h19.2.2 60 25 ≤ h.2.2 60 25 + (g - f)) by omega), (show h.2.2 60 25 ≤ h19.2.2 60 25 by omega)⟩)
      · skip
        refine to_aload_n (dat dk_X12_base 51 rfl) rfl (to_iload (dat dk_X12_base 52 rfl) rfl (to_bipush (dat dk_X12_base 53 rfl) (by decide) ?_))
        refine to_ishr (dat dk_X12_base 54 rfl) (fun x23 rx23 => ?_)
        refine to_cV ca_c13_211 (dat dk_X12_base 55 rfl) (ct_X12_put l h5 Ih5 x23 rx23 (show h5.2.2 60 25 ≤ 3999 by omega)) rfl ⟨_, _, rfl, (Ih5.atS rfl)⟩ rfl (fun h25 p26 => ?_)
        obtain ⟨Ih25, fh25, p26_0⟩ := p26
        have f27 : Fr [76, 225] h h25 := Fr.sub fh5 fh25 (sub_self _)
        obtain ⟨x28, ex28⟩ : ∃ y : Int, h25.2.2 60 25 = y := ⟨_, rfl⟩
        have rx28 := Ih25.atR (a := 60) (j := 25) rfl
        rw [ex28] at rx28
        refine to_aload_n (dat dk_X12_base 56 rfl) rfl (to_iload (dat dk_X12_base 57 rfl) rfl (to_iconst (dat dk_X12_base 58 rfl) ?_))
        refine to_ishr (dat dk_X12_base 59 rfl) (fun x29 rx29 => ?_)
        refine to_cV ca_c13_211 (dat dk_X12_base 60 rfl) (ct_X12_put l h25 Ih25 x29 rx29 (show h25.2.2 60 25 ≤ 3999 by omega)) rfl ⟨_, _, rfl, (Ih25.atS rfl)⟩ rfl (fun h31 p32 => ?_)
        obtain ⟨Ih31, fh31, p32_0⟩ := p32
        have f33 : Fr [76, 225] h h31 := Fr.sub f27 fh31 (sub_self _)
        obtain ⟨x34, ex34⟩ : ∃ y : Int, h31.2.2 60 25 = y := ⟨_, rfl⟩
        have rx34 := Ih31.atR (a := 60) (j := 25) rfl
        rw [ex34] at rx34
        refine to_iload (dat dk_X12_base 61 rfl) rfl (to_iconst (dat dk_X12_base 62 rfl) ?_)
        refine to_ine 128 (dat dk_X12_base 63 rfl) rfl ry3 (by decide) (fun c35 => ?_) (fun c35 => ?_)
        · skip
          exact to_vret rfl (dat dk_X12_base 69 rfl) (rv_mk ⟨Ih31, f33, (show (g ≤ f ∧ h31.2.2 60 25 = h.2.2 60 25) ∨ (f ≤ g ∧ h31.2.2 60 25 ≤ h.2.2 60 25 + (g - f)) by omega), (show h.2.2 60 25 ≤ h31.2.2 60 25 by omega)⟩)
        · skip
          refine to_aload_n (dat dk_X12_base 64 rfl) rfl (to_iload (dat dk_X12_base 65 rfl) rfl (to_iconst (dat dk_X12_base 66 rfl) ?_))
          refine to_ishr (dat dk_X12_base 67 rfl) (fun x36 rx36 => ?_)
          refine to_cV ca_c13_211 (dat dk_X12_base 68 rfl) (ct_X12_put l h31 Ih31 x36 rx36 (show h31.2.2 60 25 ≤ 3999 by omega)) rfl ⟨_, _, rfl, (Ih31.atS rfl)⟩ rfl (fun h38 p39 => ?_)
          obtain ⟨Ih38, fh38, p39_0⟩ := p39
          have f40 : Fr [76, 225] h h38 := Fr.sub f33 fh38 (sub_self _)
          obtain ⟨x41, ex41⟩ : ∃ y : Int, h38.2.2 60 25 = y := ⟨_, rfl⟩
          have rx41 := Ih38.atR (a := 60) (j := 25) rfl
          rw [ex41] at rx41
          exact to_vret rfl (dat dk_X12_base 69 rfl) (rv_mk ⟨Ih38, f40, (show (g ≤ f ∧ h38.2.2 60 25 = h.2.2 60 25) ∨ (f ≤ g ∧ h38.2.2 60 25 ≤ h.2.2 60 25 + (g - f)) by omega), (show h.2.2 60 25 ≤ h38.2.2 60 25 by omega)⟩)
    · skip
      refine to_aload_np (dat dk_X12_base 9 rfl) (Ih5.posN (Ih5.aT ha)) rfl (to_iload (dat dk_X12_base 10 rfl) rfl ?_)
      obtain ⟨x42, ex42⟩ : ∃ y : Int, h5.2.2 a (Int.toNat y4) = y := ⟨_, rfl⟩
      have rx42 := Ih5.aC (j := Int.toNat y4) ha
      rw [ex42] at rx42
      refine to_baldv (q := 1) ex42 (dat dk_X12_base 11 rfl) (by decide) (Ih5.aT ha) rfl (isA_n ha) (by omega) ?_
      refine to_cI ca_c13_208 (dat dk_X12_base 12 rfl) (ct_X12_sixtyFour l h5 Ih5 x42 (by omega)) rfl trivial rfl (fun x43 h44 rx43 p45 => ?_)
      obtain ⟨rfl, p45_0⟩ := p45
      refine to_istore (L' := [(0, .inr (.inr 60)), (1, .inr (.inr a)), (2, .inl f), (3, .inl g), (4, .inl y2), (5, .inl y3), (6, .inl y4), (7, .inl x43)]) (dat dk_X12_base 13 rfl) (by decide) rfl (to_iload (dat dk_X12_base 14 rfl) rfl (to_iconst (dat dk_X12_base 15 rfl) ?_))
      refine to_ine 33 (dat dk_X12_base 16 rfl) rfl rx43 (by decide) (fun c46 => ?_) (fun c46 => ?_)
      · skip
        refine to_iload (dat dk_X12_base 18 rfl) rfl (to_bipush (dat dk_X12_base 19 rfl) (by decide) ?_)
        refine to_ishl (dat dk_X12_base 20 rfl) (fun x47 rx47 => ?_)
        refine to_iload (dat dk_X12_base 21 rfl) rfl ?_
        refine to_ior (dat dk_X12_base 22 rfl) (fun x48 rx48 => ?_)
        refine to_istore (L' := [(0, .inr (.inr 60)), (1, .inr (.inr a)), (2, .inl f), (3, .inl g), (4, .inl x48), (5, .inl y3), (6, .inl y4), (7, .inl x43)]) (dat dk_X12_base 23 rfl) (by decide) rfl (to_iinc (L' := [(0, .inr (.inr 60)), (1, .inr (.inr a)), (2, .inl f), (3, .inl g), (4, .inl x48), (5, .inl (y3 + 1)), (6, .inl y4), (7, .inl x43)]) (dat dk_X12_base 24 rfl) rfl (by decide) rfl (to_iload (dat dk_X12_base 25 rfl) rfl (to_iconst (dat dk_X12_base 26 rfl) ?_)))
        refine to_ige 55 (dat dk_X12_base 27 rfl) rfl (by omega) (by decide) (fun c49 => ?_) (fun c49 => ?_)
        · skip
          refine to_aload_n (dat dk_X12_base 29 rfl) rfl (to_iload (dat dk_X12_base 30 rfl) rfl (to_bipush (dat dk_X12_base 31 rfl) (by decide) ?_))
          refine to_ishr (dat dk_X12_base 32 rfl) (fun x50 rx50 => ?_)
          refine to_cV ca_c13_211 (dat dk_X12_base 33 rfl) (ct_X12_put l h5 Ih5 x50 rx50 (show h5.2.2 60 25 ≤ 3999 by omega)) rfl ⟨_, _, rfl, (Ih5.atS rfl)⟩ rfl (fun h52 p53 => ?_)
          obtain ⟨Ih52, fh52, p53_0⟩ := p53
          have f54 : Fr [76, 225] h h52 := Fr.sub fh5 fh52 (sub_self _)
          obtain ⟨x55, ex55⟩ : ∃ y : Int, h52.2.2 60 25 = y := ⟨_, rfl⟩
          have rx55 := Ih52.atR (a := 60) (j := 25) rfl
          rw [ex55] at rx55
          refine to_aload_n (dat dk_X12_base 34 rfl) rfl (to_iload (dat dk_X12_base 35 rfl) rfl (to_bipush (dat dk_X12_base 36 rfl) (by decide) ?_))
          refine to_ishr (dat dk_X12_base 37 rfl) (fun x56 rx56 => ?_)
          refine to_cV ca_c13_211 (dat dk_X12_base 38 rfl) (ct_X12_put l h52 Ih52 x56 rx56 (show h52.2.2 60 25 ≤ 3999 by omega)) rfl ⟨_, _, rfl, (Ih52.atS rfl)⟩ rfl (fun h58 p59 => ?_)
          obtain ⟨Ih58, fh58, p59_0⟩ := p59
          have f60 : Fr [76, 225] h h58 := Fr.sub f54 fh58 (sub_self _)
          obtain ⟨x61, ex61⟩ : ∃ y : Int, h58.2.2 60 25 = y := ⟨_, rfl⟩
          have rx61 := Ih58.atR (a := 60) (j := 25) rfl
          rw [ex61] at rx61
          refine to_aload_n (dat dk_X12_base 39 rfl) rfl (to_iload (dat dk_X12_base 40 rfl) rfl ?_)
          refine to_cV ca_c13_211 (dat dk_X12_base 41 rfl) (ct_X12_put l h58 Ih58 x48 rx48 (show h58.2.2 60 25 ≤ 3999 by omega)) rfl ⟨_, _, rfl, (Ih58.atS rfl)⟩ rfl (fun h63 p64 => ?_)
          obtain ⟨Ih63, fh63, p64_0⟩ := p64
          have f65 : Fr [76, 225] h h63 := Fr.sub f60 fh63 (sub_self _)
          obtain ⟨x66, ex66⟩ : ∃ y : Int, h63.2.2 60 25 = y := ⟨_, rfl⟩
          have rx66 := Ih63.atR (a := 60) (j := 25) rfl
          rw [ex66] at rx66
          refine to_iconst (dat dk_X12_base 42 rfl) (to_istore (L' := [(0, .inr (.inr 60)), (1, .inr (.inr a)), (2, .inl f), (3, .inl g), (4, .inl 0), (5, .inl (y3 + 1)), (6, .inl y4), (7, .inl x43)]) (dat dk_X12_base 43 rfl) (by decide) rfl (to_iconst (dat dk_X12_base 44 rfl) (to_istore (L' := [(0, .inr (.inr 60)), (1, .inr (.inr a)), (2, .inl f), (3, .inl g), (4, .inl 0), (5, .inl 0), (6, .inl y4), (7, .inl x43)]) (dat dk_X12_base 45 rfl) (by decide) rfl (to_iinc (L' := [(0, .inr (.inr 60)), (1, .inr (.inr a)), (2, .inl f), (3, .inl g), (4, .inl 0), (5, .inl 0), (6, .inl (y4 + 1)), (7, .inl x43)]) (dat dk_X12_base 46 rfl) rfl (by decide) rfl (to_goto (dat dk_X12_base 47 rfl) rfl ?_)))))
          refine to_pick [0, 1, 2, 3, 4, 5, 6] rfl ?_
          exact ihn11 (n11 - 1) (by omega) 0 0 (y4 + 1) h63 (by decide) (by decide) (by omega) Ih63 f65 (show f ≤ (y4 + 1) by omega) (show (y4 + 1) = f ∨ (y4 + 1) ≤ g by omega) (show 0 ≤ (0 : Int) ∧ (0 : Int) ≤ 3 by omega) (show h63.2.2 60 25 + (0 : Int) ≤ h.2.2 60 25 + ((y4 + 1) - f) by omega) (show h.2.2 60 25 ≤ h63.2.2 60 25 by omega) (show g - (y4 + 1) ≤ ((n11 - 1 : Nat) : Int) by omega)
        · skip
          refine to_goto (dat dk_X12_base 28 rfl) rfl (to_iinc (L' := [(0, .inr (.inr 60)), (1, .inr (.inr a)), (2, .inl f), (3, .inl g), (4, .inl x48), (5, .inl (y3 + 1)), (6, .inl (y4 + 1)), (7, .inl x43)]) (dat dk_X12_base 46 rfl) rfl (by decide) rfl (to_goto (dat dk_X12_base 47 rfl) rfl ?_))
          refine to_pick [0, 1, 2, 3, 4, 5, 6] rfl ?_
          exact ihn11 (n11 - 1) (by omega) x48 (y3 + 1) (y4 + 1) h5 rx48 (by omega) (by omega) Ih5 fh5 (show f ≤ (y4 + 1) by omega) (show (y4 + 1) = f ∨ (y4 + 1) ≤ g by omega) (show 0 ≤ (y3 + 1) ∧ (y3 + 1) ≤ 3 by omega) (show h5.2.2 60 25 + (y3 + 1) ≤ h.2.2 60 25 + ((y4 + 1) - f) by omega) (show h.2.2 60 25 ≤ h5.2.2 60 25 by omega) (show g - (y4 + 1) ≤ ((n11 - 1 : Nat) : Int) by omega)
      · skip
        refine to_goto (dat dk_X12_base 17 rfl) rfl (to_iinc (L' := [(0, .inr (.inr 60)), (1, .inr (.inr a)), (2, .inl f), (3, .inl g), (4, .inl y2), (5, .inl y3), (6, .inl (y4 + 1)), (7, .inl x43)]) (dat dk_X12_base 46 rfl) rfl (by decide) rfl (to_goto (dat dk_X12_base 47 rfl) rfl ?_))
        refine to_pick [0, 1, 2, 3, 4, 5, 6] rfl ?_
        exact ihn11 (n11 - 1) (by omega) y2 y3 (y4 + 1) h5 ry2 ry3 (by omega) Ih5 fh5 (show f ≤ (y4 + 1) by omega) (show (y4 + 1) = f ∨ (y4 + 1) ≤ g by omega) (show 0 ≤ y3 ∧ y3 ≤ 3 by omega) (show h5.2.2 60 25 + y3 ≤ h.2.2 60 25 + ((y4 + 1) - f) by omega) (show h.2.2 60 25 ≤ h5.2.2 60 25 by omega) (show g - (y4 + 1) ≤ ((n11 - 1 : Nat) : Int) by omega)
  exact lp9_n11 (g - f).toNat 0 0 f h (by decide) (by decide) hf hI (Fr.rf _ _) (show f ≤ f by omega) (show f = f ∨ f ≤ g by omega) (show 0 ≤ (0 : Int) ∧ (0 : Int) ≤ 3 by omega) (show h.2.2 60 25 + (0 : Int) ≤ h.2.2 60 25 + (f - f) by omega) (show h.2.2 60 25 ≤ h.2.2 60 25 by omega) (by omega)
abbrev Q_X12_digits (h : Hp) (a : Nat) (f : Int) (g : Int) (u : Int) : Option V → Hp → Nat → Nat → Prop := RV (fun H => Inv H ∧ Fr [76, 225] h H ∧ ((g ≤ f ∧ H.2.2 60 25 = h.2.2 60 25) ∨ (f ≤ g ∧ H.2.2 60 25 ≤ h.2.2 60 25 + (g - f))) ∧ (h.2.2 60 25 ≤ H.2.2 60 25))
set_option maxRecDepth 100000 in
theorem ct_X12_digits (l : Launch) (h : Hp) (hI : Inv h) (a : Nat) (na : Nat) (ha : isA a na = true) (f : Int) (hf : I32 f) (g : Int) (hg : I32 g) (u : Int) (hu : u = 0 ∨ u = 1) (g0 : 0 ≤ f) (g1 : g ≤ (na : Int)) (g2 : h.2.2 60 25 + (g - f) ≤ 4000) : Ct l D_X12_digits 2 41 [.inr (.inr 60), .inr (.inr a), .inl f, .inl g, .inl u] h (Q_X12_digits h a f g u) := by
  refine ct_of pn_X12_digits (Nat.le_of_ble_eq_true rfl) ?_
  show To l E_X12_digits (0, [(0, .inr (.inr 60)), (1, .inr (.inr a)), (2, .inl f), (3, .inl g), (4, .inl u)], [], h, 0, 0) _
  have la := isA_le ha
  obtain ⟨x1, ex1⟩ : ∃ y : Int, h.2.2 60 25 = y := ⟨_, rfl⟩
  have rx1 := hI.atR (a := 60) (j := 25) rfl
  rw [ex1] at rx1
  refine to_iload_n (dat dk_X12_digits 0 rfl) rfl (to_istore (L' := [(0, .inr (.inr 60)), (1, .inr (.inr a)), (2, .inl f), (3, .inl g), (4, .inl u), (5, .inl f)]) (dat dk_X12_digits 1 rfl) (by decide) rfl ?_)
  have lp3_n8 : ∀ (n8 : Nat) (y2 : Int) (h3 : Hp), (I32 y2) → (Inv h3) → (Fr [76, 225] h h3) → (f ≤ y2) → (y2 = f ∨ y2 ≤ g) → (h3.2.2 60 25 ≤ h.2.2 60 25 + (y2 - f)) → (h.2.2 60 25 ≤ h3.2.2 60 25) → (g - y2 ≤ (n8 : Int)) → To l E_X12_digits (3, [(0, .inr (.inr 60)), (1, .inr (.inr a)), (2, .inl f), (3, .inl g), (4, .inl u), (5, .inl y2)], [], h3, 0, 0) (Q_X12_digits h a f g u) := by
    intro n8
    induction n8 using Nat.strongRecOn with
    | _ n8 ihn8 =>
    intro y2 h3 ry2 Ih3 fh3 c4 c5 c6 c7 c9
    obtain ⟨x10, ex10⟩ : ∃ y : Int, h3.2.2 60 25 = y := ⟨_, rfl⟩
    have rx10 := Ih3.atR (a := 60) (j := 25) rfl
    rw [ex10] at rx10
    refine to_iload (dat dk_X12_digits 2 rfl) rfl (to_iload_n (dat dk_X12_digits 3 rfl) rfl ?_)
    refine to_ige 138 (dat dk_X12_digits 4 rfl) rfl ry2 hg (fun c11 => ?_) (fun c11 => ?_)
    · skip
      exact to_vret rfl (dat dk_X12_digits 78 rfl) (rv_mk ⟨Ih3, fh3, (show (g ≤ f ∧ h3.2.2 60 25 = h.2.2 60 25) ∨ (f ≤ g ∧ h3.2.2 60 25 ≤ h.2.2 60 25 + (g - f)) by omega), (show h.2.2 60 25 ≤ h3.2.2 60 25 by omega)⟩)
    · skip
      have jn57_n14 : ∀ (y12 : Int), (y12 = 0 ∨ y12 = 1) → (y12 = 0 ∨ y2 + 2 < g) → To l E_X12_digits (57, [(0, .inr (.inr 60)), (1, .inr (.inr a)), (2, .inl f), (3, .inl g), (4, .inl u), (5, .inl y2)], [.inl y12], h3, 0, 0) (Q_X12_digits h a f g u) := by
        intro y12 ry12 c13
        refine to_istore (L' := [(0, .inr (.inr 60)), (1, .inr (.inr a)), (2, .inl f), (3, .inl g), (4, .inl u), (5, .inl y2), (6, .inl y12)]) (dat dk_X12_digits 34 rfl) (by decide) rfl ?_
        have jn120_n18 : ∀ (h15 : Hp), (Inv h15) → (Fr [76, 225] h h15) → (h15.2.2 60 25 ≤ h.2.2 60 25 + (y2 + 1 - f)) → (h.2.2 60 25 ≤ h15.2.2 60 25) → To l E_X12_digits (120, [(0, .inr (.inr 60)), (1, .inr (.inr a)), (2, .inl f), (3, .inl g), (4, .inl u), (5, .inl y2), (6, .inl y12)], [], h15, 0, 0) (Q_X12_digits h a f g u) := by
          intro h15 Ih15 fh15 c16 c17
          obtain ⟨x19, ex19⟩ : ∃ y : Int, h15.2.2 60 25 = y := ⟨_, rfl⟩
          have rx19 := Ih15.atR (a := 60) (j := 25) rfl
          rw [ex19] at rx19
          refine to_iload (dat dk_X12_digits 69 rfl) rfl (to_iload (dat dk_X12_digits 70 rfl) rfl ?_)
          refine to_ifeq 131 (dat dk_X12_digits 71 rfl) rfl (by omega) (fun c20 => ?_) (fun c20 => ?_)
          · skip
            refine to_iconst (dat dk_X12_digits 74 rfl) (to_iadd (dat dk_X12_digits 75 rfl) (to_istore (L' := [(0, .inr (.inr 60)), (1, .inr (.inr a)), (2, .inl f), (3, .inl g), (4, .inl u), (5, .inl (y2 + 1)), (6, .inl y12)]) (dat dk_X12_digits 76 rfl) (by decide) rfl (to_goto (dat dk_X12_digits 77 rfl) rfl ?_)))
            refine to_pick [0, 1, 2, 3, 4, 5] rfl ?_
            exact ihn8 (n8 - 1) (by omega) (y2 + 1) h15 (by omega) Ih15 fh15 (show f ≤ (y2 + 1) by omega) (show (y2 + 1) = f ∨ (y2 + 1) ≤ g by omega) (show h15.2.2 60 25 ≤ h.2.2 60 25 + ((y2 + 1) - f) by omega) (show h.2.2 60 25 ≤ h15.2.2 60 25 by omega) (show g - (y2 + 1) ≤ ((n8 - 1 : Nat) : Int) by omega)
          · skip
            refine to_iconst (dat dk_X12_digits 72 rfl) (to_goto (dat dk_X12_digits 73 rfl) rfl (to_iadd (dat dk_X12_digits 75 rfl) (to_istore (L' := [(0, .inr (.inr 60)), (1, .inr (.inr a)), (2, .inl f), (3, .inl g), (4, .inl u), (5, .inl (y2 + 3)), (6, .inl y12)]) (dat dk_X12_digits 76 rfl) (by decide) rfl (to_goto (dat dk_X12_digits 77 rfl) rfl ?_))))
            refine to_pick [0, 1, 2, 3, 4, 5] rfl ?_
            exact ihn8 (n8 - 1) (by omega) (y2 + 3) h15 (by omega) Ih15 fh15 (show f ≤ (y2 + 3) by omega) (show (y2 + 3) = f ∨ (y2 + 3) ≤ g by omega) (show h15.2.2 60 25 ≤ h.2.2 60 25 + ((y2 + 3) - f) by omega) (show h.2.2 60 25 ≤ h15.2.2 60 25 by omega) (show g - (y2 + 3) ≤ ((n8 - 1 : Nat) : Int) by omega)
        refine to_iload (dat dk_X12_digits 35 rfl) rfl ?_
        refine to_ifeq 93 (dat dk_X12_digits 36 rfl) rfl (by omega) (fun c21 => ?_) (fun c21 => ?_)
        · skip
          refine to_aload_n (dat dk_X12_digits 55 rfl) rfl (to_iload (dat dk_X12_digits 56 rfl) rfl ?_)
          refine to_ifeq 113 (dat dk_X12_digits 57 rfl) rfl (by omega) (fun c22 => ?_) (fun c22 => ?_)
          · skip
            refine to_aload_np (dat dk_X12_digits 65 rfl) (Ih3.posN (Ih3.aT ha)) rfl (to_iload (dat dk_X12_digits 66 rfl) rfl ?_)
            obtain ⟨x23, ex23⟩ : ∃ y : Int, h3.2.2 a (Int.toNat y2) = y := ⟨_, rfl⟩
            have rx23 := Ih3.aC (j := Int.toNat y2) ha
            rw [ex23] at rx23
            refine to_baldv (q := 1) ex23 (dat dk_X12_digits 67 rfl) (by decide) (Ih3.aT ha) rfl (isA_n ha) (by omega) ?_
            refine to_cV ca_c13_211 (dat dk_X12_digits 68 rfl) (ct_X12_put l h3 Ih3 x23 (by omega) (show h3.2.2 60 25 ≤ 3999 by omega)) rfl ⟨_, _, rfl, (Ih3.atS rfl)⟩ rfl (fun h25 p26 => ?_)
            obtain ⟨Ih25, fh25, p26_0⟩ := p26
            have f27 : Fr [76, 225] h h25 := Fr.sub fh3 fh25 (sub_self _)
            obtain ⟨x28, ex28⟩ : ∃ y : Int, h25.2.2 60 25 = y := ⟨_, rfl⟩
            have rx28 := Ih25.atR (a := 60) (j := 25) rfl
            rw [ex28] at rx28
            exact jn120_n18 h25 Ih25 f27 (show h25.2.2 60 25 ≤ h.2.2 60 25 + (y2 + 1 - f) by omega) (show h.2.2 60 25 ≤ h25.2.2 60 25 by omega)
          · skip
            refine to_aload_np (dat dk_X12_digits 58 rfl) (Ih3.posN (Ih3.aT ha)) rfl (to_iload (dat dk_X12_digits 59 rfl) rfl ?_)
            obtain ⟨x29, ex29⟩ : ∃ y : Int, h3.2.2 a (Int.toNat y2) = y := ⟨_, rfl⟩
            have rx29 := Ih3.aC (j := Int.toNat y2) ha
            rw [ex29] at rx29
            refine to_baldv (q := 1) ex29 (dat dk_X12_digits 60 rfl) (by decide) (Ih3.aT ha) rfl (isA_n ha) (by omega) (to_bipush (dat dk_X12_digits 61 rfl) (by decide) ?_)
            refine to_ine 113 (dat dk_X12_digits 62 rfl) rfl (by omega) (by decide) (fun c30 => ?_) (fun c30 => ?_)
            · skip
              refine to_aload_np (dat dk_X12_digits 65 rfl) (Ih3.posN (Ih3.aT ha)) rfl (to_iload (dat dk_X12_digits 66 rfl) rfl ?_)
              obtain ⟨x31, ex31⟩ : ∃ y : Int, h3.2.2 a (Int.toNat y2) = y := ⟨_, rfl⟩
              have rx31 := Ih3.aC (j := Int.toNat y2) ha
              rw [ex31] at rx31
              refine to_baldv (q := 1) ex31 (dat dk_X12_digits 67 rfl) (by decide) (Ih3.aT ha) rfl (isA_n ha) (by omega) ?_
              refine to_cV ca_c13_211 (dat dk_X12_digits 68 rfl) (ct_X12_put l h3 Ih3 x31 (by omega) (show h3.2.2 60 25 ≤ 3999 by omega)) rfl ⟨_, _, rfl, (Ih3.atS rfl)⟩ rfl (fun h33 p34 => ?_)
              obtain ⟨Ih33, fh33, p34_0⟩ := p34
              have f35 : Fr [76, 225] h h33 := Fr.sub fh3 fh33 (sub_self _)
              obtain ⟨x36, ex36⟩ : ∃ y : Int, h33.2.2 60 25 = y := ⟨_, rfl⟩
              have rx36 := Ih33.atR (a := 60) (j := 25) rfl
              rw [ex36] at rx36
              exact jn120_n18 h33 Ih33 f35 (show h33.2.2 60 25 ≤ h.2.2 60 25 + (y2 + 1 - f) by omega) (show h.2.2 60 25 ≤ h33.2.2 60 25 by omega)
            · skip
              refine to_bipush (dat dk_X12_digits 63 rfl) (by decide) (to_goto (dat dk_X12_digits 64 rfl) rfl ?_)
              refine to_cV ca_c13_211 (dat dk_X12_digits 68 rfl) (ct_X12_put l h3 Ih3 32 (by decide) (show h3.2.2 60 25 ≤ 3999 by omega)) rfl ⟨_, _, rfl, (Ih3.atS rfl)⟩ rfl (fun h38 p39 => ?_)
              obtain ⟨Ih38, fh38, p39_0⟩ := p39
              have f40 : Fr [76, 225] h h38 := Fr.sub fh3 fh38 (sub_self _)
              obtain ⟨x41, ex41⟩ : ∃ y : Int, h38.2.2 60 25 = y := ⟨_, rfl⟩
              have rx41 := Ih38.atR (a := 60) (j := 25) rfl
              rw [ex41] at rx41
              exact jn120_n18 h38 Ih38 f40 (show h38.2.2 60 25 ≤ h.2.2 60 25 + (y2 + 1 - f) by omega) (show h.2.2 60 25 ≤ h38.2.2 60 25 by omega)
        · skip
          refine to_aload_n (dat dk_X12_digits 37 rfl) rfl (to_bipush (dat dk_X12_digits 38 rfl) (by decide) (to_aload_np (dat dk_X12_digits 39 rfl) (Ih3.posN (Ih3.aT ha)) rfl (to_iload (dat dk_X12_digits 40 rfl) rfl (to_iconst (dat dk_X12_digits 41 rfl) (to_iadd (dat dk_X12_digits 42 rfl) ?_)))))
          obtain ⟨x42, ex42⟩ : ∃ y : Int, h3.2.2 a (Int.toNat (y2 + 1)) = y := ⟨_, rfl⟩
          have rx42 := Ih3.aC (j := Int.toNat (y2 + 1)) ha
          rw [ex42] at rx42
          refine to_baldv (q := 1) ex42 (dat dk_X12_digits 43 rfl) (by decide) (Ih3.aT ha) rfl (isA_n ha) (by omega) ?_
          refine to_cI ca_c13_215 (dat dk_X12_digits 44 rfl) (ct_X12_hexadecimal l h3 Ih3 x42 (by omega)) rfl trivial rfl (fun x43 h44 rx43 p45 => ?_)
          obtain ⟨rfl, p45_0⟩ := p45
          refine to_imulA (dat dk_X12_digits 45 rfl) (fun x46 rx46 => ?_)
          refine to_aload_np (dat dk_X12_digits 46 rfl) (Ih3.posN (Ih3.aT ha)) rfl (to_iload (dat dk_X12_digits 47 rfl) rfl (to_iconst (dat dk_X12_digits 48 rfl) (to_iadd (dat dk_X12_digits 49 rfl) ?_)))
          obtain ⟨x47, ex47⟩ : ∃ y : Int, h3.2.2 a (Int.toNat (y2 + 2)) = y := ⟨_, rfl⟩
          have rx47 := Ih3.aC (j := Int.toNat (y2 + 2)) ha
          rw [ex47] at rx47
          refine to_baldv (q := 1) ex47 (dat dk_X12_digits 50 rfl) (by decide) (Ih3.aT ha) rfl (isA_n ha) (by omega) ?_
          refine to_cI ca_c13_215 (dat dk_X12_digits 51 rfl) (ct_X12_hexadecimal l h3 Ih3 x47 (by omega)) rfl trivial rfl (fun x48 h49 rx48 p50 => ?_)
          obtain ⟨rfl, p50_0⟩ := p50
          refine to_iaddA (dat dk_X12_digits 52 rfl) (fun x51 rx51 => ?_)
          refine to_cV ca_c13_211 (dat dk_X12_digits 53 rfl) (ct_X12_put l h3 Ih3 x51 rx51 (show h3.2.2 60 25 ≤ 3999 by omega)) rfl ⟨_, _, rfl, (Ih3.atS rfl)⟩ rfl (fun h53 p54 => ?_)
          obtain ⟨Ih53, fh53, p54_0⟩ := p54
          have f55 : Fr [76, 225] h h53 := Fr.sub fh3 fh53 (sub_self _)
          obtain ⟨x56, ex56⟩ : ∃ y : Int, h53.2.2 60 25 = y := ⟨_, rfl⟩
          have rx56 := Ih53.atR (a := 60) (j := 25) rfl
          rw [ex56] at rx56
          refine to_goto (dat dk_X12_digits 54 rfl) rfl ?_
          exact jn120_n18 h53 Ih53 f55 (show h53.2.2 60 25 ≤ h.2.2 60 25 + (y2 + 1 - f) by omega) (show h.2.2 60 25 ≤ h53.2.2 60 25 by omega)
      refine to_aload_np (dat dk_X12_digits 5 rfl) (Ih3.posN (Ih3.aT ha)) rfl (to_iload (dat dk_X12_digits 6 rfl) rfl ?_)
      obtain ⟨x57, ex57⟩ : ∃ y : Int, h3.2.2 a (Int.toNat y2) = y := ⟨_, rfl⟩
      have rx57 := Ih3.aC (j := Int.toNat y2) ha
      rw [ex57] at rx57
      refine to_baldv (q := 1) ex57 (dat dk_X12_digits 7 rfl) (by decide) (Ih3.aT ha) rfl (isA_n ha) (by omega) (to_bipush (dat dk_X12_digits 8 rfl) (by decide) ?_)
      refine to_ine 56 (dat dk_X12_digits 9 rfl) rfl (by omega) (by decide) (fun c58 => ?_) (fun c58 => ?_)
      · skip
        refine to_iconst (dat dk_X12_digits 33 rfl) ?_
        exact jn57_n14 0 (by decide) (show (0 : Int) = 0 ∨ y2 + 2 < g by omega)
      · skip
        refine to_iload (dat dk_X12_digits 10 rfl) rfl (to_iconst (dat dk_X12_digits 11 rfl) (to_iadd (dat dk_X12_digits 12 rfl) (to_iload_n (dat dk_X12_digits 13 rfl) rfl ?_)))
        refine to_ige 56 (dat dk_X12_digits 14 rfl) rfl (by omega) hg (fun c59 => ?_) (fun c59 => ?_)
        · skip
          refine to_iconst (dat dk_X12_digits 33 rfl) ?_
          exact jn57_n14 0 (by decide) (show (0 : Int) = 0 ∨ y2 + 2 < g by omega)
        · skip
          refine to_aload_np (dat dk_X12_digits 15 rfl) (Ih3.posN (Ih3.aT ha)) rfl (to_iload (dat dk_X12_digits 16 rfl) rfl (to_iconst (dat dk_X12_digits 17 rfl) (to_iadd (dat dk_X12_digits 18 rfl) ?_)))
          obtain ⟨x60, ex60⟩ : ∃ y : Int, h3.2.2 a (Int.toNat (y2 + 1)) = y := ⟨_, rfl⟩
          have rx60 := Ih3.aC (j := Int.toNat (y2 + 1)) ha
          rw [ex60] at rx60
          refine to_baldv (q := 1) ex60 (dat dk_X12_digits 19 rfl) (by decide) (Ih3.aT ha) rfl (isA_n ha) (by omega) ?_
          refine to_cI ca_c13_215 (dat dk_X12_digits 20 rfl) (ct_X12_hexadecimal l h3 Ih3 x60 (by omega)) rfl trivial rfl (fun x61 h62 rx61 p63 => ?_)
          obtain ⟨rfl, p63_0⟩ := p63
          refine to_iconst (dat dk_X12_digits 21 rfl) ?_
          refine to_ieq 56 (dat dk_X12_digits 22 rfl) rfl rx61 (by decide) (fun c64 => ?_) (fun c64 => ?_)
          · skip
            refine to_iconst (dat dk_X12_digits 33 rfl) ?_
            exact jn57_n14 0 (by decide) (show (0 : Int) = 0 ∨ y2 + 2 < g by omega)
          · skip
            refine to_aload_np (dat dk_X12_digits 23 rfl) (Ih3.posN (Ih3.aT ha)) rfl (to_iload (dat dk_X12_digits 24 rfl) rfl (to_iconst (dat dk_X12_digits 25 rfl) (to_iadd (dat dk_X12_digits 26 rfl) ?_)))
            obtain ⟨x65, ex65⟩ : ∃ y : Int, h3.2.2 a (Int.toNat (y2 + 2)) = y := ⟨_, rfl⟩
            have rx65 := Ih3.aC (j := Int.toNat (y2 + 2)) ha
            rw [ex65] at rx65
            refine to_baldv (q := 1) ex65 (dat dk_X12_digits 27 rfl) (by decide) (Ih3.aT ha) rfl (isA_n ha) (by omega) ?_
            refine to_cI ca_c13_215 (dat dk_X12_digits 28 rfl) (ct_X12_hexadecimal l h3 Ih3 x65 (by omega)) rfl trivial rfl (fun x66 h67 rx66 p68 => ?_)
            obtain ⟨rfl, p68_0⟩ := p68
            refine to_iconst (dat dk_X12_digits 29 rfl) ?_
            refine to_ieq 56 (dat dk_X12_digits 30 rfl) rfl rx66 (by decide) (fun c69 => ?_) (fun c69 => ?_)
            · skip
              refine to_iconst (dat dk_X12_digits 33 rfl) ?_
              exact jn57_n14 0 (by decide) (show (0 : Int) = 0 ∨ y2 + 2 < g by omega)
            · skip
              refine to_iconst (dat dk_X12_digits 31 rfl) (to_goto (dat dk_X12_digits 32 rfl) rfl ?_)
              exact jn57_n14 1 (by decide) (show (1 : Int) = 0 ∨ y2 + 2 < g by omega)
  exact lp3_n8 (g - f).toNat f h hf hI (Fr.rf _ _) (show f ≤ f by omega) (show f = f ∨ f ≤ g by omega) (show h.2.2 60 25 ≤ h.2.2 60 25 + (f - f) by omega) (show h.2.2 60 25 ≤ h.2.2 60 25 by omega) (by omega)
abbrev Q_X12_quoted (h : Hp) (f : Int) (g : Int) : Option V → Hp → Nat → Nat → Prop := RV (fun H => Inv H ∧ Fr [76, 225] h H ∧ ((g ≤ f ∧ H.2.2 60 25 = h.2.2 60 25) ∨ (f ≤ g ∧ H.2.2 60 25 ≤ h.2.2 60 25 + (g - f))) ∧ (h.2.2 60 25 ≤ H.2.2 60 25))
set_option maxRecDepth 100000 in
theorem ct_X12_quoted (l : Launch) (h : Hp) (hI : Inv h) (f : Int) (hf : I32 f) (g : Int) (hg : I32 g) (g0 : 0 ≤ f ∧ f ≤ g) (g1 : g ≤ 240000) (g2 : h.2.2 60 25 + (g - f) ≤ 4000) : Ct l D_X12_quoted 3 67 [.inr (.inr 60), .inl f, .inl g] h (Q_X12_quoted h f g) := by
  refine ct_of pn_X12_quoted (Nat.le_of_ble_eq_true rfl) ?_
  show To l E_X12_quoted (0, [(0, .inr (.inr 60)), (1, .inl f), (2, .inl g)], [], h, 0, 0) _
  obtain ⟨x1, ex1⟩ : ∃ y : Int, h.2.2 60 25 = y := ⟨_, rfl⟩
  have rx1 := hI.atR (a := 60) (j := 25) rfl
  rw [ex1] at rx1
  refine to_iload_n (dat dk_X12_quoted 0 rfl) rfl (to_istore_n (L' := [(0, .inr (.inr 60)), (1, .inl f), (2, .inl g), (3, .inl f)]) (dat dk_X12_quoted 1 rfl) (by decide) rfl ?_)
  have lp2_n7 : ∀ (n7 : Nat) (y2 : Int) (h3 : Hp), (I32 y2) → (Inv h3) → (Fr [76, 225] h h3) → (f ≤ y2 ∧ y2 ≤ g) → (h3.2.2 60 25 ≤ h.2.2 60 25 + (y2 - f)) → (h.2.2 60 25 ≤ h3.2.2 60 25) → (g - y2 ≤ (n7 : Int)) → To l E_X12_quoted (2, [(0, .inr (.inr 60)), (1, .inl f), (2, .inl g), (3, .inl y2)], [], h3, 0, 0) (Q_X12_quoted h f g) := by
    intro n7
    induction n7 using Nat.strongRecOn with
    | _ n7 ihn7 =>
    intro y2 h3 ry2 Ih3 fh3 c4 c5 c6 c8
    obtain ⟨x9, ex9⟩ : ∃ y : Int, h3.2.2 60 25 = y := ⟨_, rfl⟩
    have rx9 := Ih3.atR (a := 60) (j := 25) rfl
    rw [ex9] at rx9
    refine to_iload_n (dat dk_X12_quoted 2 rfl) rfl (to_iload_n (dat dk_X12_quoted 3 rfl) rfl ?_)
    refine to_ige 143 (dat dk_X12_quoted 4 rfl) rfl ry2 hg (fun c10 => ?_) (fun c10 => ?_)
    · skip
      exact to_vret rfl (dat dk_X12_quoted 77 rfl) (rv_mk ⟨Ih3, fh3, (show (g ≤ f ∧ h3.2.2 60 25 = h.2.2 60 25) ∨ (f ≤ g ∧ h3.2.2 60 25 ≤ h.2.2 60 25 + (g - f)) by omega), (show h.2.2 60 25 ≤ h3.2.2 60 25 by omega)⟩)
    · skip
      refine to_aload_n (dat dk_X12_quoted 5 rfl) rfl (to_getR 63 g_c13_17 (dat dk_X12_quoted 6 rfl) (Ih3.atS rfl) (Ih3.atE rfl) (to_iload_n (dat dk_X12_quoted 7 rfl) rfl (to_iload_n (dat dk_X12_quoted 8 rfl) rfl ?_)))
      refine to_cI ca_c13_174 (dat dk_X12_quoted 9 rfl) (ct_X12_lineEnd l h3 Ih3 63 240000 rfl y2 ry2 g hg (show 0 ≤ y2 by omega) (show g ≤ (240000 : Int) by omega)) rfl trivial rfl (fun x11 h12 rx11 p13 => ?_)
      obtain ⟨rfl, p13_0, p13_1⟩ := p13
      refine to_istore (L' := [(0, .inr (.inr 60)), (1, .inl f), (2, .inl g), (3, .inl y2), (4, .inl x11)]) (dat dk_X12_quoted 10 rfl) (by decide) rfl (to_aload_n (dat dk_X12_quoted 11 rfl) rfl (to_getR 63 g_c13_17 (dat dk_X12_quoted 12 rfl) (Ih3.atS rfl) (Ih3.atE rfl) (to_iload_n (dat dk_X12_quoted 13 rfl) rfl (to_iload (dat dk_X12_quoted 14 rfl) rfl (to_iload_n (dat dk_X12_quoted 15 rfl) rfl ?_)))))
      refine to_cI ca_c13_178 (dat dk_X12_quoted 16 rfl) (ct_X12_textEnd l h3 Ih3 63 240000 rfl y2 ry2 x11 rx11 g hg (show 0 ≤ y2 by omega) (show g ≤ (240000 : Int) by omega)) rfl trivial rfl (fun x14 h15 rx14 p16 => ?_)
      obtain ⟨rfl, p16_0, p16_1⟩ := p16
      refine to_istore (L' := [(0, .inr (.inr 60)), (1, .inl f), (2, .inl g), (3, .inl y2), (4, .inl x11), (5, .inl x14)]) (dat dk_X12_quoted 17 rfl) (by decide) rfl ?_
      have lp31_n19 : ∀ (n19 : Nat) (y17 : Int), (I32 y17) → (y2 ≤ y17 ∧ y17 ≤ x11) → (y17 ≤ (n19 : Int)) → To l E_X12_quoted (31, [(0, .inr (.inr 60)), (1, .inl f), (2, .inl g), (3, .inl y2), (4, .inl x11), (5, .inl y17)], [], h3, 0, 0) (Q_X12_quoted h f g) := by
        intro n19
        induction n19 using Nat.strongRecOn with
        | _ n19 ihn19 =>
        intro y17 ry17 c18 c20
        refine to_iload (dat dk_X12_quoted 18 rfl) rfl (to_iload_n (dat dk_X12_quoted 19 rfl) rfl ?_)
        refine to_ile 58 (dat dk_X12_quoted 20 rfl) rfl ry17 ry2 (fun c21 => ?_) (fun c21 => ?_)
        · skip
          have jn83_n24 : ∀ (y22 : Int), (y22 = 0 ∨ y22 = 1) → (y22 = 0 ∨ y2 < y17) → To l E_X12_quoted (83, [(0, .inr (.inr 60)), (1, .inl f), (2, .inl g), (3, .inl y2), (4, .inl x11), (5, .inl y17)], [.inl y22], h3, 0, 0) (Q_X12_quoted h f g) := by
            intro y22 ry22 c23
            refine to_istore (L' := [(0, .inr (.inr 60)), (1, .inl f), (2, .inl g), (3, .inl y2), (4, .inl x11), (5, .inl y17), (6, .inl y22)]) (dat dk_X12_quoted 45 rfl) (by decide) rfl (to_aload_n (dat dk_X12_quoted 46 rfl) rfl (to_aload_n (dat dk_X12_quoted 47 rfl) rfl (to_getR 63 g_c13_17 (dat dk_X12_quoted 48 rfl) (Ih3.atS rfl) (Ih3.atE rfl) (to_iload_n (dat dk_X12_quoted 49 rfl) rfl (to_iload (dat dk_X12_quoted 50 rfl) rfl ?_)))))
            refine to_ifeq 103 (dat dk_X12_quoted 51 rfl) rfl (by omega) (fun c25 => ?_) (fun c25 => ?_)
            · skip
              refine to_iload (dat dk_X12_quoted 56 rfl) rfl (to_iconst (dat dk_X12_quoted 57 rfl) ?_)
              refine to_cV ca_c13_218 (dat dk_X12_quoted 58 rfl) (ct_X12_digits l h3 Ih3 63 240000 rfl y2 ry2 y17 ry17 0 (by decide) (show 0 ≤ y2 by omega) (show y17 ≤ (240000 : Int) by omega) (show h3.2.2 60 25 + (y17 - y2) ≤ 4000 by omega)) rfl ⟨_, _, rfl, (Ih3.atS rfl)⟩ rfl (fun h27 p28 => ?_)
              obtain ⟨Ih27, fh27, p28_0, p28_1⟩ := p28
              have f29 : Fr [76, 225] h h27 := Fr.sub fh3 fh27 (sub_self _)
              obtain ⟨x30, ex30⟩ : ∃ y : Int, h27.2.2 60 25 = y := ⟨_, rfl⟩
              have rx30 := Ih27.atR (a := 60) (j := 25) rfl
              rw [ex30] at rx30
              refine to_iload (dat dk_X12_quoted 59 rfl) rfl (to_iload_n (dat dk_X12_quoted 60 rfl) rfl ?_)
              refine to_ige 122 (dat dk_X12_quoted 61 rfl) rfl rx11 hg (fun c31 => ?_) (fun c31 => ?_)
              · skip
                refine to_iload_n (dat dk_X12_quoted 66 rfl) rfl (to_istore_n (L' := [(0, .inr (.inr 60)), (1, .inl f), (2, .inl g), (3, .inl g), (4, .inl x11), (5, .inl y17), (6, .inl y22)]) (dat dk_X12_quoted 67 rfl) (by decide) rfl (to_iload (dat dk_X12_quoted 68 rfl) rfl ?_))
                refine to_ifne 140 (dat dk_X12_quoted 69 rfl) rfl (by omega) (fun c32 => ?_) (fun c32 => ?_)
                · skip
                  refine to_goto (dat dk_X12_quoted 76 rfl) rfl ?_
                  refine to_pick [0, 1, 2, 3] rfl ?_
                  exact ihn7 (n7 - 1) (by omega) g h27 hg Ih27 f29 (show f ≤ g ∧ g ≤ g by omega) (show h27.2.2 60 25 ≤ h.2.2 60 25 + (g - f) by omega) (show h.2.2 60 25 ≤ h27.2.2 60 25 by omega) (show g - g ≤ ((n7 - 1 : Nat) : Int) by omega)
                · skip
                  refine to_iload_n (dat dk_X12_quoted 70 rfl) rfl (to_iload_n (dat dk_X12_quoted 71 rfl) rfl ?_)
                  refine to_ige 140 (dat dk_X12_quoted 72 rfl) rfl hg hg (fun c33 => ?_) (fun c33 => ?_)
                  · skip
                    refine to_goto (dat dk_X12_quoted 76 rfl) rfl ?_
                    refine to_pick [0, 1, 2, 3] rfl ?_
                    exact ihn7 (n7 - 1) (by omega) g h27 hg Ih27 f29 (show f ≤ g ∧ g ≤ g by omega) (show h27.2.2 60 25 ≤ h.2.2 60 25 + (g - f) by omega) (show h.2.2 60 25 ≤ h27.2.2 60 25 by omega) (show g - g ≤ ((n7 - 1 : Nat) : Int) by omega)
                  · skip
                    refine to_aload_n (dat dk_X12_quoted 73 rfl) rfl (to_bipush (dat dk_X12_quoted 74 rfl) (by decide) ?_)
                    refine to_cV ca_c13_211 (dat dk_X12_quoted 75 rfl) (ct_X12_put l h27 Ih27 10 (by decide) (show h27.2.2 60 25 ≤ 3999 by omega)) rfl ⟨_, _, rfl, (Ih27.atS rfl)⟩ rfl (fun h35 p36 => ?_)
                    obtain ⟨Ih35, fh35, p36_0⟩ := p36
                    have f37 : Fr [76, 225] h h35 := Fr.sub f29 fh35 (sub_self _)
                    obtain ⟨x38, ex38⟩ : ∃ y : Int, h35.2.2 60 25 = y := ⟨_, rfl⟩
                    have rx38 := Ih35.atR (a := 60) (j := 25) rfl
                    rw [ex38] at rx38
                    refine to_goto (dat dk_X12_quoted 76 rfl) rfl ?_
                    refine to_pick [0, 1, 2, 3] rfl ?_
                    exact ihn7 (n7 - 1) (by omega) g h35 hg Ih35 f37 (show f ≤ g ∧ g ≤ g by omega) (show h35.2.2 60 25 ≤ h.2.2 60 25 + (g - f) by omega) (show h.2.2 60 25 ≤ h35.2.2 60 25 by omega) (show g - g ≤ ((n7 - 1 : Nat) : Int) by omega)
              · skip
                refine to_iload (dat dk_X12_quoted 62 rfl) rfl (to_iconst (dat dk_X12_quoted 63 rfl) (to_iadd (dat dk_X12_quoted 64 rfl) (to_goto (dat dk_X12_quoted 65 rfl) rfl (to_istore_n (L' := [(0, .inr (.inr 60)), (1, .inl f), (2, .inl g), (3, .inl (x11 + 1)), (4, .inl x11), (5, .inl y17), (6, .inl y22)]) (dat dk_X12_quoted 67 rfl) (by decide) rfl (to_iload (dat dk_X12_quoted 68 rfl) rfl ?_)))))
                refine to_ifne 140 (dat dk_X12_quoted 69 rfl) rfl (by omega) (fun c39 => ?_) (fun c39 => ?_)
                · skip
                  refine to_goto (dat dk_X12_quoted 76 rfl) rfl ?_
                  refine to_pick [0, 1, 2, 3] rfl ?_
                  exact ihn7 (n7 - 1) (by omega) (x11 + 1) h27 (by omega) Ih27 f29 (show f ≤ (x11 + 1) ∧ (x11 + 1) ≤ g by omega) (show h27.2.2 60 25 ≤ h.2.2 60 25 + ((x11 + 1) - f) by omega) (show h.2.2 60 25 ≤ h27.2.2 60 25 by omega) (show g - (x11 + 1) ≤ ((n7 - 1 : Nat) : Int) by omega)
                · skip
                  refine to_iload_n (dat dk_X12_quoted 70 rfl) rfl (to_iload_n (dat dk_X12_quoted 71 rfl) rfl ?_)
                  refine to_ige 140 (dat dk_X12_quoted 72 rfl) rfl (by omega) hg (fun c40 => ?_) (fun c40 => ?_)
                  · skip
                    refine to_goto (dat dk_X12_quoted 76 rfl) rfl ?_
                    refine to_pick [0, 1, 2, 3] rfl ?_
                    exact ihn7 (n7 - 1) (by omega) (x11 + 1) h27 (by omega) Ih27 f29 (show f ≤ (x11 + 1) ∧ (x11 + 1) ≤ g by omega) (show h27.2.2 60 25 ≤ h.2.2 60 25 + ((x11 + 1) - f) by omega) (show h.2.2 60 25 ≤ h27.2.2 60 25 by omega) (show g - (x11 + 1) ≤ ((n7 - 1 : Nat) : Int) by omega)
                  · skip
                    refine to_aload_n (dat dk_X12_quoted 73 rfl) rfl (to_bipush (dat dk_X12_quoted 74 rfl) (by decide) ?_)
                    refine to_cV ca_c13_211 (dat dk_X12_quoted 75 rfl) (ct_X12_put l h27 Ih27 10 (by decide) (show h27.2.2 60 25 ≤ 3999 by omega)) rfl ⟨_, _, rfl, (Ih27.atS rfl)⟩ rfl (fun h42 p43 => ?_)
                    obtain ⟨Ih42, fh42, p43_0⟩ := p43
                    have f44 : Fr [76, 225] h h42 := Fr.sub f29 fh42 (sub_self _)
                    obtain ⟨x45, ex45⟩ : ∃ y : Int, h42.2.2 60 25 = y := ⟨_, rfl⟩
                    have rx45 := Ih42.atR (a := 60) (j := 25) rfl
                    rw [ex45] at rx45
                    refine to_goto (dat dk_X12_quoted 76 rfl) rfl ?_
                    refine to_pick [0, 1, 2, 3] rfl ?_
                    exact ihn7 (n7 - 1) (by omega) (x11 + 1) h42 (by omega) Ih42 f44 (show f ≤ (x11 + 1) ∧ (x11 + 1) ≤ g by omega) (show h42.2.2 60 25 ≤ h.2.2 60 25 + ((x11 + 1) - f) by omega) (show h.2.2 60 25 ≤ h42.2.2 60 25 by omega) (show g - (x11 + 1) ≤ ((n7 - 1 : Nat) : Int) by omega)
            · skip
              refine to_iload (dat dk_X12_quoted 52 rfl) rfl (to_iconst (dat dk_X12_quoted 53 rfl) (to_isub (dat dk_X12_quoted 54 rfl) (to_goto (dat dk_X12_quoted 55 rfl) rfl (to_iconst (dat dk_X12_quoted 57 rfl) ?_))))
              refine to_cV ca_c13_218 (dat dk_X12_quoted 58 rfl) (ct_X12_digits l h3 Ih3 63 240000 rfl y2 ry2 (y17 - 1) (by omega) 0 (by decide) (show 0 ≤ y2 by omega) (show (y17 - 1) ≤ (240000 : Int) by omega) (show h3.2.2 60 25 + ((y17 - 1) - y2) ≤ 4000 by omega)) rfl ⟨_, _, rfl, (Ih3.atS rfl)⟩ rfl (fun h47 p48 => ?_)
              obtain ⟨Ih47, fh47, p48_0, p48_1⟩ := p48
              have f49 : Fr [76, 225] h h47 := Fr.sub fh3 fh47 (sub_self _)
              obtain ⟨x50, ex50⟩ : ∃ y : Int, h47.2.2 60 25 = y := ⟨_, rfl⟩
              have rx50 := Ih47.atR (a := 60) (j := 25) rfl
              rw [ex50] at rx50
              refine to_iload (dat dk_X12_quoted 59 rfl) rfl (to_iload_n (dat dk_X12_quoted 60 rfl) rfl ?_)
              refine to_ige 122 (dat dk_X12_quoted 61 rfl) rfl rx11 hg (fun c51 => ?_) (fun c51 => ?_)
              · skip
                refine to_iload_n (dat dk_X12_quoted 66 rfl) rfl (to_istore_n (L' := [(0, .inr (.inr 60)), (1, .inl f), (2, .inl g), (3, .inl g), (4, .inl x11), (5, .inl y17), (6, .inl y22)]) (dat dk_X12_quoted 67 rfl) (by decide) rfl (to_iload (dat dk_X12_quoted 68 rfl) rfl ?_))
                refine to_ifne 140 (dat dk_X12_quoted 69 rfl) rfl (by omega) (fun c52 => ?_) (fun c52 => ?_)
                · skip
                  refine to_goto (dat dk_X12_quoted 76 rfl) rfl ?_
                  refine to_pick [0, 1, 2, 3] rfl ?_
                  exact ihn7 (n7 - 1) (by omega) g h47 hg Ih47 f49 (show f ≤ g ∧ g ≤ g by omega) (show h47.2.2 60 25 ≤ h.2.2 60 25 + (g - f) by omega) (show h.2.2 60 25 ≤ h47.2.2 60 25 by omega) (show g - g ≤ ((n7 - 1 : Nat) : Int) by omega)
                · skip
                  refine to_iload_n (dat dk_X12_quoted 70 rfl) rfl (to_iload_n (dat dk_X12_quoted 71 rfl) rfl ?_)
                  refine to_ige 140 (dat dk_X12_quoted 72 rfl) rfl hg hg (fun c53 => ?_) (fun c53 => ?_)
                  · skip
                    refine to_goto (dat dk_X12_quoted 76 rfl) rfl ?_
                    refine to_pick [0, 1, 2, 3] rfl ?_
                    exact ihn7 (n7 - 1) (by omega) g h47 hg Ih47 f49 (show f ≤ g ∧ g ≤ g by omega) (show h47.2.2 60 25 ≤ h.2.2 60 25 + (g - f) by omega) (show h.2.2 60 25 ≤ h47.2.2 60 25 by omega) (show g - g ≤ ((n7 - 1 : Nat) : Int) by omega)
                  · skip
                    refine to_aload_n (dat dk_X12_quoted 73 rfl) rfl (to_bipush (dat dk_X12_quoted 74 rfl) (by decide) ?_)
                    refine to_cV ca_c13_211 (dat dk_X12_quoted 75 rfl) (ct_X12_put l h47 Ih47 10 (by decide) (show h47.2.2 60 25 ≤ 3999 by omega)) rfl ⟨_, _, rfl, (Ih47.atS rfl)⟩ rfl (fun h55 p56 => ?_)
                    obtain ⟨Ih55, fh55, p56_0⟩ := p56
                    have f57 : Fr [76, 225] h h55 := Fr.sub f49 fh55 (sub_self _)
                    obtain ⟨x58, ex58⟩ : ∃ y : Int, h55.2.2 60 25 = y := ⟨_, rfl⟩
                    have rx58 := Ih55.atR (a := 60) (j := 25) rfl
                    rw [ex58] at rx58
                    refine to_goto (dat dk_X12_quoted 76 rfl) rfl ?_
                    refine to_pick [0, 1, 2, 3] rfl ?_
                    exact ihn7 (n7 - 1) (by omega) g h55 hg Ih55 f57 (show f ≤ g ∧ g ≤ g by omega) (show h55.2.2 60 25 ≤ h.2.2 60 25 + (g - f) by omega) (show h.2.2 60 25 ≤ h55.2.2 60 25 by omega) (show g - g ≤ ((n7 - 1 : Nat) : Int) by omega)
              · skip
                refine to_iload (dat dk_X12_quoted 62 rfl) rfl (to_iconst (dat dk_X12_quoted 63 rfl) (to_iadd (dat dk_X12_quoted 64 rfl) (to_goto (dat dk_X12_quoted 65 rfl) rfl (to_istore_n (L' := [(0, .inr (.inr 60)), (1, .inl f), (2, .inl g), (3, .inl (x11 + 1)), (4, .inl x11), (5, .inl y17), (6, .inl y22)]) (dat dk_X12_quoted 67 rfl) (by decide) rfl (to_iload (dat dk_X12_quoted 68 rfl) rfl ?_)))))
                refine to_ifne 140 (dat dk_X12_quoted 69 rfl) rfl (by omega) (fun c59 => ?_) (fun c59 => ?_)
                · skip
                  refine to_goto (dat dk_X12_quoted 76 rfl) rfl ?_
                  refine to_pick [0, 1, 2, 3] rfl ?_
                  exact ihn7 (n7 - 1) (by omega) (x11 + 1) h47 (by omega) Ih47 f49 (show f ≤ (x11 + 1) ∧ (x11 + 1) ≤ g by omega) (show h47.2.2 60 25 ≤ h.2.2 60 25 + ((x11 + 1) - f) by omega) (show h.2.2 60 25 ≤ h47.2.2 60 25 by omega) (show g - (x11 + 1) ≤ ((n7 - 1 : Nat) : Int) by omega)
                · skip
                  refine to_iload_n (dat dk_X12_quoted 70 rfl) rfl (to_iload_n (dat dk_X12_quoted 71 rfl) rfl ?_)
                  refine to_ige 140 (dat dk_X12_quoted 72 rfl) rfl (by omega) hg (fun c60 => ?_) (fun c60 => ?_)
                  · skip
                    refine to_goto (dat dk_X12_quoted 76 rfl) rfl ?_
                    refine to_pick [0, 1, 2, 3] rfl ?_
                    exact ihn7 (n7 - 1) (by omega) (x11 + 1) h47 (by omega) Ih47 f49 (show f ≤ (x11 + 1) ∧ (x11 + 1) ≤ g by omega) (show h47.2.2 60 25 ≤ h.2.2 60 25 + ((x11 + 1) - f) by omega) (show h.2.2 60 25 ≤ h47.2.2 60 25 by omega) (show g - (x11 + 1) ≤ ((n7 - 1 : Nat) : Int) by omega)
                  · skip
                    refine to_aload_n (dat dk_X12_quoted 73 rfl) rfl (to_bipush (dat dk_X12_quoted 74 rfl) (by decide) ?_)
                    refine to_cV ca_c13_211 (dat dk_X12_quoted 75 rfl) (ct_X12_put l h47 Ih47 10 (by decide) (show h47.2.2 60 25 ≤ 3999 by omega)) rfl ⟨_, _, rfl, (Ih47.atS rfl)⟩ rfl (fun h62 p63 => ?_)
                    obtain ⟨Ih62, fh62, p63_0⟩ := p63
                    have f64 : Fr [76, 225] h h62 := Fr.sub f49 fh62 (sub_self _)
                    obtain ⟨x65, ex65⟩ : ∃ y : Int, h62.2.2 60 25 = y := ⟨_, rfl⟩
                    have rx65 := Ih62.atR (a := 60) (j := 25) rfl
                    rw [ex65] at rx65
                    refine to_goto (dat dk_X12_quoted 76 rfl) rfl ?_
                    refine to_pick [0, 1, 2, 3] rfl ?_
                    exact ihn7 (n7 - 1) (by omega) (x11 + 1) h62 (by omega) Ih62 f64 (show f ≤ (x11 + 1) ∧ (x11 + 1) ≤ g by omega) (show h62.2.2 60 25 ≤ h.2.2 60 25 + ((x11 + 1) - f) by omega) (show h.2.2 60 25 ≤ h62.2.2 60 25 by omega) (show g - (x11 + 1) ≤ ((n7 - 1 : Nat) : Int) by omega)
          refine to_iload (dat dk_X12_quoted 31 rfl) rfl (to_iload_n (dat dk_X12_quoted 32 rfl) rfl ?_)
          refine to_ile 82 (dat dk_X12_quoted 33 rfl) rfl ry17 ry2 (fun c66 => ?_) (fun c66 => ?_)
          · skip
            refine to_iconst (dat dk_X12_quoted 44 rfl) ?_
            exact jn83_n24 0 (by decide) (show (0 : Int) = 0 ∨ y2 < y17 by omega)
          · skip
            refine to_aload_n (dat dk_X12_quoted 34 rfl) rfl (to_getR 63 g_c13_17 (dat dk_X12_quoted 35 rfl) (Ih3.atS rfl) (Ih3.atE rfl) (to_iload (dat dk_X12_quoted 36 rfl) rfl (to_iconst (dat dk_X12_quoted 37 rfl) (to_isub (dat dk_X12_quoted 38 rfl) ?_))))
            obtain ⟨x67, ex67⟩ : ∃ y : Int, h3.2.2 63 (Int.toNat (y17 - 1)) = y := ⟨_, rfl⟩
            have rx67 := Ih3.atR (a := 63) (j := Int.toNat (y17 - 1)) rfl
            rw [ex67] at rx67
            refine to_baldv (q := 1) ex67 (dat dk_X12_quoted 39 rfl) (by decide) (Ih3.atS rfl) rfl (by decide) (by omega) (to_bipush (dat dk_X12_quoted 40 rfl) (by decide) ?_)
            refine to_ine 82 (dat dk_X12_quoted 41 rfl) rfl (by omega) (by decide) (fun c68 => ?_) (fun c68 => ?_)
            · skip
              refine to_iconst (dat dk_X12_quoted 44 rfl) ?_
              exact jn83_n24 0 (by decide) (show (0 : Int) = 0 ∨ y2 < y17 by omega)
            · skip
              refine to_iconst (dat dk_X12_quoted 42 rfl) (to_goto (dat dk_X12_quoted 43 rfl) rfl ?_)
              exact jn83_n24 1 (by decide) (show (1 : Int) = 0 ∨ y2 < y17 by omega)
        · skip
          refine to_aload_n (dat dk_X12_quoted 21 rfl) rfl (to_getR 63 g_c13_17 (dat dk_X12_quoted 22 rfl) (Ih3.atS rfl) (Ih3.atE rfl) (to_iload (dat dk_X12_quoted 23 rfl) rfl (to_iconst (dat dk_X12_quoted 24 rfl) (to_isub (dat dk_X12_quoted 25 rfl) ?_))))
          obtain ⟨x69, ex69⟩ : ∃ y : Int, h3.2.2 63 (Int.toNat (y17 - 1)) = y := ⟨_, rfl⟩
          have rx69 := Ih3.atR (a := 63) (j := Int.toNat (y17 - 1)) rfl
          rw [ex69] at rx69
          refine to_baldv (q := 1) ex69 (dat dk_X12_quoted 26 rfl) (by decide) (Ih3.atS rfl) rfl (by decide) (by omega) ?_
          refine to_cI ca_c13_182 (dat dk_X12_quoted 27 rfl) (ct_X12_isBlank l h3 Ih3 x69 (by omega)) rfl trivial rfl (fun x70 h71 rx70 p72 => ?_)
          obtain ⟨rfl, zx70⟩ := p72
          refine to_ifeq 58 (dat dk_X12_quoted 28 rfl) rfl rx70 (fun c73 => ?_) (fun c73 => ?_)
          · skip
            have jn83_n76 : ∀ (y74 : Int), (y74 = 0 ∨ y74 = 1) → (y74 = 0 ∨ y2 < y17) → To l E_X12_quoted (83, [(0, .inr (.inr 60)), (1, .inl f), (2, .inl g), (3, .inl y2), (4, .inl x11), (5, .inl y17)], [.inl y74], h3, 0, 0) (Q_X12_quoted h f g) := by
              intro y74 ry74 c75
              refine to_istore (L' := [(0, .inr (.inr 60)), (1, .inl f), (2, .inl g), (3, .inl y2), (4, .inl x11), (5, .inl y17), (6, .inl y74)]) (dat dk_X12_quoted 45 rfl) (by decide) rfl (to_aload_n (dat dk_X12_quoted 46 rfl) rfl (to_aload_n (dat dk_X12_quoted 47 rfl) rfl (to_getR 63 g_c13_17 (dat dk_X12_quoted 48 rfl) (Ih3.atS rfl) (Ih3.atE rfl) (to_iload_n (dat dk_X12_quoted 49 rfl) rfl (to_iload (dat dk_X12_quoted 50 rfl) rfl ?_)))))
              refine to_ifeq 103 (dat dk_X12_quoted 51 rfl) rfl (by omega) (fun c77 => ?_) (fun c77 => ?_)
              · skip
                refine to_iload (dat dk_X12_quoted 56 rfl) rfl (to_iconst (dat dk_X12_quoted 57 rfl) ?_)
                refine to_cV ca_c13_218 (dat dk_X12_quoted 58 rfl) (ct_X12_digits l h3 Ih3 63 240000 rfl y2 ry2 y17 ry17 0 (by decide) (show 0 ≤ y2 by omega) (show y17 ≤ (240000 : Int) by omega) (show h3.2.2 60 25 + (y17 - y2) ≤ 4000 by omega)) rfl ⟨_, _, rfl, (Ih3.atS rfl)⟩ rfl (fun h79 p80 => ?_)
                obtain ⟨Ih79, fh79, p80_0, p80_1⟩ := p80
                have f81 : Fr [76, 225] h h79 := Fr.sub fh3 fh79 (sub_self _)
                obtain ⟨x82, ex82⟩ : ∃ y : Int, h79.2.2 60 25 = y := ⟨_, rfl⟩
                have rx82 := Ih79.atR (a := 60) (j := 25) rfl
                rw [ex82] at rx82
                refine to_iload (dat dk_X12_quoted 59 rfl) rfl (to_iload_n (dat dk_X12_quoted 60 rfl) rfl ?_)
                refine to_ige 122 (dat dk_X12_quoted 61 rfl) rfl rx11 hg (fun c83 => ?_) (fun c83 => ?_)
                · skip
                  refine to_iload_n (dat dk_X12_quoted 66 rfl) rfl (to_istore_n (L' := [(0, .inr (.inr 60)), (1, .inl f), (2, .inl g), (3, .inl g), (4, .inl x11), (5, .inl y17), (6, .inl y74)]) (dat dk_X12_quoted 67 rfl) (by decide) rfl (to_iload (dat dk_X12_quoted 68 rfl) rfl ?_))
                  refine to_ifne 140 (dat dk_X12_quoted 69 rfl) rfl (by omega) (fun c84 => ?_) (fun c84 => ?_)
                  · skip
                    refine to_goto (dat dk_X12_quoted 76 rfl) rfl ?_
                    refine to_pick [0, 1, 2, 3] rfl ?_
                    exact ihn7 (n7 - 1) (by omega) g h79 hg Ih79 f81 (show f ≤ g ∧ g ≤ g by omega) (show h79.2.2 60 25 ≤ h.2.2 60 25 + (g - f) by omega) (show h.2.2 60 25 ≤ h79.2.2 60 25 by omega) (show g - g ≤ ((n7 - 1 : Nat) : Int) by omega)
                  · skip
                    refine to_iload_n (dat dk_X12_quoted 70 rfl) rfl (to_iload_n (dat dk_X12_quoted 71 rfl) rfl ?_)
                    refine to_ige 140 (dat dk_X12_quoted 72 rfl) rfl hg hg (fun c85 => ?_) (fun c85 => ?_)
                    · skip
                      refine to_goto (dat dk_X12_quoted 76 rfl) rfl ?_
                      refine to_pick [0, 1, 2, 3] rfl ?_
                      exact ihn7 (n7 - 1) (by omega) g h79 hg Ih79 f81 (show f ≤ g ∧ g ≤ g by omega) (show h79.2.2 60 25 ≤ h.2.2 60 25 + (g - f) by omega) (show h.2.2 60 25 ≤ h79.2.2 60 25 by omega) (show g - g ≤ ((n7 - 1 : Nat) : Int) by omega)
                    · skip
                      refine to_aload_n (dat dk_X12_quoted 73 rfl) rfl (to_bipush (dat dk_X12_quoted 74 rfl) (by decide) ?_)
                      refine to_cV ca_c13_211 (dat dk_X12_quoted 75 rfl) (ct_X12_put l h79 Ih79 10 (by decide) (show h79.2.2 60 25 ≤ 3999 by omega)) rfl ⟨_, _, rfl, (Ih79.atS rfl)⟩ rfl (fun h87 p88 => ?_)
                      obtain ⟨Ih87, fh87, p88_0⟩ := p88
                      have f89 : Fr [76, 225] h h87 := Fr.sub f81 fh87 (sub_self _)
                      obtain ⟨x90, ex90⟩ : ∃ y : Int, h87.2.2 60 25 = y := ⟨_, rfl⟩
                      have rx90 := Ih87.atR (a := 60) (j := 25) rfl
                      rw [ex90] at rx90
                      refine to_goto (dat dk_X12_quoted 76 rfl) rfl ?_
                      refine to_pick [0, 1, 2, 3] rfl ?_
                      exact ihn7 (n7 - 1) (by omega) g h87 hg Ih87 f89 (show f ≤ g ∧ g ≤ g by omega) (show h87.2.2 60 25 ≤ h.2.2 60 25 + (g - f) by omega) (show h.2.2 60 25 ≤ h87.2.2 60 25 by omega) (show g - g ≤ ((n7 - 1 : Nat) : Int) by omega)
                · skip
                  refine to_iload (dat dk_X12_quoted 62 rfl) rfl (to_iconst (dat dk_X12_quoted 63 rfl) (to_iadd (dat dk_X12_quoted 64 rfl) (to_goto (dat dk_X12_quoted 65 rfl) rfl (to_istore_n (L' := [(0, .inr (.inr 60)), (1, .inl f), (2, .inl g), (3, .inl (x11 + 1)), (4, .inl x11), (5, .inl y17), (6, .inl y74)]) (dat dk_X12_quoted 67 rfl) (by decide) rfl (to_iload (dat dk_X12_quoted 68 rfl) rfl ?_)))))
                  refine to_ifne 140 (dat dk_X12_quoted 69 rfl) rfl (by omega) (fun c91 => ?_) (fun c91 => ?_)
                  · skip
                    refine to_goto (dat dk_X12_quoted 76 rfl) rfl ?_
                    refine to_pick [0, 1, 2, 3] rfl ?_
                    exact ihn7 (n7 - 1) (by omega) (x11 + 1) h79 (by omega) Ih79 f81 (show f ≤ (x11 + 1) ∧ (x11 + 1) ≤ g by omega) (show h79.2.2 60 25 ≤ h.2.2 60 25 + ((x11 + 1) - f) by omega) (show h.2.2 60 25 ≤ h79.2.2 60 25 by omega) (show g - (x11 + 1) ≤ ((n7 - 1 : Nat) : Int) by omega)
                  · skip
                    refine to_iload_n (dat dk_X12_quoted 70 rfl) rfl (to_iload_n (dat dk_X12_quoted 71 rfl) rfl ?_)
                    refine to_ige 140 (dat dk_X12_quoted 72 rfl) rfl (by omega) hg (fun c92 => ?_) (fun c92 => ?_)
                    · skip
                      refine to_goto (dat dk_X12_quoted 76 rfl) rfl ?_
                      refine to_pick [0, 1, 2, 3] rfl ?_
                      exact ihn7 (n7 - 1) (by omega) (x11 + 1) h79 (by omega) Ih79 f81 (show f ≤ (x11 + 1) ∧ (x11 + 1) ≤ g by omega) (show h79.2.2 60 25 ≤ h.2.2 60 25 + ((x11 + 1) - f) by omega) (show h.2.2 60 25 ≤ h79.2.2 60 25 by omega) (show g - (x11 + 1) ≤ ((n7 - 1 : Nat) : Int) by omega)
                    · skip
                      refine to_aload_n (dat dk_X12_quoted 73 rfl) rfl (to_bipush (dat dk_X12_quoted 74 rfl) (by decide) ?_)
                      refine to_cV ca_c13_211 (dat dk_X12_quoted 75 rfl) (ct_X12_put l h79 Ih79 10 (by decide) (show h79.2.2 60 25 ≤ 3999 by omega)) rfl ⟨_, _, rfl, (Ih79.atS rfl)⟩ rfl (fun h94 p95 => ?_)
                      obtain ⟨Ih94, fh94, p95_0⟩ := p95
                      have f96 : Fr [76, 225] h h94 := Fr.sub f81 fh94 (sub_self _)
                      obtain ⟨x97, ex97⟩ : ∃ y : Int, h94.2.2 60 25 = y := ⟨_, rfl⟩
                      have rx97 := Ih94.atR (a := 60) (j := 25) rfl
                      rw [ex97] at rx97
                      refine to_goto (dat dk_X12_quoted 76 rfl) rfl ?_
                      refine to_pick [0, 1, 2, 3] rfl ?_
                      exact ihn7 (n7 - 1) (by omega) (x11 + 1) h94 (by omega) Ih94 f96 (show f ≤ (x11 + 1) ∧ (x11 + 1) ≤ g by omega) (show h94.2.2 60 25 ≤ h.2.2 60 25 + ((x11 + 1) - f) by omega) (show h.2.2 60 25 ≤ h94.2.2 60 25 by omega) (show g - (x11 + 1) ≤ ((n7 - 1 : Nat) : Int) by omega)
              · skip
                refine to_iload (dat dk_X12_quoted 52 rfl) rfl (to_iconst (dat dk_X12_quoted 53 rfl) (to_isub (dat dk_X12_quoted 54 rfl) (to_goto (dat dk_X12_quoted 55 rfl) rfl (to_iconst (dat dk_X12_quoted 57 rfl) ?_))))
                refine to_cV ca_c13_218 (dat dk_X12_quoted 58 rfl) (ct_X12_digits l h3 Ih3 63 240000 rfl y2 ry2 (y17 - 1) (by omega) 0 (by decide) (show 0 ≤ y2 by omega) (show (y17 - 1) ≤ (240000 : Int) by omega) (show h3.2.2 60 25 + ((y17 - 1) - y2) ≤ 4000 by omega)) rfl ⟨_, _, rfl, (Ih3.atS rfl)⟩ rfl (fun h99 p100 => ?_)
                obtain ⟨Ih99, fh99, p100_0, p100_1⟩ := p100
                have f101 : Fr [76, 225] h h99 := Fr.sub fh3 fh99 (sub_self _)
                obtain ⟨x102, ex102⟩ : ∃ y : Int, h99.2.2 60 25 = y := ⟨_, rfl⟩
                have rx102 := Ih99.atR (a := 60) (j := 25) rfl
                rw [ex102] at rx102
                refine to_iload (dat dk_X12_quoted 59 rfl) rfl (to_iload_n (dat dk_X12_quoted 60 rfl) rfl ?_)
                refine to_ige 122 (dat dk_X12_quoted 61 rfl) rfl rx11 hg (fun c103 => ?_) (fun c103 => ?_)
                · skip
                  refine to_iload_n (dat dk_X12_quoted 66 rfl) rfl (to_istore_n (L' := [(0, .inr (.inr 60)), (1, .inl f), (2, .inl g), (3, .inl g), (4, .inl x11), (5, .inl y17), (6, .inl y74)]) (dat dk_X12_quoted 67 rfl) (by decide) rfl (to_iload (dat dk_X12_quoted 68 rfl) rfl ?_))
                  refine to_ifne 140 (dat dk_X12_quoted 69 rfl) rfl (by omega) (fun c104 => ?_) (fun c104 => ?_)
                  · skip
                    refine to_goto (dat dk_X12_quoted 76 rfl) rfl ?_
                    refine to_pick [0, 1, 2, 3] rfl ?_
                    exact ihn7 (n7 - 1) (by omega) g h99 hg Ih99 f101 (show f ≤ g ∧ g ≤ g by omega) (show h99.2.2 60 25 ≤ h.2.2 60 25 + (g - f) by omega) (show h.2.2 60 25 ≤ h99.2.2 60 25 by omega) (show g - g ≤ ((n7 - 1 : Nat) : Int) by omega)
                  · skip
                    refine to_iload_n (dat dk_X12_quoted 70 rfl) rfl (to_iload_n (dat dk_X12_quoted 71 rfl) rfl ?_)
                    refine to_ige 140 (dat dk_X12_quoted 72 rfl) rfl hg hg (fun c105 => ?_) (fun c105 => ?_)
                    · skip
                      refine to_goto (dat dk_X12_quoted 76 rfl) rfl ?_
                      refine to_pick [0, 1, 2, 3] rfl ?_
                      exact ihn7 (n7 - 1) (by omega) g h99 hg Ih99 f101 (show f ≤ g ∧ g ≤ g by omega) (show h99.2.2 60 25 ≤ h.2.2 60 25 + (g - f) by omega) (show h.2.2 60 25 ≤ h99.2.2 60 25 by omega) (show g - g ≤ ((n7 - 1 : Nat) : Int) by omega)
                    · skip
                      refine to_aload_n (dat dk_X12_quoted 73 rfl) rfl (to_bipush (dat dk_X12_quoted 74 rfl) (by decide) ?_)
                      refine to_cV ca_c13_211 (dat dk_X12_quoted 75 rfl) (ct_X12_put l h99 Ih99 10 (by decide) (show h99.2.2 60 25 ≤ 3999 by omega)) rfl ⟨_, _, rfl, (Ih99.atS rfl)⟩ rfl (fun h107 p108 => ?_)
                      obtain ⟨Ih107, fh107, p108_0⟩ := p108
                      have f109 : Fr [76, 225] h h107 := Fr.sub f101 fh107 (sub_self _)
                      obtain ⟨x110, ex110⟩ : ∃ y : Int, h107.2.2 60 25 = y := ⟨_, rfl⟩
                      have rx110 := Ih107.atR (a := 60) (j := 25) rfl
                      rw [ex110] at rx110
                      refine to_goto (dat dk_X12_quoted 76 rfl) rfl ?_
                      refine to_pick [0, 1, 2, 3] rfl ?_
                      exact ihn7 (n7 - 1) (by omega) g h107 hg Ih107 f109 (show f ≤ g ∧ g ≤ g by omega) (show h107.2.2 60 25 ≤ h.2.2 60 25 + (g - f) by omega) (show h.2.2 60 25 ≤ h107.2.2 60 25 by omega) (show g - g ≤ ((n7 - 1 : Nat) : Int) by omega)
                · skip
                  refine to_iload (dat dk_X12_quoted 62 rfl) rfl (to_iconst (dat dk_X12_quoted 63 rfl) (to_iadd (dat dk_X12_quoted 64 rfl) (to_goto (dat dk_X12_quoted 65 rfl) rfl (to_istore_n (L' := [(0, .inr (.inr 60)), (1, .inl f), (2, .inl g), (3, .inl (x11 + 1)), (4, .inl x11), (5, .inl y17), (6, .inl y74)]) (dat dk_X12_quoted 67 rfl) (by decide) rfl (to_iload (dat dk_X12_quoted 68 rfl) rfl ?_)))))
                  refine to_ifne 140 (dat dk_X12_quoted 69 rfl) rfl (by omega) (fun c111 => ?_) (fun c111 => ?_)
                  · skip
                    refine to_goto (dat dk_X12_quoted 76 rfl) rfl ?_
                    refine to_pick [0, 1, 2, 3] rfl ?_
                    exact ihn7 (n7 - 1) (by omega) (x11 + 1) h99 (by omega) Ih99 f101 (show f ≤ (x11 + 1) ∧ (x11 + 1) ≤ g by omega) (show h99.2.2 60 25 ≤ h.2.2 60 25 + ((x11 + 1) - f) by omega) (show h.2.2 60 25 ≤ h99.2.2 60 25 by omega) (show g - (x11 + 1) ≤ ((n7 - 1 : Nat) : Int) by omega)
                  · skip
                    refine to_iload_n (dat dk_X12_quoted 70 rfl) rfl (to_iload_n (dat dk_X12_quoted 71 rfl) rfl ?_)
                    refine to_ige 140 (dat dk_X12_quoted 72 rfl) rfl (by omega) hg (fun c112 => ?_) (fun c112 => ?_)
                    · skip
                      refine to_goto (dat dk_X12_quoted 76 rfl) rfl ?_
                      refine to_pick [0, 1, 2, 3] rfl ?_
                      exact ihn7 (n7 - 1) (by omega) (x11 + 1) h99 (by omega) Ih99 f101 (show f ≤ (x11 + 1) ∧ (x11 + 1) ≤ g by omega) (show h99.2.2 60 25 ≤ h.2.2 60 25 + ((x11 + 1) - f) by omega) (show h.2.2 60 25 ≤ h99.2.2 60 25 by omega) (show g - (x11 + 1) ≤ ((n7 - 1 : Nat) : Int) by omega)
                    · skip
                      refine to_aload_n (dat dk_X12_quoted 73 rfl) rfl (to_bipush (dat dk_X12_quoted 74 rfl) (by decide) ?_)
                      refine to_cV ca_c13_211 (dat dk_X12_quoted 75 rfl) (ct_X12_put l h99 Ih99 10 (by decide) (show h99.2.2 60 25 ≤ 3999 by omega)) rfl ⟨_, _, rfl, (Ih99.atS rfl)⟩ rfl (fun h114 p115 => ?_)
                      obtain ⟨Ih114, fh114, p115_0⟩ := p115
                      have f116 : Fr [76, 225] h h114 := Fr.sub f101 fh114 (sub_self _)
                      obtain ⟨x117, ex117⟩ : ∃ y : Int, h114.2.2 60 25 = y := ⟨_, rfl⟩
                      have rx117 := Ih114.atR (a := 60) (j := 25) rfl
                      rw [ex117] at rx117
                      refine to_goto (dat dk_X12_quoted 76 rfl) rfl ?_
                      refine to_pick [0, 1, 2, 3] rfl ?_
                      exact ihn7 (n7 - 1) (by omega) (x11 + 1) h114 (by omega) Ih114 f116 (show f ≤ (x11 + 1) ∧ (x11 + 1) ≤ g by omega) (show h114.2.2 60 25 ≤ h.2.2 60 25 + ((x11 + 1) - f) by omega) (show h.2.2 60 25 ≤ h114.2.2 60 25 by omega) (show g - (x11 + 1) ≤ ((n7 - 1 : Nat) : Int) by omega)
            refine to_iload (dat dk_X12_quoted 31 rfl) rfl (to_iload_n (dat dk_X12_quoted 32 rfl) rfl ?_)
            refine to_ile 82 (dat dk_X12_quoted 33 rfl) rfl ry17 ry2 (fun c118 => ?_) (fun c118 => ?_)
            · skip
              refine to_iconst (dat dk_X12_quoted 44 rfl) ?_
              exact jn83_n76 0 (by decide) (show (0 : Int) = 0 ∨ y2 < y17 by omega)
            · skip
              refine to_aload_n (dat dk_X12_quoted 34 rfl) rfl (to_getR 63 g_c13_17 (dat dk_X12_quoted 35 rfl) (Ih3.atS rfl) (Ih3.atE rfl) (to_iload (dat dk_X12_quoted 36 rfl) rfl (to_iconst (dat dk_X12_quoted 37 rfl) (to_isub (dat dk_X12_quoted 38 rfl) ?_))))
              obtain ⟨x119, ex119⟩ : ∃ y : Int, h3.2.2 63 (Int.toNat (y17 - 1)) = y := ⟨_, rfl⟩
              have rx119 := Ih3.atR (a := 63) (j := Int.toNat (y17 - 1)) rfl
              rw [ex119] at rx119
              refine to_baldv (q := 1) ex119 (dat dk_X12_quoted 39 rfl) (by decide) (Ih3.atS rfl) rfl (by decide) (by omega) (to_bipush (dat dk_X12_quoted 40 rfl) (by decide) ?_)
              refine to_ine 82 (dat dk_X12_quoted 41 rfl) rfl (by omega) (by decide) (fun c120 => ?_) (fun c120 => ?_)
              · skip
                refine to_iconst (dat dk_X12_quoted 44 rfl) ?_
                exact jn83_n76 0 (by decide) (show (0 : Int) = 0 ∨ y2 < y17 by omega)
              · skip
                refine to_iconst (dat dk_X12_quoted 42 rfl) (to_goto (dat dk_X12_quoted 43 rfl) rfl ?_)
                exact jn83_n76 1 (by decide) (show (1 : Int) = 0 ∨ y2 < y17 by omega)
          · skip
            refine to_iinc (L' := [(0, .inr (.inr 60)), (1, .inl f), (2, .inl g), (3, .inl y2), (4, .inl x11), (5, .inl (y17 + (-1)))]) (dat dk_X12_quoted 29 rfl) rfl (by decide) rfl (to_goto (dat dk_X12_quoted 30 rfl) rfl ?_)
            exact ihn19 (n19 - 1) (by omega) (y17 + (-1)) (by omega) (show y2 ≤ (y17 + (-1)) ∧ (y17 + (-1)) ≤ x11 by omega) (show (y17 + (-1)) ≤ ((n19 - 1 : Nat) : Int) by omega)
      exact lp31_n19 (x14).toNat x14 rx14 (show y2 ≤ x14 ∧ x14 ≤ x11 by omega) (by omega)
  exact lp2_n7 (g - f).toNat f h hf hI (Fr.rf _ _) (show f ≤ f ∧ f ≤ g by omega) (show h.2.2 60 25 ≤ h.2.2 60 25 + (f - f) by omega) (show h.2.2 60 25 ≤ h.2.2 60 25 by omega) (by omega)
