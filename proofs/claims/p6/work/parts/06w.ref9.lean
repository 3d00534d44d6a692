/-! Contracts, by program. -/
abbrev Q_X12_readField (h : Hp) (c : Int) (f : Int) (g : Int) (n : Int) : Option V → Hp → Nat → Nat → Prop := RV (fun H => Inv H ∧ Fr [69, 70, 71, 75, 76, 223, 225, 226] h H)
set_option maxRecDepth 100000 in
theorem ct_X12_readField (l : Launch) (h : Hp) (hI : Inv h) (c : Int) (hc : I32 c) (f : Int) (hf : I32 f) (g : Int) (hg : I32 g) (n : Int) (hn : I32 n) (g0 : 0 ≤ c ∧ c ≤ 3) (g1 : 0 ≤ f ∧ f ≤ g) (g2 : g ≤ 240000) (g3 : g - f ≤ 1200) (g4 : 0 ≤ n ∧ n ≤ 8) : Ct l D_X12_readField 4 94 [.inr (.inr 60), .inl c, .inl f, .inl g, .inl n] h (Q_X12_readField h c f g n) := by
  refine ct_of pn_X12_readField (Nat.le_of_ble_eq_true rfl) ?_
  show To l E_X12_readField (0, [(0, .inr (.inr 60)), (1, .inl c), (2, .inl f), (3, .inl g), (4, .inl n)], [], h, 0, 0) _
  refine to_aload_n (dat dk_X12_readField 0 rfl) rfl (to_iconst (dat dk_X12_readField 1 rfl) (to_putIw p_c13_165 (dat dk_X12_readField 2 rfl) (hI.atS rfl) ?_))
  intro h3 wh3
  have I1 : Inv h3 := by rw [wh3]; exact hI.put (a := 60) (j := 25) (x := 0) (0) (4000) rfl rfl (show (0 : Int) ≤ 0 ∧ 0 ≤ 4000 by decide)
  have f2 : Fr [69, 70, 71, 75, 76, 223, 225, 226] h h3 := by rw [wh3]; exact Fr.putF (a := 60) (j := 25) (x := 0) (Fr.rf _ _) rfl
  refine to_aload_n (dat dk_X12_readField 3 rfl) rfl (to_iload_n (dat dk_X12_readField 4 rfl) rfl (to_iload_n (dat dk_X12_readField 5 rfl) rfl (to_iload (dat dk_X12_readField 6 rfl) rfl ?_)))
  refine to_cI ca_c13_254 (dat dk_X12_readField 7 rfl) (ct_X12_field l h3 I1 f hf g hg n hn (show 0 ≤ f ∧ f ≤ g by omega) (show g ≤ 240000 by omega) (show g - f ≤ 1200 by omega) (show 0 ≤ n ∧ n ≤ 8 by omega)) rfl ⟨_, _, rfl, (I1.atS rfl)⟩ rfl (fun x4 h5 rx4 p6 => ?_)
  obtain ⟨Ih5, fh5, zx4, p6_0, p6_1⟩ := p6
  have f7 : Fr [69, 70, 71, 75, 76, 223, 225, 226] h h5 := Fr.sub f2 fh5 rfl
  obtain ⟨x8, ex8⟩ : ∃ y : Int, h5.2.2 60 26 = y := ⟨_, rfl⟩
  have rx8 := Ih5.atR (a := 60) (j := 26) rfl
  rw [ex8] at rx8
  obtain ⟨x9, ex9⟩ : ∃ y : Int, h5.2.2 60 23 = y := ⟨_, rfl⟩
  have rx9 := Ih5.atR (a := 60) (j := 23) rfl
  rw [ex9] at rx9
  refine to_ifeq 20 (dat dk_X12_readField 8 rfl) rfl rx4 (fun c10 => ?_) (fun c10 => ?_)
  · skip
    refine to_aload_n (dat dk_X12_readField 11 rfl) rfl (to_getR 69 g_c13_41 (dat dk_X12_readField 12 rfl) (Ih5.atS rfl) (Ih5.atE rfl) (to_iload_n (dat dk_X12_readField 13 rfl) rfl (to_aload_n (dat dk_X12_readField 14 rfl) rfl (to_getR 76 g_c13_63 (dat dk_X12_readField 15 rfl) (Ih5.atS rfl) (Ih5.atE rfl) (to_iconst (dat dk_X12_readField 16 rfl) (to_aload_n (dat dk_X12_readField 17 rfl) rfl (to_getIv (y := 0) ((Fr.get fh5 (by have := I1.1.1; omega) rfl).trans (by rw [wh3]; exact wr_eq)) g_c13_165 (dat dk_X12_readField 18 rfl) (Ih5.atS rfl) (to_sipush (dat dk_X12_readField 19 rfl) (by decide) (to_aload_n (dat dk_X12_readField 20 rfl) rfl (to_getR 70 g_c13_45 (dat dk_X12_readField 21 rfl) (Ih5.atS rfl) (Ih5.atE rfl) (to_aload_n (dat dk_X12_readField 22 rfl) rfl (to_getR 71 g_c13_48 (dat dk_X12_readField 23 rfl) (Ih5.atS rfl) (Ih5.atE rfl) (to_sipush (dat dk_X12_readField 24 rfl) (by decide) (to_iload_n (dat dk_X12_readField 25 rfl) rfl (to_imul (dat dk_X12_readField 26 rfl) ?_)))))))))))))))
    refine to_cI ca_c13_296 (dat dk_X12_readField 27 rfl) (ct_X12_split_v70 l h5 Ih5 76 4000 rfl 0 (by decide) 0 (by decide) 640 (by decide) (640 * c) (by omega) (show 0 ≤ (0 : Int) by omega) (show (0 : Int) ≤ (4000 : Int) by omega) (show 0 ≤ (640 * c) by omega) (show 0 ≤ (640 : Int) by omega) (show (640 * c) + (640 : Int) ≤ 2560 by omega)) rfl trivial rfl (fun x11 h12 rx11 p13 => ?_)
    obtain ⟨Ih12, fh12, p13_0⟩ := p13
    have f14 : Fr [69, 70, 71, 75, 76, 223, 225, 226] h h12 := Fr.sub f7 fh12 rfl
    refine to_iastw (dat dk_X12_readField 28 rfl) (Ih12.atS rfl) rfl (by decide) (by omega) ?_
    intro h17 wh17
    have I15 : Inv h17 := by rw [wh17]; exact Ih12.put (a := 69) (j := (Int.toNat c)) (x := x11) (0) (640) rfl rfl (show (0 : Int) ≤ x11 ∧ x11 ≤ 640 by omega)
    have f16 : Fr [69, 70, 71, 75, 76, 223, 225, 226] h h17 := by rw [wh17]; exact Fr.putF (a := 69) (j := (Int.toNat c)) (x := x11) f14 rfl
    exact to_vret rfl (dat dk_X12_readField 29 rfl) (rv_mk ⟨I15, f16⟩)
  · skip
    refine to_aload_n (dat dk_X12_readField 9 rfl) rfl ?_
    refine to_cV ca_c13_293 (dat dk_X12_readField 10 rfl) (ct_X12_readEncoded l h5 Ih5 ) rfl ⟨_, _, rfl, (Ih5.atS rfl)⟩ rfl (fun h19 p20 => ?_)
    obtain ⟨Ih19, fh19, p20_0⟩ := p20
    have f21 : Fr [69, 70, 71, 75, 76, 223, 225, 226] h h19 := Fr.sub f7 fh19 rfl
    obtain ⟨x22, ex22⟩ : ∃ y : Int, h19.2.2 60 25 = y := ⟨_, rfl⟩
    have rx22 := Ih19.atR (a := 60) (j := 25) rfl
    rw [ex22] at rx22
    have e23 : h19.2.2 60 23 = x9 := ((Fr.get fh19 (by have := Ih5.1.1; omega) rfl).trans ex9)
    refine to_aload_n (dat dk_X12_readField 11 rfl) rfl (to_getR 69 g_c13_41 (dat dk_X12_readField 12 rfl) (Ih19.atS rfl) (Ih19.atE rfl) (to_iload_n (dat dk_X12_readField 13 rfl) rfl (to_aload_n (dat dk_X12_readField 14 rfl) rfl (to_getR 76 g_c13_63 (dat dk_X12_readField 15 rfl) (Ih19.atS rfl) (Ih19.atE rfl) (to_iconst (dat dk_X12_readField 16 rfl) (to_aload_n (dat dk_X12_readField 17 rfl) rfl (to_getIv (y := x22) ex22 g_c13_165 (dat dk_X12_readField 18 rfl) (Ih19.atS rfl) (to_sipush (dat dk_X12_readField 19 rfl) (by decide) (to_aload_n (dat dk_X12_readField 20 rfl) rfl (to_getR 70 g_c13_45 (dat dk_X12_readField 21 rfl) (Ih19.atS rfl) (Ih19.atE rfl) (to_aload_n (dat dk_X12_readField 22 rfl) rfl (to_getR 71 g_c13_48 (dat dk_X12_readField 23 rfl) (Ih19.atS rfl) (Ih19.atE rfl) (to_sipush (dat dk_X12_readField 24 rfl) (by decide) (to_iload_n (dat dk_X12_readField 25 rfl) rfl (to_imul (dat dk_X12_readField 26 rfl) ?_)))))))))))))))
    refine to_cI ca_c13_296 (dat dk_X12_readField 27 rfl) (ct_X12_split_v70 l h19 Ih19 76 4000 rfl 0 (by decide) x22 (by omega) 640 (by decide) (640 * c) (by omega) (show 0 ≤ (0 : Int) by omega) (show x22 ≤ (4000 : Int) by omega) (show 0 ≤ (640 * c) by omega) (show 0 ≤ (640 : Int) by omega) (show (640 * c) + (640 : Int) ≤ 2560 by omega)) rfl trivial rfl (fun x24 h25 rx24 p26 => ?_)
    obtain ⟨Ih25, fh25, p26_0⟩ := p26
    have f27 : Fr [69, 70, 71, 75, 76, 223, 225, 226] h h25 := Fr.sub f21 fh25 rfl
    refine to_iastw (dat dk_X12_readField 28 rfl) (Ih25.atS rfl) rfl (by decide) (by omega) ?_
    intro h30 wh30
    have I28 : Inv h30 := by rw [wh30]; exact Ih25.put (a := 69) (j := (Int.toNat c)) (x := x24) (0) (640) rfl rfl (show (0 : Int) ≤ x24 ∧ x24 ≤ 640 by omega)
    have f29 : Fr [69, 70, 71, 75, 76, 223, 225, 226] h h30 := by rw [wh30]; exact Fr.putF (a := 69) (j := (Int.toNat c)) (x := x24) f27 rfl
    exact to_vret rfl (dat dk_X12_readField 29 rfl) (rv_mk ⟨I28, f29⟩)
abbrev Q_X12_dateOf (h : Hp) : Option V → Hp → Nat → Nat → Prop := RLo (fun x H => Inv H ∧ Fr [236] h H)
set_option maxRecDepth 100000 in
theorem ct_X12_dateOf (l : Launch) (h : Hp) (hI : Inv h)  : Ct l D_X12_dateOf 3 70 [.inr (.inr 60)] h (Q_X12_dateOf h) := by
  refine ct_of pn_X12_dateOf (Nat.le_of_ble_eq_true rfl) ?_
  show To l E_X12_dateOf (0, [(0, .inr (.inr 60))], [], h, 0, 0) _
  obtain ⟨x1, ex1⟩ : ∃ y : Int, h.2.2 60 36 = y := ⟨_, rfl⟩
  have rx1 := hI.atR (a := 60) (j := 36) rfl
  rw [ex1] at rx1
  obtain ⟨x2, ex2⟩ : ∃ y : Int, h.2.2 60 23 = y := ⟨_, rfl⟩
  have rx2 := hI.atR (a := 60) (j := 23) rfl
  rw [ex2] at rx2
  refine to_aload_n (dat dk_X12_dateOf 0 rfl) rfl (to_iconst (dat dk_X12_dateOf 1 rfl) (to_putIw p_c13_308 (dat dk_X12_dateOf 2 rfl) (hI.atS rfl) ?_))
  intro h5 wh5
  have I3 : Inv h5 := by rw [wh5]; exact hI.put (a := 60) (j := 36) (x := 0) (0) (1301) rfl rfl (show (0 : Int) ≤ 0 ∧ 0 ≤ 1301 by decide)
  have f4 : Fr [236] h h5 := by rw [wh5]; exact Fr.putF (a := 60) (j := 36) (x := 0) (Fr.rf _ _) rfl
  refine to_aload_n (dat dk_X12_dateOf 3 rfl) rfl ?_
  have e6 : h5.2.2 60 36 = (0 : Int) := (by rw [wh5]; exact wr_eq)
  have e7 : h5.2.2 60 23 = x2 := (by rw [wh5]; exact ex2)
  refine to_cI ca_c13_317 (dat dk_X12_dateOf 4 rfl) (ct_X12_dateWord l h5 I3 (show h5.2.2 60 36 ≤ h5.2.2 60 23 by omega)) rfl ⟨_, _, rfl, (I3.atS rfl)⟩ rfl (fun x8 h9 rx8 p10 => ?_)
  obtain ⟨Ih9, fh9, p10_0⟩ := p10
  have f11 : Fr [236] h h9 := Fr.sub f4 fh9 (sub_self _)
  obtain ⟨x12, ex12⟩ : ∃ y : Int, h9.2.2 60 36 = y := ⟨_, rfl⟩
  have rx12 := Ih9.atR (a := 60) (j := 36) rfl
  rw [ex12] at rx12
  have e13 : h9.2.2 60 23 = x2 := ((Fr.get fh9 (by have := I3.1.1; omega) rfl).trans e7)
  refine to_istore_n (L' := [(0, .inr (.inr 60)), (1, .inl x8)]) (dat dk_X12_dateOf 5 rfl) (by decide) rfl ?_
  have jn23_n15 : ∀ (y14 : Int), (y14 = 0 ∨ y14 = 1) → To l E_X12_dateOf (23, [(0, .inr (.inr 60)), (1, .inl x8)], [.inl y14], h9, 0, 0) (Q_X12_dateOf h) := by
    intro y14 ry14
    refine to_istore_n (L' := [(0, .inr (.inr 60)), (1, .inl x8), (2, .inl y14)]) (dat dk_X12_dateOf 13 rfl) (by decide) rfl (to_aload_n (dat dk_X12_dateOf 14 rfl) rfl (to_getIv (y := x12) ex12 g_c13_308 (dat dk_X12_dateOf 15 rfl) (Ih9.atS rfl) (to_istore_n (L' := [(0, .inr (.inr 60)), (1, .inl x8), (2, .inl y14), (3, .inl x12)]) (dat dk_X12_dateOf 16 rfl) (by decide) rfl ?_)))
    have lp29_n19 : ∀ (n19 : Nat) (y16 : Int) (y17 : Int), (y16 = 0 ∨ y16 = 1) → (I32 y17) → (0 ≤ y17) → (x8 - y17 ≤ (n19 : Int)) → To l E_X12_dateOf (29, [(0, .inr (.inr 60)), (1, .inl x8), (2, .inl y16), (3, .inl y17)], [], h9, 0, 0) (Q_X12_dateOf h) := by
      intro n19
      induction n19 using Nat.strongRecOn with
      | _ n19 ihn19 =>
      intro y16 y17 ry16 ry17 c18 c20
      refine to_iload_n (dat dk_X12_dateOf 17 rfl) rfl (to_iload_n (dat dk_X12_dateOf 18 rfl) rfl ?_)
      refine to_ige 62 (dat dk_X12_dateOf 19 rfl) rfl ry17 rx8 (fun c21 => ?_) (fun c21 => ?_)
      · skip
        have jn71_n24 : ∀ (h22 : Hp), (Inv h22) → (Fr [236] h h22) → (h22.2.2 60 36 ≤ h22.2.2 60 23) → To l E_X12_dateOf (71, [(0, .inr (.inr 60)), (1, .inl x8), (2, .inl y16), (3, .inl y17)], [], h22, 0, 0) (Q_X12_dateOf h) := by
          intro h22 Ih22 fh22 c23
          obtain ⟨x25, ex25⟩ : ∃ y : Int, h22.2.2 60 36 = y := ⟨_, rfl⟩
          have rx25 := Ih22.atR (a := 60) (j := 36) rfl
          rw [ex25] at rx25
          have e26 : h22.2.2 60 23 = x2 := ((Fr.get fh22 (by have := hI.1.1; omega) rfl).trans ex2)
          refine to_aload_n (dat dk_X12_dateOf 39 rfl) rfl ?_
          refine to_cI ca_c13_317 (dat dk_X12_dateOf 40 rfl) (ct_X12_dateWord l h22 Ih22 (show h22.2.2 60 36 ≤ h22.2.2 60 23 by omega)) rfl ⟨_, _, rfl, (Ih22.atS rfl)⟩ rfl (fun x27 h28 rx27 p29 => ?_)
          obtain ⟨Ih28, fh28, p29_0⟩ := p29
          have f30 : Fr [236] h h28 := Fr.sub fh22 fh28 (sub_self _)
          obtain ⟨x31, ex31⟩ : ∃ y : Int, h28.2.2 60 36 = y := ⟨_, rfl⟩
          have rx31 := Ih28.atR (a := 60) (j := 36) rfl
          rw [ex31] at rx31
          have e32 : h28.2.2 60 23 = x2 := ((Fr.get fh28 (by have := Ih22.1.1; omega) rfl).trans e26)
          refine to_istore_n (L' := [(0, .inr (.inr 60)), (1, .inl x27), (2, .inl y16), (3, .inl y17)]) (dat dk_X12_dateOf 41 rfl) (by decide) rfl ?_
          have jn99_n34 : ∀ (y33 : Int), (I32 y33) → To l E_X12_dateOf (99, [(0, .inr (.inr 60)), (1, .inl x27), (2, .inl y16), (3, .inl y17)], [.inl y33], h28, 0, 0) (Q_X12_dateOf h) := by
            intro y33 ry33
            refine to_istore_n (L' := [(0, .inr (.inr 60)), (1, .inl x27), (2, .inl y16), (3, .inl y33)]) (dat dk_X12_dateOf 55 rfl) (by decide) rfl (to_aload_n (dat dk_X12_dateOf 56 rfl) rfl (to_iload_n (dat dk_X12_dateOf 57 rfl) rfl (to_putIw p_c13_308 (dat dk_X12_dateOf 58 rfl) (Ih28.atS rfl) ?_)))
            intro h37 wh37
            have I35 : Inv h37 := by rw [wh37]; exact Ih28.put (a := 60) (j := 36) (x := x27) (0) (1301) rfl rfl (show (0 : Int) ≤ x27 ∧ x27 ≤ 1301 by omega)
            have f36 : Fr [236] h h37 := by rw [wh37]; exact Fr.putF (a := 60) (j := 36) (x := x27) f30 rfl
            refine to_aload_n (dat dk_X12_dateOf 59 rfl) rfl ?_
            have e38 : h37.2.2 60 36 = x27 := (by rw [wh37]; exact wr_eq)
            have e39 : h37.2.2 60 23 = x2 := (by rw [wh37]; exact e32)
            refine to_cI ca_c13_317 (dat dk_X12_dateOf 60 rfl) (ct_X12_dateWord l h37 I35 (show h37.2.2 60 36 ≤ h37.2.2 60 23 by omega)) rfl ⟨_, _, rfl, (I35.atS rfl)⟩ rfl (fun x40 h41 rx40 p42 => ?_)
            obtain ⟨Ih41, fh41, p42_0⟩ := p42
            have f43 : Fr [236] h h41 := Fr.sub f36 fh41 (sub_self _)
            obtain ⟨x44, ex44⟩ : ∃ y : Int, h41.2.2 60 36 = y := ⟨_, rfl⟩
            have rx44 := Ih41.atR (a := 60) (j := 36) rfl
            rw [ex44] at rx44
            have e45 : h41.2.2 60 23 = x2 := ((Fr.get fh41 (by have := I35.1.1; omega) rfl).trans e39)
            refine to_istore_n (L' := [(0, .inr (.inr 60)), (1, .inl x40), (2, .inl y16), (3, .inl y33)]) (dat dk_X12_dateOf 61 rfl) (by decide) rfl (to_aload_n (dat dk_X12_dateOf 62 rfl) rfl (to_aload_n (dat dk_X12_dateOf 63 rfl) rfl (to_getIv (y := x44) ex44 g_c13_308 (dat dk_X12_dateOf 64 rfl) (Ih41.atS rfl) (to_iload_n (dat dk_X12_dateOf 65 rfl) rfl ?_))))
            refine to_cI ca_c13_321 (dat dk_X12_dateOf 66 rfl) (ct_X12_month l h41 Ih41 x44 (by omega) x40 rx40 (show 0 ≤ x44 ∧ x44 ≤ 1300 by omega) (show 0 ≤ x40 ∧ x40 ≤ 1300 by omega)) rfl ⟨_, _, rfl, (Ih41.atS rfl)⟩ rfl (fun x46 h47 rx46 p48 => ?_)
            obtain ⟨rfl, p48_0⟩ := p48
            refine to_istore (L' := [(0, .inr (.inr 60)), (1, .inl x40), (2, .inl y16), (3, .inl y33), (4, .inl x46)]) (dat dk_X12_dateOf 67 rfl) (by decide) rfl (to_aload_n (dat dk_X12_dateOf 68 rfl) rfl (to_iload_n (dat dk_X12_dateOf 69 rfl) rfl (to_putIw p_c13_308 (dat dk_X12_dateOf 70 rfl) (Ih41.atS rfl) ?_)))
            intro h51 wh51
            have I49 : Inv h51 := by rw [wh51]; exact Ih41.put (a := 60) (j := 36) (x := x40) (0) (1301) rfl rfl (show (0 : Int) ≤ x40 ∧ x40 ≤ 1301 by omega)
            have f50 : Fr [236] h h51 := by rw [wh51]; exact Fr.putF (a := 60) (j := 36) (x := x40) f43 rfl
            refine to_aload_n (dat dk_X12_dateOf 71 rfl) rfl ?_
            have e52 : h51.2.2 60 36 = x40 := (by rw [wh51]; exact wr_eq)
            have e53 : h51.2.2 60 23 = x2 := (by rw [wh51]; exact e45)
            refine to_cI ca_c13_317 (dat dk_X12_dateOf 72 rfl) (ct_X12_dateWord l h51 I49 (show h51.2.2 60 36 ≤ h51.2.2 60 23 by omega)) rfl ⟨_, _, rfl, (I49.atS rfl)⟩ rfl (fun x54 h55 rx54 p56 => ?_)
            obtain ⟨Ih55, fh55, p56_0⟩ := p56
            have f57 : Fr [236] h h55 := Fr.sub f50 fh55 (sub_self _)
            obtain ⟨x58, ex58⟩ : ∃ y : Int, h55.2.2 60 36 = y := ⟨_, rfl⟩
            have rx58 := Ih55.atR (a := 60) (j := 36) rfl
            rw [ex58] at rx58
            have e59 : h55.2.2 60 23 = x2 := ((Fr.get fh55 (by have := I49.1.1; omega) rfl).trans e53)
            refine to_istore_n (L' := [(0, .inr (.inr 60)), (1, .inl x54), (2, .inl y16), (3, .inl y33), (4, .inl x46)]) (dat dk_X12_dateOf 73 rfl) (by decide) rfl ?_
            have jn164_n61 : ∀ (y60 : Int), (I32 y60) → To l E_X12_dateOf (164, [(0, .inr (.inr 60)), (1, .inl x54), (2, .inl y16), (3, .inl y33), (4, .inl x46)], [.inl y60], h55, 0, 0) (Q_X12_dateOf h) := by
              intro y60 ry60
              refine to_istore (L' := [(0, .inr (.inr 60)), (1, .inl x54), (2, .inl y16), (3, .inl y33), (4, .inl x46), (5, .inl y60)]) (dat dk_X12_dateOf 93 rfl) (by decide) rfl ?_
              have jn202_n63 : ∀ (y62 : Int), (I32 y62) → To l E_X12_dateOf (202, [(0, .inr (.inr 60)), (1, .inl x54), (2, .inl y16), (3, .inl y33), (4, .inl x46), (5, .inl y62)], [], h55, 0, 0) (Q_X12_dateOf h) := by
                intro y62 ry62
                refine to_aload_n (dat dk_X12_dateOf 111 rfl) rfl (to_iload_n (dat dk_X12_dateOf 112 rfl) rfl (to_putIw p_c13_308 (dat dk_X12_dateOf 113 rfl) (Ih55.atS rfl) ?_))
                intro h66 wh66
                have I64 : Inv h66 := by rw [wh66]; exact Ih55.put (a := 60) (j := 36) (x := x54) (0) (1301) rfl rfl (show (0 : Int) ≤ x54 ∧ x54 ≤ 1301 by omega)
                have f65 : Fr [236] h h66 := by rw [wh66]; exact Fr.putF (a := 60) (j := 36) (x := x54) f57 rfl
                refine to_aload_n (dat dk_X12_dateOf 114 rfl) rfl ?_
                have e67 : h66.2.2 60 36 = x54 := (by rw [wh66]; exact wr_eq)
                have e68 : h66.2.2 60 23 = x2 := (by rw [wh66]; exact e59)
                refine to_cI ca_c13_317 (dat dk_X12_dateOf 115 rfl) (ct_X12_dateWord l h66 I64 (show h66.2.2 60 36 ≤ h66.2.2 60 23 by omega)) rfl ⟨_, _, rfl, (I64.atS rfl)⟩ rfl (fun x69 h70 rx69 p71 => ?_)
                obtain ⟨Ih70, fh70, p71_0⟩ := p71
                have f72 : Fr [236] h h70 := Fr.sub f65 fh70 (sub_self _)
                obtain ⟨x73, ex73⟩ : ∃ y : Int, h70.2.2 60 36 = y := ⟨_, rfl⟩
                have rx73 := Ih70.atR (a := 60) (j := 36) rfl
                rw [ex73] at rx73
                have e74 : h70.2.2 60 23 = x2 := ((Fr.get fh70 (by have := I64.1.1; omega) rfl).trans e68)
                refine to_istore_n (L' := [(0, .inr (.inr 60)), (1, .inl x69), (2, .inl y16), (3, .inl y33), (4, .inl x46), (5, .inl y62)]) (dat dk_X12_dateOf 116 rfl) (by decide) rfl (to_aload_n (dat dk_X12_dateOf 117 rfl) rfl (to_aload_n (dat dk_X12_dateOf 118 rfl) rfl (to_getIv (y := x73) ex73 g_c13_308 (dat dk_X12_dateOf 119 rfl) (Ih70.atS rfl) (to_iload_n (dat dk_X12_dateOf 120 rfl) rfl ?_))))
                refine to_cI ca_c13_324 (dat dk_X12_dateOf 121 rfl) (ct_X12_clock l h70 Ih70 x73 (by omega) x69 rx69 (show 0 ≤ x73 ∧ x73 ≤ 1300 by omega) (show 0 ≤ x69 ∧ x69 ≤ 1300 by omega)) rfl ⟨_, _, rfl, (Ih70.atS rfl)⟩ rfl (fun x75 h76 rx75 p77 => ?_)
                subst p77
                refine to_istore (L' := [(0, .inr (.inr 60)), (1, .inl x69), (2, .inl y16), (3, .inl y33), (4, .inl x46), (5, .inl y62), (6, .inl x75)]) (dat dk_X12_dateOf 122 rfl) (by decide) rfl (to_aload_n (dat dk_X12_dateOf 123 rfl) rfl (to_iload_n (dat dk_X12_dateOf 124 rfl) rfl (to_putIw p_c13_308 (dat dk_X12_dateOf 125 rfl) (Ih70.atS rfl) ?_)))
                intro h80 wh80
                have I78 : Inv h80 := by rw [wh80]; exact Ih70.put (a := 60) (j := 36) (x := x69) (0) (1301) rfl rfl (show (0 : Int) ≤ x69 ∧ x69 ≤ 1301 by omega)
                have f79 : Fr [236] h h80 := by rw [wh80]; exact Fr.putF (a := 60) (j := 36) (x := x69) f72 rfl
                refine to_aload_n (dat dk_X12_dateOf 126 rfl) rfl ?_
                have e81 : h80.2.2 60 36 = x69 := (by rw [wh80]; exact wr_eq)
                have e82 : h80.2.2 60 23 = x2 := (by rw [wh80]; exact e74)
                refine to_cI ca_c13_317 (dat dk_X12_dateOf 127 rfl) (ct_X12_dateWord l h80 I78 (show h80.2.2 60 36 ≤ h80.2.2 60 23 by omega)) rfl ⟨_, _, rfl, (I78.atS rfl)⟩ rfl (fun x83 h84 rx83 p85 => ?_)
                obtain ⟨Ih84, fh84, p85_0⟩ := p85
                have f86 : Fr [236] h h84 := Fr.sub f79 fh84 (sub_self _)
                obtain ⟨x87, ex87⟩ : ∃ y : Int, h84.2.2 60 36 = y := ⟨_, rfl⟩
                have rx87 := Ih84.atR (a := 60) (j := 36) rfl
                rw [ex87] at rx87
                have e88 : h84.2.2 60 23 = x2 := ((Fr.get fh84 (by have := I78.1.1; omega) rfl).trans e82)
                refine to_istore_n (L' := [(0, .inr (.inr 60)), (1, .inl x83), (2, .inl y16), (3, .inl y33), (4, .inl x46), (5, .inl y62), (6, .inl x75)]) (dat dk_X12_dateOf 128 rfl) (by decide) rfl (to_aload_n (dat dk_X12_dateOf 129 rfl) rfl (to_aload_n (dat dk_X12_dateOf 130 rfl) rfl (to_getIv (y := x87) ex87 g_c13_308 (dat dk_X12_dateOf 131 rfl) (Ih84.atS rfl) (to_iload_n (dat dk_X12_dateOf 132 rfl) rfl ?_))))
                refine to_cI ca_c13_327 (dat dk_X12_dateOf 133 rfl) (ct_X12_zone l h84 Ih84 x87 (by omega) x83 rx83 (show 0 ≤ x87 ∧ x87 ≤ 1300 by omega) (show 0 ≤ x83 ∧ x83 ≤ 1300 by omega)) rfl ⟨_, _, rfl, (Ih84.atS rfl)⟩ rfl (fun x89 h90 rx89 p91 => ?_)
                subst p91
                refine to_istore (L' := [(0, .inr (.inr 60)), (1, .inl x83), (2, .inl y16), (3, .inl y33), (4, .inl x46), (5, .inl y62), (6, .inl x75), (7, .inl x89)]) (dat dk_X12_dateOf 134 rfl) (by decide) rfl (to_iload (dat dk_X12_dateOf 135 rfl) rfl (to_sipush (dat dk_X12_dateOf 136 rfl) (by decide) ?_))
                refine to_ilt 287 (dat dk_X12_dateOf 137 rfl) rfl ry62 (by decide) (fun c92 => ?_) (fun c92 => ?_)
                · skip
                  refine to_lconst (v := 0) (dat dk_X12_dateOf 154 rfl) rfl ?_
                  exact to_lret rfl (dat dk_X12_dateOf 155 rfl) (rl_mk ⟨Ih84, f86⟩)
                · skip
                  refine to_iload (dat dk_X12_dateOf 138 rfl) rfl (to_sipush (dat dk_X12_dateOf 139 rfl) (by decide) ?_)
                  refine to_igt 287 (dat dk_X12_dateOf 140 rfl) rfl ry62 (by decide) (fun c93 => ?_) (fun c93 => ?_)
                  · skip
                    refine to_lconst (v := 0) (dat dk_X12_dateOf 154 rfl) rfl ?_
                    exact to_lret rfl (dat dk_X12_dateOf 155 rfl) (rl_mk ⟨Ih84, f86⟩)
                  · skip
                    refine to_iload (dat dk_X12_dateOf 141 rfl) rfl ?_
                    refine to_ifeq 287 (dat dk_X12_dateOf 142 rfl) rfl rx46 (fun c94 => ?_) (fun c94 => ?_)
                    · skip
                      refine to_lconst (v := 0) (dat dk_X12_dateOf 154 rfl) rfl ?_
                      exact to_lret rfl (dat dk_X12_dateOf 155 rfl) (rl_mk ⟨Ih84, f86⟩)
                    · skip
                      refine to_iload (dat dk_X12_dateOf 143 rfl) rfl (to_iconst (dat dk_X12_dateOf 144 rfl) ?_)
                      refine to_ieq 287 (dat dk_X12_dateOf 145 rfl) rfl rx75 (by decide) (fun c95 => ?_) (fun c95 => ?_)
                      · skip
                        refine to_lconst (v := 0) (dat dk_X12_dateOf 154 rfl) rfl ?_
                        exact to_lret rfl (dat dk_X12_dateOf 155 rfl) (rl_mk ⟨Ih84, f86⟩)
                      · skip
                        refine to_iload_n (dat dk_X12_dateOf 146 rfl) rfl (to_iconst (dat dk_X12_dateOf 147 rfl) ?_)
                        refine to_ilt 287 (dat dk_X12_dateOf 148 rfl) rfl ry33 (by decide) (fun c96 => ?_) (fun c96 => ?_)
                        · skip
                          refine to_lconst (v := 0) (dat dk_X12_dateOf 154 rfl) rfl ?_
                          exact to_lret rfl (dat dk_X12_dateOf 155 rfl) (rl_mk ⟨Ih84, f86⟩)
                        · skip
                          refine to_iload_n (dat dk_X12_dateOf 149 rfl) rfl (to_iload (dat dk_X12_dateOf 150 rfl) rfl (to_iload (dat dk_X12_dateOf 151 rfl) rfl ?_))
                          refine to_cI ca_c13_305 (dat dk_X12_dateOf 152 rfl) (ct_X12_monthDays l h84 Ih84 y62 ry62 x46 rx46) rfl trivial rfl (fun x97 h98 rx97 p99 => ?_)
                          obtain ⟨rfl, p99_0⟩ := p99
                          refine to_ile 289 (dat dk_X12_dateOf 153 rfl) rfl ry33 rx97 (fun c100 => ?_) (fun c100 => ?_)
                          · skip
                            refine to_ldc2 (v := 1440) (x := 1440) (tin 8 24 (by decide +kernel) rfl) (by decide +kernel) (dat dk_X12_dateOf 156 rfl) (to_iload (dat dk_X12_dateOf 157 rfl) rfl (to_iload (dat dk_X12_dateOf 158 rfl) rfl (to_iload_n (dat dk_X12_dateOf 159 rfl) rfl ?_)))
                            refine to_cL ca_c13_332 (dat dk_X12_dateOf 160 rfl) (ct_X12_days l h84 Ih84 y62 ry62 x46 rx46 y33 ry33) rfl trivial rfl (fun x101 h102 p103 => ?_)
                            subst p103
                            refine to_sipush (dat dk_X12_dateOf 161 rfl) (by decide) (to_iconst (dat dk_X12_dateOf 162 rfl) (to_iconst (dat dk_X12_dateOf 163 rfl) ?_))
                            refine to_cL ca_c13_332 (dat dk_X12_dateOf 164 rfl) (ct_X12_days l h84 Ih84 1970 (by decide) 1 (by decide) 1 (by decide)) rfl trivial rfl (fun x104 h105 p106 => ?_)
                            subst p106
                            refine to_lsub (dat dk_X12_dateOf 165 rfl) (fun w107 => ?_)
                            refine to_lmul (dat dk_X12_dateOf 166 rfl) (fun w108 => ?_)
                            refine to_iload (dat dk_X12_dateOf 167 rfl) rfl ?_
                            refine to_i2l (dat dk_X12_dateOf 168 rfl) (fun w109 => ?_)
                            refine to_ladd (dat dk_X12_dateOf 169 rfl) (fun w110 => ?_)
                            refine to_iload (dat dk_X12_dateOf 170 rfl) rfl ?_
                            refine to_i2l (dat dk_X12_dateOf 171 rfl) (fun w111 => ?_)
                            refine to_lsub (dat dk_X12_dateOf 172 rfl) (fun w112 => ?_)
                            exact to_lret rfl (dat dk_X12_dateOf 173 rfl) (rl_mk ⟨Ih84, f86⟩)
                          · skip
                            refine to_lconst (v := 0) (dat dk_X12_dateOf 154 rfl) rfl ?_
                            exact to_lret rfl (dat dk_X12_dateOf 155 rfl) (rl_mk ⟨Ih84, f86⟩)
              refine to_iload_n (dat dk_X12_dateOf 94 rfl) rfl (to_aload_n (dat dk_X12_dateOf 95 rfl) rfl (to_getIv (y := x58) ex58 g_c13_308 (dat dk_X12_dateOf 96 rfl) (Ih55.atS rfl) (to_isub (dat dk_X12_dateOf 97 rfl) (to_iconst (dat dk_X12_dateOf 98 rfl) ?_))))
              refine to_ine 202 (dat dk_X12_dateOf 99 rfl) rfl (by omega) (by decide) (fun c113 => ?_) (fun c113 => ?_)
              · skip
                exact jn202_n63 y60 ry60
              · skip
                refine to_iload (dat dk_X12_dateOf 100 rfl) rfl ?_
                refine to_iflt 202 (dat dk_X12_dateOf 101 rfl) rfl ry60 (fun c114 => ?_) (fun c114 => ?_)
                · skip
                  exact jn202_n63 y60 ry60
                · skip
                  refine to_iload (dat dk_X12_dateOf 102 rfl) rfl (to_iload (dat dk_X12_dateOf 103 rfl) rfl (to_bipush (dat dk_X12_dateOf 104 rfl) (by decide) ?_))
                  refine to_ige 196 (dat dk_X12_dateOf 105 rfl) rfl ry60 (by decide) (fun c115 => ?_) (fun c115 => ?_)
                  · skip
                    refine to_sipush (dat dk_X12_dateOf 108 rfl) (by decide) ?_
                    refine to_iaddA (dat dk_X12_dateOf 109 rfl) (fun x116 rx116 => ?_)
                    refine to_istore (L' := [(0, .inr (.inr 60)), (1, .inl x54), (2, .inl y16), (3, .inl y33), (4, .inl x46), (5, .inl x116)]) (dat dk_X12_dateOf 110 rfl) (by decide) rfl ?_
                    exact jn202_n63 x116 rx116
                  · skip
                    refine to_sipush (dat dk_X12_dateOf 106 rfl) (by decide) (to_goto (dat dk_X12_dateOf 107 rfl) rfl ?_)
                    refine to_iaddA (dat dk_X12_dateOf 109 rfl) (fun x117 rx117 => ?_)
                    refine to_istore (L' := [(0, .inr (.inr 60)), (1, .inl x54), (2, .inl y16), (3, .inl y33), (4, .inl x46), (5, .inl x117)]) (dat dk_X12_dateOf 110 rfl) (by decide) rfl ?_
                    exact jn202_n63 x117 rx117
            refine to_iload_n (dat dk_X12_dateOf 74 rfl) rfl (to_aload_n (dat dk_X12_dateOf 75 rfl) rfl (to_getIv (y := x58) ex58 g_c13_308 (dat dk_X12_dateOf 76 rfl) (Ih55.atS rfl) (to_isub (dat dk_X12_dateOf 77 rfl) (to_iconst (dat dk_X12_dateOf 78 rfl) ?_))))
            refine to_ieq 151 (dat dk_X12_dateOf 79 rfl) rfl (by omega) (by decide) (fun c118 => ?_) (fun c118 => ?_)
            · skip
              refine to_aload_n (dat dk_X12_dateOf 86 rfl) rfl (to_aload_n (dat dk_X12_dateOf 87 rfl) rfl (to_getIv (y := x58) ex58 g_c13_308 (dat dk_X12_dateOf 88 rfl) (Ih55.atS rfl) (to_iload_n (dat dk_X12_dateOf 89 rfl) rfl ?_)))
              refine to_cI ca_c13_314 (dat dk_X12_dateOf 90 rfl) (ct_X12_number l h55 Ih55 x58 (by omega) x54 rx54 (show 0 ≤ x58 ∧ x58 ≤ 1300 by omega) (show 0 ≤ x54 ∧ x54 ≤ 1300 by omega)) rfl ⟨_, _, rfl, (Ih55.atS rfl)⟩ rfl (fun x119 h120 rx119 p121 => ?_)
              subst p121
              refine to_goto (dat dk_X12_dateOf 91 rfl) rfl ?_
              exact jn164_n61 x119 rx119
            · skip
              refine to_iload_n (dat dk_X12_dateOf 80 rfl) rfl (to_aload_n (dat dk_X12_dateOf 81 rfl) rfl (to_getIv (y := x58) ex58 g_c13_308 (dat dk_X12_dateOf 82 rfl) (Ih55.atS rfl) (to_isub (dat dk_X12_dateOf 83 rfl) (to_iconst (dat dk_X12_dateOf 84 rfl) ?_))))
              refine to_ine 163 (dat dk_X12_dateOf 85 rfl) rfl (by omega) (by decide) (fun c122 => ?_) (fun c122 => ?_)
              · skip
                refine to_iconst (dat dk_X12_dateOf 92 rfl) ?_
                exact jn164_n61 (-1) (by decide)
              · skip
                refine to_aload_n (dat dk_X12_dateOf 86 rfl) rfl (to_aload_n (dat dk_X12_dateOf 87 rfl) rfl (to_getIv (y := x58) ex58 g_c13_308 (dat dk_X12_dateOf 88 rfl) (Ih55.atS rfl) (to_iload_n (dat dk_X12_dateOf 89 rfl) rfl ?_)))
                refine to_cI ca_c13_314 (dat dk_X12_dateOf 90 rfl) (ct_X12_number l h55 Ih55 x58 (by omega) x54 rx54 (show 0 ≤ x58 ∧ x58 ≤ 1300 by omega) (show 0 ≤ x54 ∧ x54 ≤ 1300 by omega)) rfl ⟨_, _, rfl, (Ih55.atS rfl)⟩ rfl (fun x123 h124 rx123 p125 => ?_)
                subst p125
                refine to_goto (dat dk_X12_dateOf 91 rfl) rfl ?_
                exact jn164_n61 x123 rx123
          refine to_iload_n (dat dk_X12_dateOf 42 rfl) rfl (to_aload_n (dat dk_X12_dateOf 43 rfl) rfl (to_getIv (y := x31) ex31 g_c13_308 (dat dk_X12_dateOf 44 rfl) (Ih28.atS rfl) (to_isub (dat dk_X12_dateOf 45 rfl) (to_iconst (dat dk_X12_dateOf 46 rfl) ?_))))
          refine to_ile 90 (dat dk_X12_dateOf 47 rfl) rfl (by omega) (by decide) (fun c126 => ?_) (fun c126 => ?_)
          · skip
            refine to_aload_n (dat dk_X12_dateOf 50 rfl) rfl (to_aload_n (dat dk_X12_dateOf 51 rfl) rfl (to_getIv (y := x31) ex31 g_c13_308 (dat dk_X12_dateOf 52 rfl) (Ih28.atS rfl) (to_iload_n (dat dk_X12_dateOf 53 rfl) rfl ?_)))
            refine to_cI ca_c13_314 (dat dk_X12_dateOf 54 rfl) (ct_X12_number l h28 Ih28 x31 (by omega) x27 rx27 (show 0 ≤ x31 ∧ x31 ≤ 1300 by omega) (show 0 ≤ x27 ∧ x27 ≤ 1300 by omega)) rfl ⟨_, _, rfl, (Ih28.atS rfl)⟩ rfl (fun x127 h128 rx127 p129 => ?_)
            subst p129
            exact jn99_n34 x127 rx127
          · skip
            refine to_iconst (dat dk_X12_dateOf 48 rfl) (to_goto (dat dk_X12_dateOf 49 rfl) rfl ?_)
            exact jn99_n34 (-1) (by decide)
        refine to_iload_n (dat dk_X12_dateOf 34 rfl) rfl ?_
        refine to_ifeq 71 (dat dk_X12_dateOf 35 rfl) rfl (by omega) (fun c130 => ?_) (fun c130 => ?_)
        · skip
          exact jn71_n24 h9 Ih9 f11 (show h9.2.2 60 36 ≤ h9.2.2 60 23 by omega)
        · skip
          refine to_aload_n (dat dk_X12_dateOf 36 rfl) rfl (to_iload_n (dat dk_X12_dateOf 37 rfl) rfl (to_putIw p_c13_308 (dat dk_X12_dateOf 38 rfl) (Ih9.atS rfl) ?_))
          intro h133 wh133
          have I131 : Inv h133 := by rw [wh133]; exact Ih9.put (a := 60) (j := 36) (x := x8) (0) (1301) rfl rfl (show (0 : Int) ≤ x8 ∧ x8 ≤ 1301 by omega)
          have f132 : Fr [236] h h133 := by rw [wh133]; exact Fr.putF (a := 60) (j := 36) (x := x8) f11 rfl
          have e134 : h133.2.2 60 36 = x8 := (by rw [wh133]; exact wr_eq)
          have e135 : h133.2.2 60 23 = x2 := (by rw [wh133]; exact e13)
          exact jn71_n24 h133 I131 f132 (show h133.2.2 60 36 ≤ h133.2.2 60 23 by omega)
      · skip
        have jn55_n137 : ∀ (y136 : Int), (y136 = 0 ∨ y136 = 1) → To l E_X12_dateOf (55, [(0, .inr (.inr 60)), (1, .inl x8), (2, .inl y16), (3, .inl y17)], [.inl y136], h9, 0, 0) (Q_X12_dateOf h) := by
          intro y136 ry136
          refine to_istore_n (L' := [(0, .inr (.inr 60)), (1, .inl x8), (2, .inl y136), (3, .inl y17)]) (dat dk_X12_dateOf 31 rfl) (by decide) rfl (to_iinc (L' := [(0, .inr (.inr 60)), (1, .inl x8), (2, .inl y136), (3, .inl (y17 + 1))]) (dat dk_X12_dateOf 32 rfl) rfl (by decide) rfl (to_goto (dat dk_X12_dateOf 33 rfl) rfl ?_))
          exact ihn19 (n19 - 1) (by omega) y136 (y17 + 1) (by omega) (by omega) (show 0 ≤ (y17 + 1) by omega) (show x8 - (y17 + 1) ≤ ((n19 - 1 : Nat) : Int) by omega)
        refine to_iload_n (dat dk_X12_dateOf 20 rfl) rfl ?_
        refine to_ifeq 54 (dat dk_X12_dateOf 21 rfl) rfl (by omega) (fun c138 => ?_) (fun c138 => ?_)
        · skip
          refine to_iconst (dat dk_X12_dateOf 30 rfl) ?_
          exact jn55_n137 0 (by decide)
        · skip
          refine to_aload_n (dat dk_X12_dateOf 22 rfl) rfl (to_getR 75 g_c13_60 (dat dk_X12_dateOf 23 rfl) (Ih9.atS rfl) (Ih9.atE rfl) (to_iload_n (dat dk_X12_dateOf 24 rfl) rfl ?_))
          obtain ⟨x139, ex139⟩ : ∃ y : Int, h9.2.2 75 (Int.toNat y17) = y := ⟨_, rfl⟩
          have rx139 := Ih9.atR (a := 75) (j := Int.toNat y17) rfl
          rw [ex139] at rx139
          refine to_baldv (q := 1) ex139 (dat dk_X12_dateOf 25 rfl) (by decide) (Ih9.atS rfl) rfl (by decide) (by omega) ?_
          refine to_cI ca_c13_168 (dat dk_X12_dateOf 26 rfl) (ct_X12_isLetter l h9 Ih9 x139 (by omega)) rfl trivial rfl (fun x140 h141 rx140 p142 => ?_)
          obtain ⟨rfl, zx140⟩ := p142
          refine to_ifeq 54 (dat dk_X12_dateOf 27 rfl) rfl rx140 (fun c143 => ?_) (fun c143 => ?_)
          · skip
            refine to_iconst (dat dk_X12_dateOf 30 rfl) ?_
            exact jn55_n137 0 (by decide)
          · skip
            refine to_iconst (dat dk_X12_dateOf 28 rfl) (to_goto (dat dk_X12_dateOf 29 rfl) rfl ?_)
            exact jn55_n137 1 (by decide)
    exact lp29_n19 (x8 - x12).toNat y14 x12 (by omega) (by omega) (show 0 ≤ x12 by omega) (by omega)
  refine to_iload_n (dat dk_X12_dateOf 6 rfl) rfl (to_aload_n (dat dk_X12_dateOf 7 rfl) rfl (to_getIv (y := x12) ex12 g_c13_308 (dat dk_X12_dateOf 8 rfl) (Ih9.atS rfl) ?_))
  refine to_ile 22 (dat dk_X12_dateOf 9 rfl) rfl rx8 (by omega) (fun c144 => ?_) (fun c144 => ?_)
  · skip
    refine to_iconst (dat dk_X12_dateOf 12 rfl) ?_
    exact jn23_n15 0 (by decide)
  · skip
    refine to_iconst (dat dk_X12_dateOf 10 rfl) (to_goto (dat dk_X12_dateOf 11 rfl) rfl ?_)
    exact jn23_n15 1 (by decide)
