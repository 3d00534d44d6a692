/-! Contracts, by program. -/
abbrev Q_X12_refuse (h : Hp) (p : Int) : Option V → Hp → Nat → Nat → Prop := RI (fun x H => Inv H ∧ Fr [248] h H ∧ (x = 0 ∨ x = 1) ∧ (x = 0))
set_option maxRecDepth 100000 in
theorem ct_X12_refuse (l : Launch) (h : Hp) (hI : Inv h) (p : Int) (hp : I32 p) (g0 : 0 ≤ p ∧ p ≤ 1200) : Ct l D_X12_refuse 0 0 [.inr (.inr 60), .inl p] h (Q_X12_refuse h p) := by
  refine ct_of pn_X12_refuse (Nat.le_of_ble_eq_true rfl) ?_
  show To l E_X12_refuse (0, [(0, .inr (.inr 60)), (1, .inl p)], [], h, 0, 0) _
  refine to_aload_n (dat dk_X12_refuse 0 rfl) rfl (to_iconst (dat dk_X12_refuse 1 rfl) (to_iload_n (dat dk_X12_refuse 2 rfl) rfl (to_iadd (dat dk_X12_refuse 3 rfl) (to_putIw p_c13_391 (dat dk_X12_refuse 4 rfl) (hI.atS rfl) ?_))))
  intro h3 wh3
  have I1 : Inv h3 := by rw [wh3]; exact hI.put (a := 60) (j := 48) (x := (1 + p)) (0) (1201) rfl rfl (show (0 : Int) ≤ (1 + p) ∧ (1 + p) ≤ 1201 by omega)
  have f2 : Fr [248] h h3 := by rw [wh3]; exact Fr.putF (a := 60) (j := 48) (x := (1 + p)) (Fr.rf _ _) rfl
  refine to_iconst (dat dk_X12_refuse 5 rfl) ?_
  exact to_zret rfl (dat dk_X12_refuse 6 rfl) (by decide) (ri_mk (by decide) ⟨I1, f2, (by decide), (show (0 : Int) = 0 by omega)⟩)
abbrev Q_X12_leaf (h : Hp) (c : Int) (f : Int) (g : Int) (p : Int) : Option V → Hp → Nat → Nat → Prop := RI (fun x H => Inv H ∧ Fr [89, 90, 91, 92, 93, 94, 245] h H ∧ (H.2.2 60 45 = h.2.2 60 45 + 1) ∧ (x = h.2.2 60 45))
set_option maxRecDepth 100000 in
theorem ct_X12_leaf (l : Launch) (h : Hp) (hI : Inv h) (c : Int) (hc : I32 c) (f : Int) (hf : I32 f) (g : Int) (hg : I32 g) (p : Int) (hp : p = 0 ∨ p = 1) (g0 : 0 ≤ f ∧ f ≤ 1200) (g1 : 0 ≤ g ∧ g ≤ 1200) (g2 : 0 ≤ c ∧ c ≤ 8) (g3 : h.2.2 60 45 ≤ 809) : Ct l D_X12_leaf 0 0 [.inr (.inr 60), .inl c, .inl f, .inl g, .inl p] h (Q_X12_leaf h c f g p) := by
  refine ct_of pn_X12_leaf (Nat.le_of_ble_eq_true rfl) ?_
  show To l E_X12_leaf (0, [(0, .inr (.inr 60)), (1, .inl c), (2, .inl f), (3, .inl g), (4, .inl p)], [], h, 0, 0) _
  obtain ⟨x1, ex1⟩ : ∃ y : Int, h.2.2 60 45 = y := ⟨_, rfl⟩
  have rx1 := hI.atR (a := 60) (j := 45) rfl
  rw [ex1] at rx1
  refine to_aload_n (dat dk_X12_leaf 0 rfl) rfl (to_getR 89 g_c13_103 (dat dk_X12_leaf 1 rfl) (hI.atS rfl) (hI.atE rfl) (to_aload_n (dat dk_X12_leaf 2 rfl) rfl (to_getIv (y := x1) ex1 g_c13_394 (dat dk_X12_leaf 3 rfl) (hI.atS rfl) (to_iload_n (dat dk_X12_leaf 4 rfl) rfl (to_iastw (dat dk_X12_leaf 5 rfl) (hI.atS rfl) rfl (by decide) (by omega) ?_)))))
  intro h4 wh4
  have I2 : Inv h4 := by rw [wh4]; exact hI.put (a := 89) (j := (Int.toNat x1)) (x := c) (0) (8) rfl rfl (show (0 : Int) ≤ c ∧ c ≤ 8 by omega)
  have f3 : Fr [89, 90, 91, 92, 93, 94, 245] h h4 := by rw [wh4]; exact Fr.putF (a := 89) (j := (Int.toNat x1)) (x := c) (Fr.rf _ _) rfl
  refine to_aload_n (dat dk_X12_leaf 6 rfl) rfl (to_getR 90 g_c13_106 (dat dk_X12_leaf 7 rfl) (I2.atS rfl) (I2.atE rfl) (to_aload_n (dat dk_X12_leaf 8 rfl) rfl (to_getIv (y := x1) (by rw [wh4]; exact ex1) g_c13_394 (dat dk_X12_leaf 9 rfl) (I2.atS rfl) (to_iload_n (dat dk_X12_leaf 10 rfl) rfl (to_iastw (dat dk_X12_leaf 11 rfl) (I2.atS rfl) rfl (by decide) (by omega) ?_)))))
  intro h7 wh7
  have I5 : Inv h7 := by rw [wh7]; exact I2.put (a := 90) (j := (Int.toNat x1)) (x := f) (0) (1200) rfl rfl (show (0 : Int) ≤ f ∧ f ≤ 1200 by omega)
  have f6 : Fr [89, 90, 91, 92, 93, 94, 245] h h7 := by rw [wh7]; exact Fr.putF (a := 90) (j := (Int.toNat x1)) (x := f) f3 rfl
  refine to_aload_n (dat dk_X12_leaf 12 rfl) rfl (to_getR 91 g_c13_109 (dat dk_X12_leaf 13 rfl) (I5.atS rfl) (I5.atE rfl) (to_aload_n (dat dk_X12_leaf 14 rfl) rfl (to_getIv (y := x1) (by rw [wh7]; exact (show h4.2.2 60 45 = x1 from (by rw [wh4]; exact ex1))) g_c13_394 (dat dk_X12_leaf 15 rfl) (I5.atS rfl) (to_iload_n (dat dk_X12_leaf 16 rfl) rfl (to_iastw (dat dk_X12_leaf 17 rfl) (I5.atS rfl) rfl (by decide) (by omega) ?_)))))
  intro h10 wh10
  have I8 : Inv h10 := by rw [wh10]; exact I5.put (a := 91) (j := (Int.toNat x1)) (x := g) (0) (1200) rfl rfl (show (0 : Int) ≤ g ∧ g ≤ 1200 by omega)
  have f9 : Fr [89, 90, 91, 92, 93, 94, 245] h h10 := by rw [wh10]; exact Fr.putF (a := 91) (j := (Int.toNat x1)) (x := g) f6 rfl
  refine to_aload_n (dat dk_X12_leaf 18 rfl) rfl (to_getR 92 g_c13_112 (dat dk_X12_leaf 19 rfl) (I8.atS rfl) (I8.atE rfl) (to_aload_n (dat dk_X12_leaf 20 rfl) rfl (to_getIv (y := x1) (by rw [wh10]; exact (show h7.2.2 60 45 = x1 from (by rw [wh7]; exact (show h4.2.2 60 45 = x1 from (by rw [wh4]; exact ex1))))) g_c13_394 (dat dk_X12_leaf 21 rfl) (I8.atS rfl) (to_iload (dat dk_X12_leaf 22 rfl) rfl (to_zastw (dat dk_X12_leaf 23 rfl) (I8.atS rfl) rfl (by decide) (by omega) (by omega) ?_)))))
  intro h13 wh13
  have I11 : Inv h13 := by rw [wh13]; exact I8.put (a := 92) (j := (Int.toNat x1)) (x := p) (0) (1) rfl rfl (show (0 : Int) ≤ p ∧ p ≤ 1 by omega)
  have f12 : Fr [89, 90, 91, 92, 93, 94, 245] h h13 := by rw [wh13]; exact Fr.putF (a := 92) (j := (Int.toNat x1)) (x := p) f9 rfl
  refine to_aload_n (dat dk_X12_leaf 24 rfl) rfl (to_getR 93 g_c13_115 (dat dk_X12_leaf 25 rfl) (I11.atS rfl) (I11.atE rfl) (to_aload_n (dat dk_X12_leaf 26 rfl) rfl (to_getIv (y := x1) (by rw [wh13]; exact (show h10.2.2 60 45 = x1 from (by rw [wh10]; exact (show h7.2.2 60 45 = x1 from (by rw [wh7]; exact (show h4.2.2 60 45 = x1 from (by rw [wh4]; exact ex1))))))) g_c13_394 (dat dk_X12_leaf 27 rfl) (I11.atS rfl) (to_ldc2 (v := (-9223372036854775808)) (x := -9223372036854775808) (tin 7 231 (by decide +kernel) rfl) (by decide +kernel) (dat dk_X12_leaf 28 rfl) (to_lastw (dat dk_X12_leaf 29 rfl) (I11.atS rfl) rfl (by decide) (by omega) ?_)))))
  intro h16 wh16
  have I14 : Inv h16 := by rw [wh16]; exact I11.putL (x := (-9223372036854775808)) (a := 93) (j := (Int.toNat x1)) rfl
  have f15 : Fr [89, 90, 91, 92, 93, 94, 245] h h16 := by rw [wh16]; exact Fr.putF (a := 93) (j := (Int.toNat x1)) (x := (-9223372036854775808)) f12 rfl
  refine to_aload_n (dat dk_X12_leaf 30 rfl) rfl (to_getR 94 g_c13_119 (dat dk_X12_leaf 31 rfl) (I14.atS rfl) (I14.atE rfl) (to_aload_n (dat dk_X12_leaf 32 rfl) rfl (to_getIv (y := x1) (by rw [wh16]; exact (show h13.2.2 60 45 = x1 from (by rw [wh13]; exact (show h10.2.2 60 45 = x1 from (by rw [wh10]; exact (show h7.2.2 60 45 = x1 from (by rw [wh7]; exact (show h4.2.2 60 45 = x1 from (by rw [wh4]; exact ex1))))))))) g_c13_394 (dat dk_X12_leaf 33 rfl) (I14.atS rfl) (to_ldc2 (v := 9223372036854775807) (x := 9223372036854775807) (tin 7 232 (by decide +kernel) rfl) (by decide +kernel) (dat dk_X12_leaf 34 rfl) (to_lastw (dat dk_X12_leaf 35 rfl) (I14.atS rfl) rfl (by decide) (by omega) ?_)))))
  intro h19 wh19
  have I17 : Inv h19 := by rw [wh19]; exact I14.putL (x := 9223372036854775807) (a := 94) (j := (Int.toNat x1)) rfl
  have f18 : Fr [89, 90, 91, 92, 93, 94, 245] h h19 := by rw [wh19]; exact Fr.putF (a := 94) (j := (Int.toNat x1)) (x := 9223372036854775807) f15 rfl
  refine to_aload_n (dat dk_X12_leaf 36 rfl) rfl (to_dup (dat dk_X12_leaf 37 rfl) rfl (to_getIv (y := x1) (by rw [wh19]; exact (show h16.2.2 60 45 = x1 from (by rw [wh16]; exact (show h13.2.2 60 45 = x1 from (by rw [wh13]; exact (show h10.2.2 60 45 = x1 from (by rw [wh10]; exact (show h7.2.2 60 45 = x1 from (by rw [wh7]; exact (show h4.2.2 60 45 = x1 from (by rw [wh4]; exact ex1))))))))))) g_c13_394 (dat dk_X12_leaf 38 rfl) (I17.atS rfl) (to_iconst (dat dk_X12_leaf 39 rfl) (to_iadd (dat dk_X12_leaf 40 rfl) (to_putIw p_c13_394 (dat dk_X12_leaf 41 rfl) (I17.atS rfl) ?_)))))
  intro h22 wh22
  have I20 : Inv h22 := by rw [wh22]; exact I17.put (a := 60) (j := 45) (x := (x1 + 1)) (0) (810) rfl rfl (show (0 : Int) ≤ (x1 + 1) ∧ (x1 + 1) ≤ 810 by omega)
  have f21 : Fr [89, 90, 91, 92, 93, 94, 245] h h22 := by rw [wh22]; exact Fr.putF (a := 60) (j := 45) (x := (x1 + 1)) f18 rfl
  refine to_aload_n (dat dk_X12_leaf 42 rfl) rfl (to_getIv (y := (x1 + 1)) (by rw [wh22]; exact wr_eq) g_c13_394 (dat dk_X12_leaf 43 rfl) (I20.atS rfl) (to_iconst (dat dk_X12_leaf 44 rfl) (to_isub (dat dk_X12_leaf 45 rfl) ?_)))
  have e23 : h22.2.2 60 45 = (x1 + 1) := (by rw [wh22]; exact wr_eq)
  exact to_iret rfl (dat dk_X12_leaf 46 rfl) (ri_mk (by omega) ⟨I20, f21, (show h22.2.2 60 45 = h.2.2 60 45 + 1 by omega), (show ((x1 + 1) - 1) = h.2.2 60 45 by omega)⟩)
abbrev Q_X12_done (h : Hp) (c : Int) : Option V → Hp → Nat → Nat → Prop := RV (fun H => Inv H ∧ Fr [95, 246] h H ∧ (H.2.2 60 46 = h.2.2 60 46 + 1))
set_option maxRecDepth 100000 in
theorem ct_X12_done (l : Launch) (h : Hp) (hI : Inv h) (c : Int) (hc : I32 c) (g0 : -4 ≤ c ∧ c ≤ 810) (g1 : h.2.2 60 46 ≤ 2999) : Ct l D_X12_done 0 0 [.inr (.inr 60), .inl c] h (Q_X12_done h c) := by
  refine ct_of pn_X12_done (Nat.le_of_ble_eq_true rfl) ?_
  show To l E_X12_done (0, [(0, .inr (.inr 60)), (1, .inl c)], [], h, 0, 0) _
  obtain ⟨x1, ex1⟩ : ∃ y : Int, h.2.2 60 46 = y := ⟨_, rfl⟩
  have rx1 := hI.atR (a := 60) (j := 46) rfl
  rw [ex1] at rx1
  refine to_aload_n (dat dk_X12_done 0 rfl) rfl (to_getR 95 g_c13_122 (dat dk_X12_done 1 rfl) (hI.atS rfl) (hI.atE rfl) (to_aload_n (dat dk_X12_done 2 rfl) rfl (to_getIv (y := x1) ex1 g_c13_403 (dat dk_X12_done 3 rfl) (hI.atS rfl) (to_iload_n (dat dk_X12_done 4 rfl) rfl (to_iastw (dat dk_X12_done 5 rfl) (hI.atS rfl) rfl (by decide) (by omega) ?_)))))
  intro h4 wh4
  have I2 : Inv h4 := by rw [wh4]; exact hI.put (a := 95) (j := (Int.toNat x1)) (x := c) (-4) (810) rfl rfl (show (-4 : Int) ≤ c ∧ c ≤ 810 by omega)
  have f3 : Fr [95, 246] h h4 := by rw [wh4]; exact Fr.putF (a := 95) (j := (Int.toNat x1)) (x := c) (Fr.rf _ _) rfl
  refine to_aload_n (dat dk_X12_done 6 rfl) rfl (to_dup (dat dk_X12_done 7 rfl) rfl (to_getIv (y := x1) (by rw [wh4]; exact ex1) g_c13_403 (dat dk_X12_done 8 rfl) (I2.atS rfl) (to_iconst (dat dk_X12_done 9 rfl) (to_iadd (dat dk_X12_done 10 rfl) (to_putIw p_c13_403 (dat dk_X12_done 11 rfl) (I2.atS rfl) ?_)))))
  intro h7 wh7
  have I5 : Inv h7 := by rw [wh7]; exact I2.put (a := 60) (j := 46) (x := (x1 + 1)) (0) (3000) rfl rfl (show (0 : Int) ≤ (x1 + 1) ∧ (x1 + 1) ≤ 3000 by omega)
  have f6 : Fr [95, 246] h h7 := by rw [wh7]; exact Fr.putF (a := 60) (j := 46) (x := (x1 + 1)) f3 rfl
  have e8 : h7.2.2 60 46 = (x1 + 1) := (by rw [wh7]; exact wr_eq)
  exact to_vret rfl (dat dk_X12_done 12 rfl) (rv_mk ⟨I5, f6, (show h7.2.2 60 46 = h.2.2 60 46 + 1 by omega)⟩)
abbrev Q_X12_later (h : Hp) (c : Int) : Option V → Hp → Nat → Nat → Prop := RV (fun H => Inv H ∧ Fr [96, 247] h H ∧ (H.2.2 60 47 = h.2.2 60 47 + 1))
set_option maxRecDepth 100000 in
theorem ct_X12_later (l : Launch) (h : Hp) (hI : Inv h) (c : Int) (hc : I32 c) (g0 : 0 ≤ c ∧ c ≤ 4) (g1 : h.2.2 60 47 ≤ 1299) : Ct l D_X12_later 0 0 [.inr (.inr 60), .inl c] h (Q_X12_later h c) := by
  refine ct_of pn_X12_later (Nat.le_of_ble_eq_true rfl) ?_
  show To l E_X12_later (0, [(0, .inr (.inr 60)), (1, .inl c)], [], h, 0, 0) _
  obtain ⟨x1, ex1⟩ : ∃ y : Int, h.2.2 60 47 = y := ⟨_, rfl⟩
  have rx1 := hI.atR (a := 60) (j := 47) rfl
  rw [ex1] at rx1
  refine to_aload_n (dat dk_X12_later 0 rfl) rfl (to_getR 96 g_c13_125 (dat dk_X12_later 1 rfl) (hI.atS rfl) (hI.atE rfl) (to_aload_n (dat dk_X12_later 2 rfl) rfl (to_getIv (y := x1) ex1 g_c13_406 (dat dk_X12_later 3 rfl) (hI.atS rfl) (to_iload_n (dat dk_X12_later 4 rfl) rfl (to_iastw (dat dk_X12_later 5 rfl) (hI.atS rfl) rfl (by decide) (by omega) ?_)))))
  intro h4 wh4
  have I2 : Inv h4 := by rw [wh4]; exact hI.put (a := 96) (j := (Int.toNat x1)) (x := c) (0) (4) rfl rfl (show (0 : Int) ≤ c ∧ c ≤ 4 by omega)
  have f3 : Fr [96, 247] h h4 := by rw [wh4]; exact Fr.putF (a := 96) (j := (Int.toNat x1)) (x := c) (Fr.rf _ _) rfl
  refine to_aload_n (dat dk_X12_later 6 rfl) rfl (to_dup (dat dk_X12_later 7 rfl) rfl (to_getIv (y := x1) (by rw [wh4]; exact ex1) g_c13_406 (dat dk_X12_later 8 rfl) (I2.atS rfl) (to_iconst (dat dk_X12_later 9 rfl) (to_iadd (dat dk_X12_later 10 rfl) (to_putIw p_c13_406 (dat dk_X12_later 11 rfl) (I2.atS rfl) ?_)))))
  intro h7 wh7
  have I5 : Inv h7 := by rw [wh7]; exact I2.put (a := 60) (j := 47) (x := (x1 + 1)) (0) (1300) rfl rfl (show (0 : Int) ≤ (x1 + 1) ∧ (x1 + 1) ≤ 1300 by omega)
  have f6 : Fr [96, 247] h h7 := by rw [wh7]; exact Fr.putF (a := 60) (j := 47) (x := (x1 + 1)) f3 rfl
  have e8 : h7.2.2 60 47 = (x1 + 1) := (by rw [wh7]; exact wr_eq)
  exact to_vret rfl (dat dk_X12_later 12 rfl) (rv_mk ⟨I5, f6, (show h7.2.2 60 47 = h.2.2 60 47 + 1 by omega)⟩)
abbrev Q_X12_phraseEnd (h : Hp) (f : Int) : Option V → Hp → Nat → Nat → Prop := RI (fun x H => h = H ∧ (x = -1 ∨ (f ≤ x ∧ x < H.2.2 60 44)))
set_option maxRecDepth 100000 in
theorem ct_X12_phraseEnd (l : Launch) (h : Hp) (hI : Inv h) (f : Int) (hf : I32 f) (g0 : 0 ≤ f ∧ f ≤ 1201) : Ct l D_X12_phraseEnd 0 0 [.inr (.inr 60), .inl f] h (Q_X12_phraseEnd h f) := by
  refine ct_of pn_X12_phraseEnd (Nat.le_of_ble_eq_true rfl) ?_
  show To l E_X12_phraseEnd (0, [(0, .inr (.inr 60)), (1, .inl f)], [], h, 0, 0) _
  refine to_iload_n (dat dk_X12_phraseEnd 0 rfl) rfl (to_istore_n (L' := [(0, .inr (.inr 60)), (1, .inl f), (2, .inl f)]) (dat dk_X12_phraseEnd 1 rfl) (by decide) rfl ?_)
  have lp2_n4 : ∀ (n4 : Nat) (y1 : Int), (I32 y1) → (f ≤ y1) → (y1 = f ∨ y1 ≤ h.2.2 60 44) → (h.2.2 60 44 - y1 ≤ (n4 : Int)) → To l E_X12_phraseEnd (2, [(0, .inr (.inr 60)), (1, .inl f), (2, .inl y1)], [], h, 0, 0) (Q_X12_phraseEnd h f) := by
    intro n4
    induction n4 using Nat.strongRecOn with
    | _ n4 ihn4 =>
    intro y1 ry1 c2 c3 c5
    refine to_iload_n (dat dk_X12_phraseEnd 2 rfl) rfl (to_aload_n (dat dk_X12_phraseEnd 3 rfl) rfl ?_)
    obtain ⟨x6, ex6⟩ : ∃ y : Int, h.2.2 60 44 = y := ⟨_, rfl⟩
    have rx6 := hI.atR (a := 60) (j := 44) rfl
    rw [ex6] at rx6
    refine to_getIv (y := x6) ex6 g_c13_412 (dat dk_X12_phraseEnd 4 rfl) (hI.atS rfl) ?_
    refine to_ige 27 (dat dk_X12_phraseEnd 5 rfl) rfl ry1 (by omega) (fun c7 => ?_) (fun c7 => ?_)
    · skip
      refine to_iload_n (dat dk_X12_phraseEnd 14 rfl) rfl (to_aload_n (dat dk_X12_phraseEnd 15 rfl) rfl (to_getIv (y := x6) ex6 g_c13_412 (dat dk_X12_phraseEnd 16 rfl) (hI.atS rfl) ?_))
      refine to_ige 39 (dat dk_X12_phraseEnd 17 rfl) rfl ry1 (by omega) (fun c8 => ?_) (fun c8 => ?_)
      · skip
        refine to_iconst (dat dk_X12_phraseEnd 20 rfl) ?_
        exact to_iret rfl (dat dk_X12_phraseEnd 21 rfl) (ri_mk (by decide) ⟨rfl, (show (-1 : Int) = -1 ∨ (f ≤ (-1 : Int) ∧ (-1 : Int) < h.2.2 60 44) by omega)⟩)
      · skip
        refine to_iload_n (dat dk_X12_phraseEnd 18 rfl) rfl (to_goto (dat dk_X12_phraseEnd 19 rfl) rfl ?_)
        exact to_iret rfl (dat dk_X12_phraseEnd 21 rfl) (ri_mk ry1 ⟨rfl, (show y1 = -1 ∨ (f ≤ y1 ∧ y1 < h.2.2 60 44) by omega)⟩)
    · skip
      refine to_aload_n (dat dk_X12_phraseEnd 6 rfl) rfl (to_getR 88 g_c13_100 (dat dk_X12_phraseEnd 7 rfl) (hI.atS rfl) (hI.atE rfl) (to_iload_n (dat dk_X12_phraseEnd 8 rfl) rfl ?_))
      obtain ⟨x9, ex9⟩ : ∃ y : Int, h.2.2 88 (Int.toNat y1) = y := ⟨_, rfl⟩
      have rx9 := hI.atR (a := 88) (j := Int.toNat y1) rfl
      rw [ex9] at rx9
      refine to_baldv (q := 1) ex9 (dat dk_X12_phraseEnd 9 rfl) (by decide) (hI.atS rfl) rfl (by decide) (by omega) (to_bipush (dat dk_X12_phraseEnd 10 rfl) (by decide) ?_)
      refine to_ieq 27 (dat dk_X12_phraseEnd 11 rfl) rfl (by omega) (by decide) (fun c10 => ?_) (fun c10 => ?_)
      · skip
        refine to_iload_n (dat dk_X12_phraseEnd 14 rfl) rfl (to_aload_n (dat dk_X12_phraseEnd 15 rfl) rfl (to_getIv (y := x6) ex6 g_c13_412 (dat dk_X12_phraseEnd 16 rfl) (hI.atS rfl) ?_))
        refine to_ige 39 (dat dk_X12_phraseEnd 17 rfl) rfl ry1 (by omega) (fun c11 => ?_) (fun c11 => ?_)
        · skip
          refine to_iconst (dat dk_X12_phraseEnd 20 rfl) ?_
          exact to_iret rfl (dat dk_X12_phraseEnd 21 rfl) (ri_mk (by decide) ⟨rfl, (show (-1 : Int) = -1 ∨ (f ≤ (-1 : Int) ∧ (-1 : Int) < h.2.2 60 44) by omega)⟩)
        · skip
          refine to_iload_n (dat dk_X12_phraseEnd 18 rfl) rfl (to_goto (dat dk_X12_phraseEnd 19 rfl) rfl ?_)
          exact to_iret rfl (dat dk_X12_phraseEnd 21 rfl) (ri_mk ry1 ⟨rfl, (show y1 = -1 ∨ (f ≤ y1 ∧ y1 < h.2.2 60 44) by omega)⟩)
      · skip
        refine to_iinc (L' := [(0, .inr (.inr 60)), (1, .inl f), (2, .inl (y1 + 1))]) (dat dk_X12_phraseEnd 12 rfl) rfl (by decide) rfl (to_goto (dat dk_X12_phraseEnd 13 rfl) rfl ?_)
        exact ihn4 (n4 - 1) (by omega) (y1 + 1) (by omega) (show f ≤ (y1 + 1) by omega) (show (y1 + 1) = f ∨ (y1 + 1) ≤ h.2.2 60 44 by omega) (show h.2.2 60 44 - (y1 + 1) ≤ ((n4 - 1 : Nat) : Int) by omega)
  exact lp2_n4 (h.2.2 60 44 - f).toNat f hf (show f ≤ f by omega) (show f = f ∨ f ≤ h.2.2 60 44 by omega) (by omega)
abbrev Q_X12_wordEnd (h : Hp) (f : Int) : Option V → Hp → Nat → Nat → Prop := RI (fun x H => h = H ∧ (f ≤ x ∧ x ≤ H.2.2 60 44))
set_option maxRecDepth 100000 in
theorem ct_X12_wordEnd (l : Launch) (h : Hp) (hI : Inv h) (f : Int) (hf : I32 f) (g0 : 0 ≤ f ∧ f ≤ h.2.2 60 44) : Ct l D_X12_wordEnd 1 20 [.inr (.inr 60), .inl f] h (Q_X12_wordEnd h f) := by
  refine ct_of pn_X12_wordEnd (Nat.le_of_ble_eq_true rfl) ?_
  show To l E_X12_wordEnd (0, [(0, .inr (.inr 60)), (1, .inl f)], [], h, 0, 0) _
  refine to_iload_n (dat dk_X12_wordEnd 0 rfl) rfl (to_istore_n (L' := [(0, .inr (.inr 60)), (1, .inl f), (2, .inl f)]) (dat dk_X12_wordEnd 1 rfl) (by decide) rfl ?_)
  have lp2_n3 : ∀ (n3 : Nat) (y1 : Int), (I32 y1) → (f ≤ y1 ∧ y1 ≤ h.2.2 60 44) → (h.2.2 60 44 - y1 ≤ (n3 : Int)) → To l E_X12_wordEnd (2, [(0, .inr (.inr 60)), (1, .inl f), (2, .inl y1)], [], h, 0, 0) (Q_X12_wordEnd h f) := by
    intro n3
    induction n3 using Nat.strongRecOn with
    | _ n3 ihn3 =>
    intro y1 ry1 c2 c4
    refine to_iload_n (dat dk_X12_wordEnd 2 rfl) rfl (to_aload_n (dat dk_X12_wordEnd 3 rfl) rfl ?_)
    obtain ⟨x5, ex5⟩ : ∃ y : Int, h.2.2 60 44 = y := ⟨_, rfl⟩
    have rx5 := hI.atR (a := 60) (j := 44) rfl
    rw [ex5] at rx5
    refine to_getIv (y := x5) ex5 g_c13_412 (dat dk_X12_wordEnd 4 rfl) (hI.atS rfl) ?_
    refine to_ige 61 (dat dk_X12_wordEnd 5 rfl) rfl ry1 (by omega) (fun c6 => ?_) (fun c6 => ?_)
    · skip
      refine to_iload_n (dat dk_X12_wordEnd 32 rfl) rfl ?_
      exact to_iret rfl (dat dk_X12_wordEnd 33 rfl) (ri_mk ry1 ⟨rfl, (show f ≤ y1 ∧ y1 ≤ h.2.2 60 44 by omega)⟩)
    · skip
      refine to_aload_n (dat dk_X12_wordEnd 6 rfl) rfl (to_getR 88 g_c13_100 (dat dk_X12_wordEnd 7 rfl) (hI.atS rfl) (hI.atE rfl) (to_iload_n (dat dk_X12_wordEnd 8 rfl) rfl ?_))
      obtain ⟨x7, ex7⟩ : ∃ y : Int, h.2.2 88 (Int.toNat y1) = y := ⟨_, rfl⟩
      have rx7 := hI.atR (a := 88) (j := Int.toNat y1) rfl
      rw [ex7] at rx7
      refine to_baldv (q := 1) ex7 (dat dk_X12_wordEnd 9 rfl) (by decide) (hI.atS rfl) rfl (by decide) (by omega) ?_
      refine to_cI ca_c13_182 (dat dk_X12_wordEnd 10 rfl) (ct_X12_isBlank l h hI x7 (by omega)) rfl trivial rfl (fun x8 h9 rx8 p10 => ?_)
      obtain ⟨rfl, zx8⟩ := p10
      refine to_ifne 61 (dat dk_X12_wordEnd 11 rfl) rfl rx8 (fun c11 => ?_) (fun c11 => ?_)
      · skip
        refine to_iload_n (dat dk_X12_wordEnd 32 rfl) rfl ?_
        exact to_iret rfl (dat dk_X12_wordEnd 33 rfl) (ri_mk ry1 ⟨rfl, (show f ≤ y1 ∧ y1 ≤ h.2.2 60 44 by omega)⟩)
      · skip
        refine to_aload_n (dat dk_X12_wordEnd 12 rfl) rfl (to_getR 88 g_c13_100 (dat dk_X12_wordEnd 13 rfl) (hI.atS rfl) (hI.atE rfl) (to_iload_n (dat dk_X12_wordEnd 14 rfl) rfl ?_))
        obtain ⟨x12, ex12⟩ : ∃ y : Int, h.2.2 88 (Int.toNat y1) = y := ⟨_, rfl⟩
        have rx12 := hI.atR (a := 88) (j := Int.toNat y1) rfl
        rw [ex12] at rx12
        refine to_baldv (q := 1) ex12 (dat dk_X12_wordEnd 15 rfl) (by decide) (hI.atS rfl) rfl (by decide) (by omega) (to_bipush (dat dk_X12_wordEnd 16 rfl) (by decide) ?_)
        refine to_ieq 61 (dat dk_X12_wordEnd 17 rfl) rfl (by omega) (by decide) (fun c13 => ?_) (fun c13 => ?_)
        · skip
          refine to_iload_n (dat dk_X12_wordEnd 32 rfl) rfl ?_
          exact to_iret rfl (dat dk_X12_wordEnd 33 rfl) (ri_mk ry1 ⟨rfl, (show f ≤ y1 ∧ y1 ≤ h.2.2 60 44 by omega)⟩)
        · skip
          refine to_aload_n (dat dk_X12_wordEnd 18 rfl) rfl (to_getR 88 g_c13_100 (dat dk_X12_wordEnd 19 rfl) (hI.atS rfl) (hI.atE rfl) (to_iload_n (dat dk_X12_wordEnd 20 rfl) rfl ?_))
          obtain ⟨x14, ex14⟩ : ∃ y : Int, h.2.2 88 (Int.toNat y1) = y := ⟨_, rfl⟩
          have rx14 := hI.atR (a := 88) (j := Int.toNat y1) rfl
          rw [ex14] at rx14
          refine to_baldv (q := 1) ex14 (dat dk_X12_wordEnd 21 rfl) (by decide) (hI.atS rfl) rfl (by decide) (by omega) (to_bipush (dat dk_X12_wordEnd 22 rfl) (by decide) ?_)
          refine to_ieq 61 (dat dk_X12_wordEnd 23 rfl) rfl (by omega) (by decide) (fun c15 => ?_) (fun c15 => ?_)
          · skip
            refine to_iload_n (dat dk_X12_wordEnd 32 rfl) rfl ?_
            exact to_iret rfl (dat dk_X12_wordEnd 33 rfl) (ri_mk ry1 ⟨rfl, (show f ≤ y1 ∧ y1 ≤ h.2.2 60 44 by omega)⟩)
          · skip
            refine to_aload_n (dat dk_X12_wordEnd 24 rfl) rfl (to_getR 88 g_c13_100 (dat dk_X12_wordEnd 25 rfl) (hI.atS rfl) (hI.atE rfl) (to_iload_n (dat dk_X12_wordEnd 26 rfl) rfl ?_))
            obtain ⟨x16, ex16⟩ : ∃ y : Int, h.2.2 88 (Int.toNat y1) = y := ⟨_, rfl⟩
            have rx16 := hI.atR (a := 88) (j := Int.toNat y1) rfl
            rw [ex16] at rx16
            refine to_baldv (q := 1) ex16 (dat dk_X12_wordEnd 27 rfl) (by decide) (hI.atS rfl) rfl (by decide) (by omega) (to_bipush (dat dk_X12_wordEnd 28 rfl) (by decide) ?_)
            refine to_ieq 61 (dat dk_X12_wordEnd 29 rfl) rfl (by omega) (by decide) (fun c17 => ?_) (fun c17 => ?_)
            · skip
              refine to_iload_n (dat dk_X12_wordEnd 32 rfl) rfl ?_
              exact to_iret rfl (dat dk_X12_wordEnd 33 rfl) (ri_mk ry1 ⟨rfl, (show f ≤ y1 ∧ y1 ≤ h.2.2 60 44 by omega)⟩)
            · skip
              refine to_iinc (L' := [(0, .inr (.inr 60)), (1, .inl f), (2, .inl (y1 + 1))]) (dat dk_X12_wordEnd 30 rfl) rfl (by decide) rfl (to_goto (dat dk_X12_wordEnd 31 rfl) rfl ?_)
              exact ihn3 (n3 - 1) (by omega) (y1 + 1) (by omega) (show f ≤ (y1 + 1) ∧ (y1 + 1) ≤ h.2.2 60 44 by omega) (show h.2.2 60 44 - (y1 + 1) ≤ ((n3 - 1 : Nat) : Int) by omega)
  exact lp2_n3 (h.2.2 60 44 - f).toNat f hf (show f ≤ f ∧ f ≤ h.2.2 60 44 by omega) (by omega)
abbrev Q_X12_isNumber (h : Hp) (f : Int) (g : Int) : Option V → Hp → Nat → Nat → Prop := RI (fun x H => h = H ∧ (x = 0 ∨ x = 1))
set_option maxRecDepth 100000 in
theorem ct_X12_isNumber (l : Launch) (h : Hp) (hI : Inv h) (f : Int) (hf : I32 f) (g : Int) (hg : I32 g) (g0 : 0 ≤ f ∧ f ≤ 1200) (g1 : 0 ≤ g ∧ g ≤ 1200) : Ct l D_X12_isNumber 1 20 [.inr (.inr 60), .inl f, .inl g] h (Q_X12_isNumber h f g) := by
  refine ct_of pn_X12_isNumber (Nat.le_of_ble_eq_true rfl) ?_
  show To l E_X12_isNumber (0, [(0, .inr (.inr 60)), (1, .inl f), (2, .inl g)], [], h, 0, 0) _
  refine to_iload_n (dat dk_X12_isNumber 0 rfl) rfl (to_iload_n (dat dk_X12_isNumber 1 rfl) rfl (to_isub (dat dk_X12_isNumber 2 rfl) (to_iconst (dat dk_X12_isNumber 3 rfl) ?_)))
  refine to_ilt 15 (dat dk_X12_isNumber 4 rfl) rfl (by omega) (by decide) (fun c1 => ?_) (fun c1 => ?_)
  · skip
    refine to_iconst (dat dk_X12_isNumber 10 rfl) ?_
    exact to_zret rfl (dat dk_X12_isNumber 11 rfl) (by decide) (ri_mk (by decide) ⟨rfl, (by decide)⟩)
  · skip
    refine to_iload_n (dat dk_X12_isNumber 5 rfl) rfl (to_iload_n (dat dk_X12_isNumber 6 rfl) rfl (to_isub (dat dk_X12_isNumber 7 rfl) (to_bipush (dat dk_X12_isNumber 8 rfl) (by decide) ?_)))
    refine to_ile 17 (dat dk_X12_isNumber 9 rfl) rfl (by omega) (by decide) (fun c2 => ?_) (fun c2 => ?_)
    · skip
      refine to_iload_n (dat dk_X12_isNumber 12 rfl) rfl (to_istore_n (L' := [(0, .inr (.inr 60)), (1, .inl f), (2, .inl g), (3, .inl f)]) (dat dk_X12_isNumber 13 rfl) (by decide) rfl ?_)
      have lp19_n5 : ∀ (n5 : Nat) (y3 : Int), (I32 y3) → (f ≤ y3) → (g - y3 ≤ (n5 : Int)) → To l E_X12_isNumber (19, [(0, .inr (.inr 60)), (1, .inl f), (2, .inl g), (3, .inl y3)], [], h, 0, 0) (Q_X12_isNumber h f g) := by
        intro n5
        induction n5 using Nat.strongRecOn with
        | _ n5 ihn5 =>
        intro y3 ry3 c4 c6
        refine to_iload_n (dat dk_X12_isNumber 14 rfl) rfl (to_iload_n (dat dk_X12_isNumber 15 rfl) rfl ?_)
        refine to_ige 44 (dat dk_X12_isNumber 16 rfl) rfl ry3 hg (fun c7 => ?_) (fun c7 => ?_)
        · skip
          refine to_iconst (dat dk_X12_isNumber 27 rfl) ?_
          exact to_zret rfl (dat dk_X12_isNumber 28 rfl) (by decide) (ri_mk (by decide) ⟨rfl, (by decide)⟩)
        · skip
          refine to_aload_n (dat dk_X12_isNumber 17 rfl) rfl (to_getR 88 g_c13_100 (dat dk_X12_isNumber 18 rfl) (hI.atS rfl) (hI.atE rfl) (to_iload_n (dat dk_X12_isNumber 19 rfl) rfl ?_))
          obtain ⟨x8, ex8⟩ : ∃ y : Int, h.2.2 88 (Int.toNat y3) = y := ⟨_, rfl⟩
          have rx8 := hI.atR (a := 88) (j := Int.toNat y3) rfl
          rw [ex8] at rx8
          refine to_baldv (q := 1) ex8 (dat dk_X12_isNumber 20 rfl) (by decide) (hI.atS rfl) rfl (by decide) (by omega) ?_
          refine to_cI ca_c13_161 (dat dk_X12_isNumber 21 rfl) (ct_X12_isDigit l h hI x8 (by omega)) rfl trivial rfl (fun x9 h10 rx9 p11 => ?_)
          obtain ⟨rfl, zx9, p11_0⟩ := p11
          refine to_ifne 38 (dat dk_X12_isNumber 22 rfl) rfl rx9 (fun c12 => ?_) (fun c12 => ?_)
          · skip
            refine to_iinc (L' := [(0, .inr (.inr 60)), (1, .inl f), (2, .inl g), (3, .inl (y3 + 1))]) (dat dk_X12_isNumber 25 rfl) rfl (by decide) rfl (to_goto (dat dk_X12_isNumber 26 rfl) rfl ?_)
            exact ihn5 (n5 - 1) (by omega) (y3 + 1) (by omega) (show f ≤ (y3 + 1) by omega) (show g - (y3 + 1) ≤ ((n5 - 1 : Nat) : Int) by omega)
          · skip
            refine to_iconst (dat dk_X12_isNumber 23 rfl) ?_
            exact to_zret rfl (dat dk_X12_isNumber 24 rfl) (by decide) (ri_mk (by decide) ⟨rfl, (by decide)⟩)
      exact lp19_n5 (g - f).toNat f hf (show f ≤ f by omega) (by omega)
    · skip
      refine to_iconst (dat dk_X12_isNumber 10 rfl) ?_
      exact to_zret rfl (dat dk_X12_isNumber 11 rfl) (by decide) (ri_mk (by decide) ⟨rfl, (by decide)⟩)
abbrev Q_X12_day (h : Hp) (f : Int) : Option V → Hp → Nat → Nat → Prop := RLo (fun x H => h = H)
set_option maxRecDepth 100000 in
theorem ct_X12_day (l : Launch) (h : Hp) (hI : Inv h) (f : Int) (hf : I32 f) (g0 : 0 ≤ f ∧ f + 8 ≤ 1200) : Ct l D_X12_day 3 66 [.inr (.inr 60), .inl f] h (Q_X12_day h f) := by
  refine ct_of pn_X12_day (Nat.le_of_ble_eq_true rfl) ?_
  show To l E_X12_day (0, [(0, .inr (.inr 60)), (1, .inl f)], [], h, 0, 0) _
  refine to_iconst (dat dk_X12_day 0 rfl) (to_istore_n (L' := [(0, .inr (.inr 60)), (1, .inl f), (2, .inl 0)]) (dat dk_X12_day 1 rfl) (by decide) rfl (to_iload_n (dat dk_X12_day 2 rfl) rfl (to_istore_n (L' := [(0, .inr (.inr 60)), (1, .inl f), (2, .inl 0), (3, .inl f)]) (dat dk_X12_day 3 rfl) (by decide) rfl ?_)))
  have lp4_n4 : ∀ (n4 : Nat) (y1 : Int) (y2 : Int), (I32 y1) → (I32 y2) → (f ≤ y2) → (f + 8 - y2 ≤ (n4 : Int)) → To l E_X12_day (4, [(0, .inr (.inr 60)), (1, .inl f), (2, .inl y1), (3, .inl y2)], [], h, 0, 0) (Q_X12_day h f) := by
    intro n4
    induction n4 using Nat.strongRecOn with
    | _ n4 ihn4 =>
    intro y1 y2 ry1 ry2 c3 c5
    refine to_iload_n (dat dk_X12_day 4 rfl) rfl (to_iload_n (dat dk_X12_day 5 rfl) rfl (to_bipush (dat dk_X12_day 6 rfl) (by decide) (to_iadd (dat dk_X12_day 7 rfl) ?_)))
    refine to_ige 49 (dat dk_X12_day 8 rfl) rfl ry2 (by omega) (fun c6 => ?_) (fun c6 => ?_)
    · skip
      refine to_iload_n (dat dk_X12_day 30 rfl) rfl (to_sipush (dat dk_X12_day 31 rfl) (by decide) ?_)
      refine to_idiv (dat dk_X12_day 32 rfl) (by decide) (fun x7 rx7 => ?_)
      refine to_istore_n (L' := [(0, .inr (.inr 60)), (1, .inl f), (2, .inl y1), (3, .inl x7)]) (dat dk_X12_day 33 rfl) (by decide) rfl (to_iload_n (dat dk_X12_day 34 rfl) rfl (to_bipush (dat dk_X12_day 35 rfl) (by decide) ?_))
      refine to_idiv (dat dk_X12_day 36 rfl) (by decide) (fun x8 rx8 => ?_)
      refine to_bipush (dat dk_X12_day 37 rfl) (by decide) ?_
      refine to_irem (dat dk_X12_day 38 rfl) (by decide) (fun x9 rx9 => ?_)
      refine to_istore (L' := [(0, .inr (.inr 60)), (1, .inl f), (2, .inl y1), (3, .inl x7), (4, .inl x9)]) (dat dk_X12_day 39 rfl) (by decide) rfl (to_iload (dat dk_X12_day 40 rfl) rfl (to_iconst (dat dk_X12_day 41 rfl) ?_))
      refine to_ilt 98 (dat dk_X12_day 42 rfl) rfl rx9 (by decide) (fun c10 => ?_) (fun c10 => ?_)
      · skip
        refine to_ldc2 (v := (-1)) (x := -1) (tin 8 13 (by decide +kernel) rfl) (by decide +kernel) (dat dk_X12_day 58 rfl) (to_goto (dat dk_X12_day 59 rfl) rfl ?_)
        exact to_lret rfl (dat dk_X12_day 66 rfl) (rl_mk rfl)
      · skip
        refine to_iload (dat dk_X12_day 43 rfl) rfl (to_bipush (dat dk_X12_day 44 rfl) (by decide) ?_)
        refine to_igt 98 (dat dk_X12_day 45 rfl) rfl rx9 (by decide) (fun c11 => ?_) (fun c11 => ?_)
        · skip
          refine to_ldc2 (v := (-1)) (x := -1) (tin 8 13 (by decide +kernel) rfl) (by decide +kernel) (dat dk_X12_day 58 rfl) (to_goto (dat dk_X12_day 59 rfl) rfl ?_)
          exact to_lret rfl (dat dk_X12_day 66 rfl) (rl_mk rfl)
        · skip
          refine to_iload_n (dat dk_X12_day 46 rfl) rfl (to_bipush (dat dk_X12_day 47 rfl) (by decide) ?_)
          refine to_irem (dat dk_X12_day 48 rfl) (by decide) (fun x12 rx12 => ?_)
          refine to_iconst (dat dk_X12_day 49 rfl) ?_
          refine to_ilt 98 (dat dk_X12_day 50 rfl) rfl rx12 (by decide) (fun c13 => ?_) (fun c13 => ?_)
          · skip
            refine to_ldc2 (v := (-1)) (x := -1) (tin 8 13 (by decide +kernel) rfl) (by decide +kernel) (dat dk_X12_day 58 rfl) (to_goto (dat dk_X12_day 59 rfl) rfl ?_)
            exact to_lret rfl (dat dk_X12_day 66 rfl) (rl_mk rfl)
          · skip
            refine to_iload_n (dat dk_X12_day 51 rfl) rfl (to_bipush (dat dk_X12_day 52 rfl) (by decide) ?_)
            refine to_irem (dat dk_X12_day 53 rfl) (by decide) (fun x14 rx14 => ?_)
            refine to_iload_n (dat dk_X12_day 54 rfl) rfl (to_iload (dat dk_X12_day 55 rfl) rfl ?_)
            refine to_cI ca_c13_305 (dat dk_X12_day 56 rfl) (ct_X12_monthDays l h hI x7 rx7 x9 rx9) rfl trivial rfl (fun x15 h16 rx15 p17 => ?_)
            obtain ⟨rfl, p17_0⟩ := p17
            refine to_ile 104 (dat dk_X12_day 57 rfl) rfl rx14 rx15 (fun c18 => ?_) (fun c18 => ?_)
            · skip
              refine to_iload_n (dat dk_X12_day 60 rfl) rfl (to_iload (dat dk_X12_day 61 rfl) rfl (to_iload_n (dat dk_X12_day 62 rfl) rfl (to_bipush (dat dk_X12_day 63 rfl) (by decide) ?_)))
              refine to_irem (dat dk_X12_day 64 rfl) (by decide) (fun x19 rx19 => ?_)
              refine to_cL ca_c13_332 (dat dk_X12_day 65 rfl) (ct_X12_days l h hI x7 rx7 x9 rx9 x19 rx19) rfl trivial rfl (fun x20 h21 p22 => ?_)
              subst p22
              exact to_lret rfl (dat dk_X12_day 66 rfl) (rl_mk rfl)
            · skip
              refine to_ldc2 (v := (-1)) (x := -1) (tin 8 13 (by decide +kernel) rfl) (by decide +kernel) (dat dk_X12_day 58 rfl) (to_goto (dat dk_X12_day 59 rfl) rfl ?_)
              exact to_lret rfl (dat dk_X12_day 66 rfl) (rl_mk rfl)
    · skip
      refine to_aload_n (dat dk_X12_day 9 rfl) rfl (to_getR 88 g_c13_100 (dat dk_X12_day 10 rfl) (hI.atS rfl) (hI.atE rfl) (to_iload_n (dat dk_X12_day 11 rfl) rfl ?_))
      obtain ⟨x23, ex23⟩ : ∃ y : Int, h.2.2 88 (Int.toNat y2) = y := ⟨_, rfl⟩
      have rx23 := hI.atR (a := 88) (j := Int.toNat y2) rfl
      rw [ex23] at rx23
      refine to_baldv (q := 1) ex23 (dat dk_X12_day 12 rfl) (by decide) (hI.atS rfl) rfl (by decide) (by omega) ?_
      refine to_cI ca_c13_161 (dat dk_X12_day 13 rfl) (ct_X12_isDigit l h hI x23 (by omega)) rfl trivial rfl (fun x24 h25 rx24 p26 => ?_)
      obtain ⟨rfl, zx24, p26_0⟩ := p26
      refine to_ifne 28 (dat dk_X12_day 14 rfl) rfl rx24 (fun c27 => ?_) (fun c27 => ?_)
      · skip
        refine to_bipush (dat dk_X12_day 17 rfl) (by decide) (to_iload_n (dat dk_X12_day 18 rfl) rfl ?_)
        refine to_imulA (dat dk_X12_day 19 rfl) (fun x28 rx28 => ?_)
        refine to_aload_n (dat dk_X12_day 20 rfl) rfl (to_getR 88 g_c13_100 (dat dk_X12_day 21 rfl) (hI.atS rfl) (hI.atE rfl) (to_iload_n (dat dk_X12_day 22 rfl) rfl ?_))
        obtain ⟨x29, ex29⟩ : ∃ y : Int, h.2.2 88 (Int.toNat y2) = y := ⟨_, rfl⟩
        have rx29 := hI.atR (a := 88) (j := Int.toNat y2) rfl
        rw [ex29] at rx29
        refine to_baldv (q := 1) ex29 (dat dk_X12_day 23 rfl) (by decide) (hI.atS rfl) rfl (by decide) (by omega) ?_
        refine to_iaddA (dat dk_X12_day 24 rfl) (fun x30 rx30 => ?_)
        refine to_bipush (dat dk_X12_day 25 rfl) (by decide) ?_
        refine to_isubA (dat dk_X12_day 26 rfl) (fun x31 rx31 => ?_)
        refine to_istore_n (L' := [(0, .inr (.inr 60)), (1, .inl f), (2, .inl x31), (3, .inl y2)]) (dat dk_X12_day 27 rfl) (by decide) rfl (to_iinc (L' := [(0, .inr (.inr 60)), (1, .inl f), (2, .inl x31), (3, .inl (y2 + 1))]) (dat dk_X12_day 28 rfl) rfl (by decide) rfl (to_goto (dat dk_X12_day 29 rfl) rfl ?_))
        exact ihn4 (n4 - 1) (by omega) x31 (y2 + 1) rx31 (by omega) (show f ≤ (y2 + 1) by omega) (show f + 8 - (y2 + 1) ≤ ((n4 - 1 : Nat) : Int) by omega)
      · skip
        refine to_ldc2 (v := (-1)) (x := -1) (tin 8 13 (by decide +kernel) rfl) (by decide +kernel) (dat dk_X12_day 15 rfl) ?_
        exact to_lret rfl (dat dk_X12_day 16 rfl) (rl_mk rfl)
  exact lp4_n4 (f + 8 - f).toNat 0 f (by decide) hf (show f ≤ f by omega) (by omega)
abbrev Q_X12_just (h : Hp) (a : Nat) (f : Int) (g : Int) (w nw : Nat) : Option V → Hp → Nat → Nat → Prop := RI (fun x H => h = H ∧ (x = 0 ∨ x = 1))
set_option maxRecDepth 100000 in
theorem ct_X12_just (l : Launch) (h : Hp) (hI : Inv h) (a : Nat) (na : Nat) (ha : isA a na = true) (f : Int) (hf : I32 f) (g : Int) (hg : I32 g) (w nw : Nat) (hw : (w, nw) ∈ saL) (g0 : 0 ≤ f ∧ f ≤ 640000) (g1 : -1 ≤ g ∧ g ≤ (na : Int)) : Ct l D_X12_just 0 0 [.inr (.inr a), .inl f, .inl g, .inr (.inr w)] h (Q_X12_just h a f g w nw) := by
  refine ct_of pn_X12_just (Nat.le_of_ble_eq_true rfl) ?_
  show To l E_X12_just (0, [(0, .inr (.inr a)), (1, .inl f), (2, .inl g), (3, .inr (.inr w))], [], h, 0, 0) _
  have la := isA_le ha
  have lw := sa_n hw
  refine to_iload_n (dat dk_X12_just 0 rfl) rfl (to_iload_n (dat dk_X12_just 1 rfl) rfl (to_isub (dat dk_X12_just 2 rfl) (to_aload_np (dat dk_X12_just 3 rfl) (sa_pos hw) rfl (to_saLen hw (dat dk_X12_just 4 rfl) ?_))))
  refine to_ieq 10 (dat dk_X12_just 5 rfl) rfl (by omega) (by omega) (fun c1 => ?_) (fun c1 => ?_)
  · skip
    refine to_iconst (dat dk_X12_just 8 rfl) (to_istore (L' := [(0, .inr (.inr a)), (1, .inl f), (2, .inl g), (3, .inr (.inr w)), (4, .inl 0)]) (dat dk_X12_just 9 rfl) (by decide) rfl ?_)
    have lp13_n4 : ∀ (n4 : Nat) (y2 : Int), (I32 y2) → (0 ≤ y2) → ((nw : Int) - y2 ≤ (n4 : Int)) → To l E_X12_just (13, [(0, .inr (.inr a)), (1, .inl f), (2, .inl g), (3, .inr (.inr w)), (4, .inl y2)], [], h, 0, 0) (Q_X12_just h a f g w nw) := by
      intro n4
      induction n4 using Nat.strongRecOn with
      | _ n4 ihn4 =>
      intro y2 ry2 c3 c5
      refine to_iload (dat dk_X12_just 10 rfl) rfl (to_aload_np (dat dk_X12_just 11 rfl) (sa_pos hw) rfl (to_saLen hw (dat dk_X12_just 12 rfl) ?_))
      refine to_ige 41 (dat dk_X12_just 13 rfl) rfl ry2 (by omega) (fun c6 => ?_) (fun c6 => ?_)
      · skip
        refine to_iconst (dat dk_X12_just 27 rfl) ?_
        exact to_zret rfl (dat dk_X12_just 28 rfl) (by decide) (ri_mk (by decide) ⟨rfl, (by decide)⟩)
      · skip
        refine to_aload_np (dat dk_X12_just 14 rfl) (hI.posN (hI.aT ha)) rfl (to_iload_n (dat dk_X12_just 15 rfl) rfl (to_iload (dat dk_X12_just 16 rfl) rfl (to_iadd (dat dk_X12_just 17 rfl) ?_)))
        obtain ⟨x7, ex7⟩ : ∃ y : Int, h.2.2 a (Int.toNat (f + y2)) = y := ⟨_, rfl⟩
        have rx7 := hI.aC (j := Int.toNat (f + y2)) ha
        rw [ex7] at rx7
        refine to_baldv (q := 1) ex7 (dat dk_X12_just 18 rfl) (by decide) (hI.aT ha) rfl (isA_n ha) (by omega) (to_aload_np (dat dk_X12_just 19 rfl) (sa_pos hw) rfl (to_iload (dat dk_X12_just 20 rfl) rfl ?_))
        refine to_saInt hw (dat dk_X12_just 21 rfl) (by omega) (fun x8 rx8 => ?_)
        refine to_ieq 35 (dat dk_X12_just 22 rfl) rfl (by omega) (by omega) (fun c9 => ?_) (fun c9 => ?_)
        · skip
          refine to_iinc (L' := [(0, .inr (.inr a)), (1, .inl f), (2, .inl g), (3, .inr (.inr w)), (4, .inl (y2 + 1))]) (dat dk_X12_just 25 rfl) rfl (by decide) rfl (to_goto (dat dk_X12_just 26 rfl) rfl ?_)
          exact ihn4 (n4 - 1) (by omega) (y2 + 1) (by omega) (show 0 ≤ (y2 + 1) by omega) (show (nw : Int) - (y2 + 1) ≤ ((n4 - 1 : Nat) : Int) by omega)
        · skip
          refine to_iconst (dat dk_X12_just 23 rfl) ?_
          exact to_zret rfl (dat dk_X12_just 24 rfl) (by decide) (ri_mk (by decide) ⟨rfl, (by decide)⟩)
    exact lp13_n4 ((nw : Int) - (0 : Int)).toNat 0 (by decide) (show 0 ≤ (0 : Int) by omega) (by omega)
  · skip
    refine to_iconst (dat dk_X12_just 6 rfl) ?_
    exact to_zret rfl (dat dk_X12_just 7 rfl) (by decide) (ri_mk (by decide) ⟨rfl, (by decide)⟩)
abbrev Q_X12_moveTag (h : Hp) (m : Int) (f : Int) (g : Int) : Option V → Hp → Nat → Nat → Prop := RV (fun H => Inv H ∧ Fr [66, 67] h H)
set_option maxRecDepth 100000 in
theorem ct_X12_moveTag (l : Launch) (h : Hp) (hI : Inv h) (m : Int) (hm : I32 m) (f : Int) (hf : I32 f) (g : Int) (hg : I32 g) (g0 : 0 ≤ m ∧ m ≤ 199) (g1 : 0 ≤ f ∧ f ≤ 7) (g2 : 0 ≤ g ∧ g ≤ 7) : Ct l D_X12_moveTag 0 0 [.inr (.inr 60), .inl m, .inl f, .inl g] h (Q_X12_moveTag h m f g) := by
  refine ct_of pn_X12_moveTag (Nat.le_of_ble_eq_true rfl) ?_
  show To l E_X12_moveTag (0, [(0, .inr (.inr 60)), (1, .inl m), (2, .inl f), (3, .inl g)], [], h, 0, 0) _
  refine to_iconst (dat dk_X12_moveTag 0 rfl) (to_istore (L' := [(0, .inr (.inr 60)), (1, .inl m), (2, .inl f), (3, .inl g), (4, .inl 0)]) (dat dk_X12_moveTag 1 rfl) (by decide) rfl ?_)
  have lp3_n4 : ∀ (n4 : Nat) (y1 : Int) (h2 : Hp), (I32 y1) → (Inv h2) → (Fr [66, 67] h h2) → (0 ≤ y1) → (12 - y1 ≤ (n4 : Int)) → To l E_X12_moveTag (3, [(0, .inr (.inr 60)), (1, .inl m), (2, .inl f), (3, .inl g), (4, .inl y1)], [], h2, 0, 0) (Q_X12_moveTag h m f g) := by
    intro n4
    induction n4 using Nat.strongRecOn with
    | _ n4 ihn4 =>
    intro y1 h2 ry1 Ih2 fh2 c3 c5
    refine to_iload (dat dk_X12_moveTag 2 rfl) rfl (to_bipush (dat dk_X12_moveTag 3 rfl) (by decide) ?_)
    refine to_ige 50 (dat dk_X12_moveTag 4 rfl) rfl ry1 (by decide) (fun c6 => ?_) (fun c6 => ?_)
    · skip
      refine to_aload_n (dat dk_X12_moveTag 31 rfl) rfl (to_getR 67 g_c13_31 (dat dk_X12_moveTag 32 rfl) (Ih2.atS rfl) (Ih2.atE rfl) (to_bipush (dat dk_X12_moveTag 33 rfl) (by decide) (to_iload_n (dat dk_X12_moveTag 34 rfl) rfl (to_imul (dat dk_X12_moveTag 35 rfl) (to_iload_n (dat dk_X12_moveTag 36 rfl) rfl (to_iadd (dat dk_X12_moveTag 37 rfl) (to_aload_n (dat dk_X12_moveTag 38 rfl) rfl (to_getR 67 g_c13_31 (dat dk_X12_moveTag 39 rfl) (Ih2.atS rfl) (Ih2.atE rfl) (to_bipush (dat dk_X12_moveTag 40 rfl) (by decide) (to_iload_n (dat dk_X12_moveTag 41 rfl) rfl (to_imul (dat dk_X12_moveTag 42 rfl) (to_iload_n (dat dk_X12_moveTag 43 rfl) rfl (to_iadd (dat dk_X12_moveTag 44 rfl) ?_)))))))))))))
      obtain ⟨x7, ex7⟩ : ∃ y : Int, h2.2.2 67 (Int.toNat ((8 * m) + f)) = y := ⟨_, rfl⟩
      have rx7 := Ih2.atR (a := 67) (j := Int.toNat ((8 * m) + f)) rfl
      rw [ex7] at rx7
      refine to_ialdv ex7 (dat dk_X12_moveTag 45 rfl) (Ih2.atS rfl) rfl (by decide) (by omega) (to_iastw (dat dk_X12_moveTag 46 rfl) (Ih2.atS rfl) rfl (by decide) (by omega) ?_)
      intro h10 wh10
      have I8 : Inv h10 := by rw [wh10]; exact Ih2.put (a := 67) (j := (Int.toNat ((8 * m) + g))) (x := x7) (0) (12) rfl rfl (show (0 : Int) ≤ x7 ∧ x7 ≤ 12 by omega)
      have f9 : Fr [66, 67] h h10 := by rw [wh10]; exact Fr.putF (a := 67) (j := (Int.toNat ((8 * m) + g))) (x := x7) fh2 rfl
      exact to_vret rfl (dat dk_X12_moveTag 47 rfl) (rv_mk ⟨I8, f9⟩)
    · skip
      refine to_aload_n (dat dk_X12_moveTag 5 rfl) rfl (to_getR 66 g_c13_28 (dat dk_X12_moveTag 6 rfl) (Ih2.atS rfl) (Ih2.atE rfl) (to_bipush (dat dk_X12_moveTag 7 rfl) (by decide) (to_bipush (dat dk_X12_moveTag 8 rfl) (by decide) (to_iload_n (dat dk_X12_moveTag 9 rfl) rfl (to_imul (dat dk_X12_moveTag 10 rfl) (to_iload_n (dat dk_X12_moveTag 11 rfl) rfl (to_iadd (dat dk_X12_moveTag 12 rfl) (to_imul (dat dk_X12_moveTag 13 rfl) (to_iload (dat dk_X12_moveTag 14 rfl) rfl (to_iadd (dat dk_X12_moveTag 15 rfl) (to_aload_n (dat dk_X12_moveTag 16 rfl) rfl (to_getR 66 g_c13_28 (dat dk_X12_moveTag 17 rfl) (Ih2.atS rfl) (Ih2.atE rfl) (to_bipush (dat dk_X12_moveTag 18 rfl) (by decide) (to_bipush (dat dk_X12_moveTag 19 rfl) (by decide) (to_iload_n (dat dk_X12_moveTag 20 rfl) rfl (to_imul (dat dk_X12_moveTag 21 rfl) (to_iload_n (dat dk_X12_moveTag 22 rfl) rfl (to_iadd (dat dk_X12_moveTag 23 rfl) (to_imul (dat dk_X12_moveTag 24 rfl) (to_iload (dat dk_X12_moveTag 25 rfl) rfl (to_iadd (dat dk_X12_moveTag 26 rfl) ?_)))))))))))))))))))))
      obtain ⟨x11, ex11⟩ : ∃ y : Int, h2.2.2 66 (Int.toNat ((12 * ((8 * m) + f)) + y1)) = y := ⟨_, rfl⟩
      have rx11 := Ih2.atR (a := 66) (j := Int.toNat ((12 * ((8 * m) + f)) + y1)) rfl
      rw [ex11] at rx11
      refine to_baldv (q := 1) ex11 (dat dk_X12_moveTag 27 rfl) (by decide) (Ih2.atS rfl) rfl (by decide) (by omega) (to_bastw (dat dk_X12_moveTag 28 rfl) (Ih2.atS rfl) rfl (by decide) (by omega) ?_)
      intro h14 wh14
      have I12 : Inv h14 := by rw [wh14]; exact Ih2.put (a := 66) (j := (Int.toNat ((12 * ((8 * m) + g)) + y1))) (x := (b8 x11)) (-128) (127) rfl rfl (show (-128 : Int) ≤ (b8 x11) ∧ (b8 x11) ≤ 127 by have := b8_in x11; omega)
      have f13 : Fr [66, 67] h h14 := by rw [wh14]; exact Fr.putF (a := 66) (j := (Int.toNat ((12 * ((8 * m) + g)) + y1))) (x := (b8 x11)) fh2 rfl
      refine to_iinc (L' := [(0, .inr (.inr 60)), (1, .inl m), (2, .inl f), (3, .inl g), (4, .inl (y1 + 1))]) (dat dk_X12_moveTag 29 rfl) rfl (by decide) rfl (to_goto (dat dk_X12_moveTag 30 rfl) rfl ?_)
      exact ihn4 (n4 - 1) (by omega) (y1 + 1) h14 (by omega) I12 f13 (show 0 ≤ (y1 + 1) by omega) (show 12 - (y1 + 1) ≤ ((n4 - 1 : Nat) : Int) by omega)
  exact lp3_n4 (12 - (0 : Int)).toNat 0 h (by decide) hI (Fr.rf _ _) (show 0 ≤ (0 : Int) by omega) (by omega)
abbrev Q_X12_tagAt (h : Hp) (m : Int) (a : Nat) (f : Int) (n : Int) : Option V → Hp → Nat → Nat → Prop := RI (fun x H => h = H ∧ (-9 ≤ x ∧ x ≤ 7) ∧ (-1 - H.2.2 68 (Int.toNat m) ≤ x ∧ x < H.2.2 68 (Int.toNat m)))
set_option maxRecDepth 100000 in
theorem ct_X12_tagAt (l : Launch) (h : Hp) (hI : Inv h) (m : Int) (hm : I32 m) (a : Nat) (na : Nat) (ha : isA a na = true) (f : Int) (hf : I32 f) (n : Int) (hn : I32 n) (g0 : 0 ≤ m ∧ m ≤ 199) (g1 : 0 ≤ f) (g2 : 0 ≤ n) (g3 : f + n ≤ (na : Int)) : Ct l D_X12_tagAt 0 0 [.inr (.inr 60), .inl m, .inr (.inr a), .inl f, .inl n] h (Q_X12_tagAt h m a f n) := by
  refine ct_of pn_X12_tagAt (Nat.le_of_ble_eq_true rfl) ?_
  show To l E_X12_tagAt (0, [(0, .inr (.inr 60)), (1, .inl m), (2, .inr (.inr a)), (3, .inl f), (4, .inl n)], [], h, 0, 0) _
  have la := isA_le ha
  refine to_iconst (dat dk_X12_tagAt 0 rfl) (to_istore (L' := [(0, .inr (.inr 60)), (1, .inl m), (2, .inr (.inr a)), (3, .inl f), (4, .inl n), (5, .inl 0)]) (dat dk_X12_tagAt 1 rfl) (by decide) rfl ?_)
  have lp3_n3 : ∀ (n3 : Nat) (y1 : Int), (I32 y1) → (0 ≤ y1) → (9 - y1 ≤ (n3 : Int)) → To l E_X12_tagAt (3, [(0, .inr (.inr 60)), (1, .inl m), (2, .inr (.inr a)), (3, .inl f), (4, .inl n), (5, .inl y1)], [], h, 0, 0) (Q_X12_tagAt h m a f n) := by
    intro n3
    induction n3 using Nat.strongRecOn with
    | _ n3 ihn3 =>
    intro y1 ry1 c2 c4
    refine to_iload (dat dk_X12_tagAt 2 rfl) rfl (to_aload_n (dat dk_X12_tagAt 3 rfl) rfl (to_getR 68 g_c13_34 (dat dk_X12_tagAt 4 rfl) (hI.atS rfl) (hI.atE rfl) (to_iload_n (dat dk_X12_tagAt 5 rfl) rfl ?_)))
    obtain ⟨x5, ex5⟩ : ∃ y : Int, h.2.2 68 (Int.toNat m) = y := ⟨_, rfl⟩
    have rx5 := hI.atR (a := 68) (j := Int.toNat m) rfl
    rw [ex5] at rx5
    refine to_ialdv ex5 (dat dk_X12_tagAt 6 rfl) (hI.atS rfl) rfl (by decide) (by omega) ?_
    refine to_ige 147 (dat dk_X12_tagAt 7 rfl) rfl ry1 (by omega) (fun c6 => ?_) (fun c6 => ?_)
    · skip
      refine to_iconst (dat dk_X12_tagAt 83 rfl) (to_aload_n (dat dk_X12_tagAt 84 rfl) rfl (to_getR 68 g_c13_34 (dat dk_X12_tagAt 85 rfl) (hI.atS rfl) (hI.atE rfl) (to_iload_n (dat dk_X12_tagAt 86 rfl) rfl ?_)))
      obtain ⟨x7, ex7⟩ : ∃ y : Int, h.2.2 68 (Int.toNat m) = y := ⟨_, rfl⟩
      have rx7 := hI.atR (a := 68) (j := Int.toNat m) rfl
      rw [ex7] at rx7
      refine to_ialdv ex7 (dat dk_X12_tagAt 87 rfl) (hI.atS rfl) rfl (by decide) (by omega) (to_isub (dat dk_X12_tagAt 88 rfl) ?_)
      exact to_iret rfl (dat dk_X12_tagAt 89 rfl) (ri_mk (by omega) ⟨rfl, (show -9 ≤ ((-1) - x7) ∧ ((-1) - x7) ≤ 7 by omega), (show -1 - h.2.2 68 (Int.toNat m) ≤ ((-1) - x7) ∧ ((-1) - x7) < h.2.2 68 (Int.toNat m) by omega)⟩)
    · skip
      refine to_aload_n (dat dk_X12_tagAt 8 rfl) rfl (to_getR 67 g_c13_31 (dat dk_X12_tagAt 9 rfl) (hI.atS rfl) (hI.atE rfl) (to_bipush (dat dk_X12_tagAt 10 rfl) (by decide) (to_iload_n (dat dk_X12_tagAt 11 rfl) rfl (to_imul (dat dk_X12_tagAt 12 rfl) (to_iload (dat dk_X12_tagAt 13 rfl) rfl (to_iadd (dat dk_X12_tagAt 14 rfl) ?_))))))
      obtain ⟨x8, ex8⟩ : ∃ y : Int, h.2.2 67 (Int.toNat ((8 * m) + y1)) = y := ⟨_, rfl⟩
      have rx8 := hI.atR (a := 67) (j := Int.toNat ((8 * m) + y1)) rfl
      rw [ex8] at rx8
      refine to_ialdv ex8 (dat dk_X12_tagAt 15 rfl) (hI.atS rfl) rfl (by decide) (by omega) (to_istore (L' := [(0, .inr (.inr 60)), (1, .inl m), (2, .inr (.inr a)), (3, .inl f), (4, .inl n), (5, .inl y1), (6, .inl x8)]) (dat dk_X12_tagAt 16 rfl) (by decide) rfl (to_iconst (dat dk_X12_tagAt 17 rfl) (to_istore (L' := [(0, .inr (.inr 60)), (1, .inl m), (2, .inr (.inr a)), (3, .inl f), (4, .inl n), (5, .inl y1), (6, .inl x8), (7, .inl 0)]) (dat dk_X12_tagAt 18 rfl) (by decide) rfl ?_)))
      have lp31_n12 : ∀ (n12 : Nat) (y9 : Int), (I32 y9) → (0 ≤ y9 ∧ y9 ≤ x8) → (y9 ≤ n) → (n - y9 ≤ (n12 : Int)) → To l E_X12_tagAt (31, [(0, .inr (.inr 60)), (1, .inl m), (2, .inr (.inr a)), (3, .inl f), (4, .inl n), (5, .inl y1), (6, .inl x8), (7, .inl y9)], [], h, 0, 0) (Q_X12_tagAt h m a f n) := by
        intro n12
        induction n12 using Nat.strongRecOn with
        | _ n12 ihn12 =>
        intro y9 ry9 c10 c11 c13
        refine to_iload (dat dk_X12_tagAt 19 rfl) rfl (to_iload (dat dk_X12_tagAt 20 rfl) rfl ?_)
        refine to_ige 78 (dat dk_X12_tagAt 21 rfl) rfl ry9 hn (fun c14 => ?_) (fun c14 => ?_)
        · skip
          refine to_iload (dat dk_X12_tagAt 45 rfl) rfl (to_iload (dat dk_X12_tagAt 46 rfl) rfl ?_)
          refine to_ine 95 (dat dk_X12_tagAt 47 rfl) rfl ry9 hn (fun c15 => ?_) (fun c15 => ?_)
          · skip
            refine to_iload (dat dk_X12_tagAt 53 rfl) rfl (to_iload (dat dk_X12_tagAt 54 rfl) rfl ?_)
            refine to_ieq 136 (dat dk_X12_tagAt 55 rfl) rfl ry9 hn (fun c16 => ?_) (fun c16 => ?_)
            · skip
              refine to_iconst (dat dk_X12_tagAt 77 rfl) (to_iload (dat dk_X12_tagAt 78 rfl) rfl (to_isub (dat dk_X12_tagAt 79 rfl) ?_))
              exact to_iret rfl (dat dk_X12_tagAt 80 rfl) (ri_mk (by omega) ⟨rfl, (show -9 ≤ ((-1) - y1) ∧ ((-1) - y1) ≤ 7 by omega), (show -1 - h.2.2 68 (Int.toNat m) ≤ ((-1) - y1) ∧ ((-1) - y1) < h.2.2 68 (Int.toNat m) by omega)⟩)
            · skip
              refine to_iload (dat dk_X12_tagAt 56 rfl) rfl (to_iload (dat dk_X12_tagAt 57 rfl) rfl ?_)
              refine to_ige 141 (dat dk_X12_tagAt 58 rfl) rfl ry9 (by omega) (fun c17 => ?_) (fun c17 => ?_)
              · skip
                refine to_iinc (L' := [(0, .inr (.inr 60)), (1, .inl m), (2, .inr (.inr a)), (3, .inl f), (4, .inl n), (5, .inl (y1 + 1)), (6, .inl x8), (7, .inl y9)]) (dat dk_X12_tagAt 81 rfl) rfl (by decide) rfl (to_goto (dat dk_X12_tagAt 82 rfl) rfl ?_)
                refine to_pick [0, 1, 2, 3, 4, 5] rfl ?_
                exact ihn3 (n3 - 1) (by omega) (y1 + 1) (by omega) (show 0 ≤ (y1 + 1) by omega) (show 9 - (y1 + 1) ≤ ((n3 - 1 : Nat) : Int) by omega)
              · skip
                refine to_aload_n (dat dk_X12_tagAt 59 rfl) rfl (to_getR 66 g_c13_28 (dat dk_X12_tagAt 60 rfl) (hI.atS rfl) (hI.atE rfl) (to_bipush (dat dk_X12_tagAt 61 rfl) (by decide) (to_bipush (dat dk_X12_tagAt 62 rfl) (by decide) (to_iload_n (dat dk_X12_tagAt 63 rfl) rfl (to_imul (dat dk_X12_tagAt 64 rfl) (to_iload (dat dk_X12_tagAt 65 rfl) rfl (to_iadd (dat dk_X12_tagAt 66 rfl) (to_imul (dat dk_X12_tagAt 67 rfl) (to_iload (dat dk_X12_tagAt 68 rfl) rfl (to_iadd (dat dk_X12_tagAt 69 rfl) ?_))))))))))
                obtain ⟨x18, ex18⟩ : ∃ y : Int, h.2.2 66 (Int.toNat ((12 * ((8 * m) + y1)) + y9)) = y := ⟨_, rfl⟩
                have rx18 := hI.atR (a := 66) (j := Int.toNat ((12 * ((8 * m) + y1)) + y9)) rfl
                rw [ex18] at rx18
                refine to_baldv (q := 1) ex18 (dat dk_X12_tagAt 70 rfl) (by decide) (hI.atS rfl) rfl (by decide) (by omega) (to_aload_np (dat dk_X12_tagAt 71 rfl) (hI.posN (hI.aT ha)) rfl (to_iload_n (dat dk_X12_tagAt 72 rfl) rfl (to_iload (dat dk_X12_tagAt 73 rfl) rfl (to_iadd (dat dk_X12_tagAt 74 rfl) ?_))))
                obtain ⟨x19, ex19⟩ : ∃ y : Int, h.2.2 a (Int.toNat (f + y9)) = y := ⟨_, rfl⟩
                have rx19 := hI.aC (j := Int.toNat (f + y9)) ha
                rw [ex19] at rx19
                refine to_baldv (q := 1) ex19 (dat dk_X12_tagAt 75 rfl) (by decide) (hI.aT ha) rfl (isA_n ha) (by omega) ?_
                refine to_ile 141 (dat dk_X12_tagAt 76 rfl) rfl (by omega) (by omega) (fun c20 => ?_) (fun c20 => ?_)
                · skip
                  refine to_iinc (L' := [(0, .inr (.inr 60)), (1, .inl m), (2, .inr (.inr a)), (3, .inl f), (4, .inl n), (5, .inl (y1 + 1)), (6, .inl x8), (7, .inl y9)]) (dat dk_X12_tagAt 81 rfl) rfl (by decide) rfl (to_goto (dat dk_X12_tagAt 82 rfl) rfl ?_)
                  refine to_pick [0, 1, 2, 3, 4, 5] rfl ?_
                  exact ihn3 (n3 - 1) (by omega) (y1 + 1) (by omega) (show 0 ≤ (y1 + 1) by omega) (show 9 - (y1 + 1) ≤ ((n3 - 1 : Nat) : Int) by omega)
                · skip
                  refine to_iconst (dat dk_X12_tagAt 77 rfl) (to_iload (dat dk_X12_tagAt 78 rfl) rfl (to_isub (dat dk_X12_tagAt 79 rfl) ?_))
                  exact to_iret rfl (dat dk_X12_tagAt 80 rfl) (ri_mk (by omega) ⟨rfl, (show -9 ≤ ((-1) - y1) ∧ ((-1) - y1) ≤ 7 by omega), (show -1 - h.2.2 68 (Int.toNat m) ≤ ((-1) - y1) ∧ ((-1) - y1) < h.2.2 68 (Int.toNat m) by omega)⟩)
          · skip
            refine to_iload (dat dk_X12_tagAt 48 rfl) rfl (to_iload (dat dk_X12_tagAt 49 rfl) rfl ?_)
            refine to_ine 95 (dat dk_X12_tagAt 50 rfl) rfl ry9 (by omega) (fun c21 => ?_) (fun c21 => ?_)
            · skip
              refine to_iload (dat dk_X12_tagAt 53 rfl) rfl (to_iload (dat dk_X12_tagAt 54 rfl) rfl ?_)
              refine to_ieq 136 (dat dk_X12_tagAt 55 rfl) rfl ry9 hn (fun c22 => ?_) (fun c22 => ?_)
              · skip
                refine to_iconst (dat dk_X12_tagAt 77 rfl) (to_iload (dat dk_X12_tagAt 78 rfl) rfl (to_isub (dat dk_X12_tagAt 79 rfl) ?_))
                exact to_iret rfl (dat dk_X12_tagAt 80 rfl) (ri_mk (by omega) ⟨rfl, (show -9 ≤ ((-1) - y1) ∧ ((-1) - y1) ≤ 7 by omega), (show -1 - h.2.2 68 (Int.toNat m) ≤ ((-1) - y1) ∧ ((-1) - y1) < h.2.2 68 (Int.toNat m) by omega)⟩)
              · skip
                refine to_iload (dat dk_X12_tagAt 56 rfl) rfl (to_iload (dat dk_X12_tagAt 57 rfl) rfl ?_)
                refine to_ige 141 (dat dk_X12_tagAt 58 rfl) rfl ry9 (by omega) (fun c23 => ?_) (fun c23 => ?_)
                · skip
                  refine to_iinc (L' := [(0, .inr (.inr 60)), (1, .inl m), (2, .inr (.inr a)), (3, .inl f), (4, .inl n), (5, .inl (y1 + 1)), (6, .inl x8), (7, .inl y9)]) (dat dk_X12_tagAt 81 rfl) rfl (by decide) rfl (to_goto (dat dk_X12_tagAt 82 rfl) rfl ?_)
                  refine to_pick [0, 1, 2, 3, 4, 5] rfl ?_
                  exact ihn3 (n3 - 1) (by omega) (y1 + 1) (by omega) (show 0 ≤ (y1 + 1) by omega) (show 9 - (y1 + 1) ≤ ((n3 - 1 : Nat) : Int) by omega)
                · skip
                  refine to_aload_n (dat dk_X12_tagAt 59 rfl) rfl (to_getR 66 g_c13_28 (dat dk_X12_tagAt 60 rfl) (hI.atS rfl) (hI.atE rfl) (to_bipush (dat dk_X12_tagAt 61 rfl) (by decide) (to_bipush (dat dk_X12_tagAt 62 rfl) (by decide) (to_iload_n (dat dk_X12_tagAt 63 rfl) rfl (to_imul (dat dk_X12_tagAt 64 rfl) (to_iload (dat dk_X12_tagAt 65 rfl) rfl (to_iadd (dat dk_X12_tagAt 66 rfl) (to_imul (dat dk_X12_tagAt 67 rfl) (to_iload (dat dk_X12_tagAt 68 rfl) rfl (to_iadd (dat dk_X12_tagAt 69 rfl) ?_))))))))))
                  obtain ⟨x24, ex24⟩ : ∃ y : Int, h.2.2 66 (Int.toNat ((12 * ((8 * m) + y1)) + y9)) = y := ⟨_, rfl⟩
                  have rx24 := hI.atR (a := 66) (j := Int.toNat ((12 * ((8 * m) + y1)) + y9)) rfl
                  rw [ex24] at rx24
                  refine to_baldv (q := 1) ex24 (dat dk_X12_tagAt 70 rfl) (by decide) (hI.atS rfl) rfl (by decide) (by omega) (to_aload_np (dat dk_X12_tagAt 71 rfl) (hI.posN (hI.aT ha)) rfl (to_iload_n (dat dk_X12_tagAt 72 rfl) rfl (to_iload (dat dk_X12_tagAt 73 rfl) rfl (to_iadd (dat dk_X12_tagAt 74 rfl) ?_))))
                  obtain ⟨x25, ex25⟩ : ∃ y : Int, h.2.2 a (Int.toNat (f + y9)) = y := ⟨_, rfl⟩
                  have rx25 := hI.aC (j := Int.toNat (f + y9)) ha
                  rw [ex25] at rx25
                  refine to_baldv (q := 1) ex25 (dat dk_X12_tagAt 75 rfl) (by decide) (hI.aT ha) rfl (isA_n ha) (by omega) ?_
                  refine to_ile 141 (dat dk_X12_tagAt 76 rfl) rfl (by omega) (by omega) (fun c26 => ?_) (fun c26 => ?_)
                  · skip
                    refine to_iinc (L' := [(0, .inr (.inr 60)), (1, .inl m), (2, .inr (.inr a)), (3, .inl f), (4, .inl n), (5, .inl (y1 + 1)), (6, .inl x8), (7, .inl y9)]) (dat dk_X12_tagAt 81 rfl) rfl (by decide) rfl (to_goto (dat dk_X12_tagAt 82 rfl) rfl ?_)
                    refine to_pick [0, 1, 2, 3, 4, 5] rfl ?_
                    exact ihn3 (n3 - 1) (by omega) (y1 + 1) (by omega) (show 0 ≤ (y1 + 1) by omega) (show 9 - (y1 + 1) ≤ ((n3 - 1 : Nat) : Int) by omega)
                  · skip
                    refine to_iconst (dat dk_X12_tagAt 77 rfl) (to_iload (dat dk_X12_tagAt 78 rfl) rfl (to_isub (dat dk_X12_tagAt 79 rfl) ?_))
                    exact to_iret rfl (dat dk_X12_tagAt 80 rfl) (ri_mk (by omega) ⟨rfl, (show -9 ≤ ((-1) - y1) ∧ ((-1) - y1) ≤ 7 by omega), (show -1 - h.2.2 68 (Int.toNat m) ≤ ((-1) - y1) ∧ ((-1) - y1) < h.2.2 68 (Int.toNat m) by omega)⟩)
            · skip
              refine to_iload (dat dk_X12_tagAt 51 rfl) rfl ?_
              exact to_iret rfl (dat dk_X12_tagAt 52 rfl) (ri_mk ry1 ⟨rfl, (show -9 ≤ y1 ∧ y1 ≤ 7 by omega), (show -1 - h.2.2 68 (Int.toNat m) ≤ y1 ∧ y1 < h.2.2 68 (Int.toNat m) by omega)⟩)
        · skip
          refine to_iload (dat dk_X12_tagAt 22 rfl) rfl (to_iload (dat dk_X12_tagAt 23 rfl) rfl ?_)
          refine to_ige 78 (dat dk_X12_tagAt 24 rfl) rfl ry9 (by omega) (fun c27 => ?_) (fun c27 => ?_)
          · skip
            refine to_iload (dat dk_X12_tagAt 45 rfl) rfl (to_iload (dat dk_X12_tagAt 46 rfl) rfl ?_)
            refine to_ine 95 (dat dk_X12_tagAt 47 rfl) rfl ry9 hn (fun c28 => ?_) (fun c28 => ?_)
            · skip
              refine to_iload (dat dk_X12_tagAt 53 rfl) rfl (to_iload (dat dk_X12_tagAt 54 rfl) rfl ?_)
              refine to_ieq 136 (dat dk_X12_tagAt 55 rfl) rfl ry9 hn (fun c29 => ?_) (fun c29 => ?_)
              · skip
                refine to_iconst (dat dk_X12_tagAt 77 rfl) (to_iload (dat dk_X12_tagAt 78 rfl) rfl (to_isub (dat dk_X12_tagAt 79 rfl) ?_))
                exact to_iret rfl (dat dk_X12_tagAt 80 rfl) (ri_mk (by omega) ⟨rfl, (show -9 ≤ ((-1) - y1) ∧ ((-1) - y1) ≤ 7 by omega), (show -1 - h.2.2 68 (Int.toNat m) ≤ ((-1) - y1) ∧ ((-1) - y1) < h.2.2 68 (Int.toNat m) by omega)⟩)
              · skip
                refine to_iload (dat dk_X12_tagAt 56 rfl) rfl (to_iload (dat dk_X12_tagAt 57 rfl) rfl ?_)
                refine to_ige 141 (dat dk_X12_tagAt 58 rfl) rfl ry9 (by omega) (fun c30 => ?_) (fun c30 => ?_)
                · skip
                  refine to_iinc (L' := [(0, .inr (.inr 60)), (1, .inl m), (2, .inr (.inr a)), (3, .inl f), (4, .inl n), (5, .inl (y1 + 1)), (6, .inl x8), (7, .inl y9)]) (dat dk_X12_tagAt 81 rfl) rfl (by decide) rfl (to_goto (dat dk_X12_tagAt 82 rfl) rfl ?_)
                  refine to_pick [0, 1, 2, 3, 4, 5] rfl ?_
                  exact ihn3 (n3 - 1) (by omega) (y1 + 1) (by omega) (show 0 ≤ (y1 + 1) by omega) (show 9 - (y1 + 1) ≤ ((n3 - 1 : Nat) : Int) by omega)
                · skip
                  refine to_aload_n (dat dk_X12_tagAt 59 rfl) rfl (to_getR 66 g_c13_28 (dat dk_X12_tagAt 60 rfl) (hI.atS rfl) (hI.atE rfl) (to_bipush (dat dk_X12_tagAt 61 rfl) (by decide) (to_bipush (dat dk_X12_tagAt 62 rfl) (by decide) (to_iload_n (dat dk_X12_tagAt 63 rfl) rfl (to_imul (dat dk_X12_tagAt 64 rfl) (to_iload (dat dk_X12_tagAt 65 rfl) rfl (to_iadd (dat dk_X12_tagAt 66 rfl) (to_imul (dat dk_X12_tagAt 67 rfl) (to_iload (dat dk_X12_tagAt 68 rfl) rfl (to_iadd (dat dk_X12_tagAt 69 rfl) ?_))))))))))
                  obtain ⟨x31, ex31⟩ : ∃ y : Int, h.2.2 66 (Int.toNat ((12 * ((8 * m) + y1)) + y9)) = y := ⟨_, rfl⟩
                  have rx31 := hI.atR (a := 66) (j := Int.toNat ((12 * ((8 * m) + y1)) + y9)) rfl
                  rw [ex31] at rx31
                  refine to_baldv (q := 1) ex31 (dat dk_X12_tagAt 70 rfl) (by decide) (hI.atS rfl) rfl (by decide) (by omega) (to_aload_np (dat dk_X12_tagAt 71 rfl) (hI.posN (hI.aT ha)) rfl (to_iload_n (dat dk_X12_tagAt 72 rfl) rfl (to_iload (dat dk_X12_tagAt 73 rfl) rfl (to_iadd (dat dk_X12_tagAt 74 rfl) ?_))))
                  obtain ⟨x32, ex32⟩ : ∃ y : Int, h.2.2 a (Int.toNat (f + y9)) = y := ⟨_, rfl⟩
                  have rx32 := hI.aC (j := Int.toNat (f + y9)) ha
                  rw [ex32] at rx32
                  refine to_baldv (q := 1) ex32 (dat dk_X12_tagAt 75 rfl) (by decide) (hI.aT ha) rfl (isA_n ha) (by omega) ?_
                  refine to_ile 141 (dat dk_X12_tagAt 76 rfl) rfl (by omega) (by omega) (fun c33 => ?_) (fun c33 => ?_)
                  · skip
                    refine to_iinc (L' := [(0, .inr (.inr 60)), (1, .inl m), (2, .inr (.inr a)), (3, .inl f), (4, .inl n), (5, .inl (y1 + 1)), (6, .inl x8), (7, .inl y9)]) (dat dk_X12_tagAt 81 rfl) rfl (by decide) rfl (to_goto (dat dk_X12_tagAt 82 rfl) rfl ?_)
                    refine to_pick [0, 1, 2, 3, 4, 5] rfl ?_
                    exact ihn3 (n3 - 1) (by omega) (y1 + 1) (by omega) (show 0 ≤ (y1 + 1) by omega) (show 9 - (y1 + 1) ≤ ((n3 - 1 : Nat) : Int) by omega)
                  · skip
                    refine to_iconst (dat dk_X12_tagAt 77 rfl) (to_iload (dat dk_X12_tagAt 78 rfl) rfl (to_isub (dat dk_X12_tagAt 79 rfl) ?_))
                    exact to_iret rfl (dat dk_X12_tagAt 80 rfl) (ri_mk (by omega) ⟨rfl, (show -9 ≤ ((-1) - y1) ∧ ((-1) - y1) ≤ 7 by omega), (show -1 - h.2.2 68 (Int.toNat m) ≤ ((-1) - y1) ∧ ((-1) - y1) < h.2.2 68 (Int.toNat m) by omega)⟩)
            · skip
              refine to_iload (dat dk_X12_tagAt 48 rfl) rfl (to_iload (dat dk_X12_tagAt 49 rfl) rfl ?_)
              refine to_ine 95 (dat dk_X12_tagAt 50 rfl) rfl ry9 (by omega) (fun c34 => ?_) (fun c34 => ?_)
              · skip
                refine to_iload (dat dk_X12_tagAt 53 rfl) rfl (to_iload (dat dk_X12_tagAt 54 rfl) rfl ?_)
                refine to_ieq 136 (dat dk_X12_tagAt 55 rfl) rfl ry9 hn (fun c35 => ?_) (fun c35 => ?_)
                · skip
                  refine to_iconst (dat dk_X12_tagAt 77 rfl) (to_iload (dat dk_X12_tagAt 78 rfl) rfl (to_isub (dat dk_X12_tagAt 79 rfl) ?_))
                  exact to_iret rfl (dat dk_X12_tagAt 80 rfl) (ri_mk (by omega) ⟨rfl, (show -9 ≤ ((-1) - y1) ∧ ((-1) - y1) ≤ 7 by omega), (show -1 - h.2.2 68 (Int.toNat m) ≤ ((-1) - y1) ∧ ((-1) - y1) < h.2.2 68 (Int.toNat m) by omega)⟩)
                · skip
                  refine to_iload (dat dk_X12_tagAt 56 rfl) rfl (to_iload (dat dk_X12_tagAt 57 rfl) rfl ?_)
                  refine to_ige 141 (dat dk_X12_tagAt 58 rfl) rfl ry9 (by omega) (fun c36 => ?_) (fun c36 => ?_)
                  · skip
                    refine to_iinc (L' := [(0, .inr (.inr 60)), (1, .inl m), (2, .inr (.inr a)), (3, .inl f), (4, .inl n), (5, .inl (y1 + 1)), (6, .inl x8), (7, .inl y9)]) (dat dk_X12_tagAt 81 rfl) rfl (by decide) rfl (to_goto (dat dk_X12_tagAt 82 rfl) rfl ?_)
                    refine to_pick [0, 1, 2, 3, 4, 5] rfl ?_
                    exact ihn3 (n3 - 1) (by omega) (y1 + 1) (by omega) (show 0 ≤ (y1 + 1) by omega) (show 9 - (y1 + 1) ≤ ((n3 - 1 : Nat) : Int) by omega)
                  · skip
                    refine to_aload_n (dat dk_X12_tagAt 59 rfl) rfl (to_getR 66 g_c13_28 (dat dk_X12_tagAt 60 rfl) (hI.atS rfl) (hI.atE rfl) (to_bipush (dat dk_X12_tagAt 61 rfl) (by decide) (to_bipush (dat dk_X12_tagAt 62 rfl) (by decide) (to_iload_n (dat dk_X12_tagAt 63 rfl) rfl (to_imul (dat dk_X12_tagAt 64 rfl) (to_iload (dat dk_X12_tagAt 65 rfl) rfl (to_iadd (dat dk_X12_tagAt 66 rfl) (to_imul (dat dk_X12_tagAt 67 rfl) (to_iload (dat dk_X12_tagAt 68 rfl) rfl (to_iadd (dat dk_X12_tagAt 69 rfl) ?_))))))))))
                    obtain ⟨x37, ex37⟩ : ∃ y : Int, h.2.2 66 (Int.toNat ((12 * ((8 * m) + y1)) + y9)) = y := ⟨_, rfl⟩
                    have rx37 := hI.atR (a := 66) (j := Int.toNat ((12 * ((8 * m) + y1)) + y9)) rfl
                    rw [ex37] at rx37
                    refine to_baldv (q := 1) ex37 (dat dk_X12_tagAt 70 rfl) (by decide) (hI.atS rfl) rfl (by decide) (by omega) (to_aload_np (dat dk_X12_tagAt 71 rfl) (hI.posN (hI.aT ha)) rfl (to_iload_n (dat dk_X12_tagAt 72 rfl) rfl (to_iload (dat dk_X12_tagAt 73 rfl) rfl (to_iadd (dat dk_X12_tagAt 74 rfl) ?_))))
                    obtain ⟨x38, ex38⟩ : ∃ y : Int, h.2.2 a (Int.toNat (f + y9)) = y := ⟨_, rfl⟩
                    have rx38 := hI.aC (j := Int.toNat (f + y9)) ha
                    rw [ex38] at rx38
                    refine to_baldv (q := 1) ex38 (dat dk_X12_tagAt 75 rfl) (by decide) (hI.aT ha) rfl (isA_n ha) (by omega) ?_
                    refine to_ile 141 (dat dk_X12_tagAt 76 rfl) rfl (by omega) (by omega) (fun c39 => ?_) (fun c39 => ?_)
                    · skip
                      refine to_iinc (L' := [(0, .inr (.inr 60)), (1, .inl m), (2, .inr (.inr a)), (3, .inl f), (4, .inl n), (5, .inl (y1 + 1)), (6, .inl x8), (7, .inl y9)]) (dat dk_X12_tagAt 81 rfl) rfl (by decide) rfl (to_goto (dat dk_X12_tagAt 82 rfl) rfl ?_)
                      refine to_pick [0, 1, 2, 3, 4, 5] rfl ?_
                      exact ihn3 (n3 - 1) (by omega) (y1 + 1) (by omega) (show 0 ≤ (y1 + 1) by omega) (show 9 - (y1 + 1) ≤ ((n3 - 1 : Nat) : Int) by omega)
                    · skip
                      refine to_iconst (dat dk_X12_tagAt 77 rfl) (to_iload (dat dk_X12_tagAt 78 rfl) rfl (to_isub (dat dk_X12_tagAt 79 rfl) ?_))
                      exact to_iret rfl (dat dk_X12_tagAt 80 rfl) (ri_mk (by omega) ⟨rfl, (show -9 ≤ ((-1) - y1) ∧ ((-1) - y1) ≤ 7 by omega), (show -1 - h.2.2 68 (Int.toNat m) ≤ ((-1) - y1) ∧ ((-1) - y1) < h.2.2 68 (Int.toNat m) by omega)⟩)
              · skip
                refine to_iload (dat dk_X12_tagAt 51 rfl) rfl ?_
                exact to_iret rfl (dat dk_X12_tagAt 52 rfl) (ri_mk ry1 ⟨rfl, (show -9 ≤ y1 ∧ y1 ≤ 7 by omega), (show -1 - h.2.2 68 (Int.toNat m) ≤ y1 ∧ y1 < h.2.2 68 (Int.toNat m) by omega)⟩)
          · skip
            refine to_aload_n (dat dk_X12_tagAt 25 rfl) rfl (to_getR 66 g_c13_28 (dat dk_X12_tagAt 26 rfl) (hI.atS rfl) (hI.atE rfl) (to_bipush (dat dk_X12_tagAt 27 rfl) (by decide) (to_bipush (dat dk_X12_tagAt 28 rfl) (by decide) (to_iload_n (dat dk_X12_tagAt 29 rfl) rfl (to_imul (dat dk_X12_tagAt 30 rfl) (to_iload (dat dk_X12_tagAt 31 rfl) rfl (to_iadd (dat dk_X12_tagAt 32 rfl) (to_imul (dat dk_X12_tagAt 33 rfl) (to_iload (dat dk_X12_tagAt 34 rfl) rfl (to_iadd (dat dk_X12_tagAt 35 rfl) ?_))))))))))
            obtain ⟨x40, ex40⟩ : ∃ y : Int, h.2.2 66 (Int.toNat ((12 * ((8 * m) + y1)) + y9)) = y := ⟨_, rfl⟩
            have rx40 := hI.atR (a := 66) (j := Int.toNat ((12 * ((8 * m) + y1)) + y9)) rfl
            rw [ex40] at rx40
            refine to_baldv (q := 1) ex40 (dat dk_X12_tagAt 36 rfl) (by decide) (hI.atS rfl) rfl (by decide) (by omega) (to_aload_np (dat dk_X12_tagAt 37 rfl) (hI.posN (hI.aT ha)) rfl (to_iload_n (dat dk_X12_tagAt 38 rfl) rfl (to_iload (dat dk_X12_tagAt 39 rfl) rfl (to_iadd (dat dk_X12_tagAt 40 rfl) ?_))))
            obtain ⟨x41, ex41⟩ : ∃ y : Int, h.2.2 a (Int.toNat (f + y9)) = y := ⟨_, rfl⟩
            have rx41 := hI.aC (j := Int.toNat (f + y9)) ha
            rw [ex41] at rx41
            refine to_baldv (q := 1) ex41 (dat dk_X12_tagAt 41 rfl) (by decide) (hI.aT ha) rfl (isA_n ha) (by omega) ?_
            refine to_ine 78 (dat dk_X12_tagAt 42 rfl) rfl (by omega) (by omega) (fun c42 => ?_) (fun c42 => ?_)
            · skip
              refine to_iload (dat dk_X12_tagAt 45 rfl) rfl (to_iload (dat dk_X12_tagAt 46 rfl) rfl ?_)
              refine to_ine 95 (dat dk_X12_tagAt 47 rfl) rfl ry9 hn (fun c43 => ?_) (fun c43 => ?_)
              · skip
                refine to_iload (dat dk_X12_tagAt 53 rfl) rfl (to_iload (dat dk_X12_tagAt 54 rfl) rfl ?_)
                refine to_ieq 136 (dat dk_X12_tagAt 55 rfl) rfl ry9 hn (fun c44 => ?_) (fun c44 => ?_)
                · skip
                  refine to_iconst (dat dk_X12_tagAt 77 rfl) (to_iload (dat dk_X12_tagAt 78 rfl) rfl (to_isub (dat dk_X12_tagAt 79 rfl) ?_))
                  exact to_iret rfl (dat dk_X12_tagAt 80 rfl) (ri_mk (by omega) ⟨rfl, (show -9 ≤ ((-1) - y1) ∧ ((-1) - y1) ≤ 7 by omega), (show -1 - h.2.2 68 (Int.toNat m) ≤ ((-1) - y1) ∧ ((-1) - y1) < h.2.2 68 (Int.toNat m) by omega)⟩)
                · skip
                  refine to_iload (dat dk_X12_tagAt 56 rfl) rfl (to_iload (dat dk_X12_tagAt 57 rfl) rfl ?_)
                  refine to_ige 141 (dat dk_X12_tagAt 58 rfl) rfl ry9 (by omega) (fun c45 => ?_) (fun c45 => ?_)
                  · skip
                    refine to_iinc (L' := [(0, .inr (.inr 60)), (1, .inl m), (2, .inr (.inr a)), (3, .inl f), (4, .inl n), (5, .inl (y1 + 1)), (6, .inl x8), (7, .inl y9)]) (dat dk_X12_tagAt 81 rfl) rfl (by decide) rfl (to_goto (dat dk_X12_tagAt 82 rfl) rfl ?_)
                    refine to_pick [0, 1, 2, 3, 4, 5] rfl ?_
                    exact ihn3 (n3 - 1) (by omega) (y1 + 1) (by omega) (show 0 ≤ (y1 + 1) by omega) (show 9 - (y1 + 1) ≤ ((n3 - 1 : Nat) : Int) by omega)
                  · skip
                    refine to_aload_n (dat dk_X12_tagAt 59 rfl) rfl (to_getR 66 g_c13_28 (dat dk_X12_tagAt 60 rfl) (hI.atS rfl) (hI.atE rfl) (to_bipush (dat dk_X12_tagAt 61 rfl) (by decide) (to_bipush (dat dk_X12_tagAt 62 rfl) (by decide) (to_iload_n (dat dk_X12_tagAt 63 rfl) rfl (to_imul (dat dk_X12_tagAt 64 rfl) (to_iload (dat dk_X12_tagAt 65 rfl) rfl (to_iadd (dat dk_X12_tagAt 66 rfl) (to_imul (dat dk_X12_tagAt 67 rfl) (to_iload (dat dk_X12_tagAt 68 rfl) rfl (to_iadd (dat dk_X12_tagAt 69 rfl) ?_))))))))))
                    obtain ⟨x46, ex46⟩ : ∃ y : Int, h.2.2 66 (Int.toNat ((12 * ((8 * m) + y1)) + y9)) = y := ⟨_, rfl⟩
                    have rx46 := hI.atR (a := 66) (j := Int.toNat ((12 * ((8 * m) + y1)) + y9)) rfl
                    rw [ex46] at rx46
                    refine to_baldv (q := 1) ex46 (dat dk_X12_tagAt 70 rfl) (by decide) (hI.atS rfl) rfl (by decide) (by omega) (to_aload_np (dat dk_X12_tagAt 71 rfl) (hI.posN (hI.aT ha)) rfl (to_iload_n (dat dk_X12_tagAt 72 rfl) rfl (to_iload (dat dk_X12_tagAt 73 rfl) rfl (to_iadd (dat dk_X12_tagAt 74 rfl) ?_))))
                    obtain ⟨x47, ex47⟩ : ∃ y : Int, h.2.2 a (Int.toNat (f + y9)) = y := ⟨_, rfl⟩
                    have rx47 := hI.aC (j := Int.toNat (f + y9)) ha
                    rw [ex47] at rx47
                    refine to_baldv (q := 1) ex47 (dat dk_X12_tagAt 75 rfl) (by decide) (hI.aT ha) rfl (isA_n ha) (by omega) ?_
                    refine to_ile 141 (dat dk_X12_tagAt 76 rfl) rfl (by omega) (by omega) (fun c48 => ?_) (fun c48 => ?_)
                    · skip
                      refine to_iinc (L' := [(0, .inr (.inr 60)), (1, .inl m), (2, .inr (.inr a)), (3, .inl f), (4, .inl n), (5, .inl (y1 + 1)), (6, .inl x8), (7, .inl y9)]) (dat dk_X12_tagAt 81 rfl) rfl (by decide) rfl (to_goto (dat dk_X12_tagAt 82 rfl) rfl ?_)
                      refine to_pick [0, 1, 2, 3, 4, 5] rfl ?_
                      exact ihn3 (n3 - 1) (by omega) (y1 + 1) (by omega) (show 0 ≤ (y1 + 1) by omega) (show 9 - (y1 + 1) ≤ ((n3 - 1 : Nat) : Int) by omega)
                    · skip
                      refine to_iconst (dat dk_X12_tagAt 77 rfl) (to_iload (dat dk_X12_tagAt 78 rfl) rfl (to_isub (dat dk_X12_tagAt 79 rfl) ?_))
                      exact to_iret rfl (dat dk_X12_tagAt 80 rfl) (ri_mk (by omega) ⟨rfl, (show -9 ≤ ((-1) - y1) ∧ ((-1) - y1) ≤ 7 by omega), (show -1 - h.2.2 68 (Int.toNat m) ≤ ((-1) - y1) ∧ ((-1) - y1) < h.2.2 68 (Int.toNat m) by omega)⟩)
              · skip
                refine to_iload (dat dk_X12_tagAt 48 rfl) rfl (to_iload (dat dk_X12_tagAt 49 rfl) rfl ?_)
                refine to_ine 95 (dat dk_X12_tagAt 50 rfl) rfl ry9 (by omega) (fun c49 => ?_) (fun c49 => ?_)
                · skip
                  refine to_iload (dat dk_X12_tagAt 53 rfl) rfl (to_iload (dat dk_X12_tagAt 54 rfl) rfl ?_)
                  refine to_ieq 136 (dat dk_X12_tagAt 55 rfl) rfl ry9 hn (fun c50 => ?_) (fun c50 => ?_)
                  · skip
                    refine to_iconst (dat dk_X12_tagAt 77 rfl) (to_iload (dat dk_X12_tagAt 78 rfl) rfl (to_isub (dat dk_X12_tagAt 79 rfl) ?_))
                    exact to_iret rfl (dat dk_X12_tagAt 80 rfl) (ri_mk (by omega) ⟨rfl, (show -9 ≤ ((-1) - y1) ∧ ((-1) - y1) ≤ 7 by omega), (show -1 - h.2.2 68 (Int.toNat m) ≤ ((-1) - y1) ∧ ((-1) - y1) < h.2.2 68 (Int.toNat m) by omega)⟩)
                  · skip
                    refine to_iload (dat dk_X12_tagAt 56 rfl) rfl (to_iload (dat dk_X12_tagAt 57 rfl) rfl ?_)
                    refine to_ige 141 (dat dk_X12_tagAt 58 rfl) rfl ry9 (by omega) (fun c51 => ?_) (fun c51 => ?_)
                    · skip
                      refine to_iinc (L' := [(0, .inr (.inr 60)), (1, .inl m), (2, .inr (.inr a)), (3, .inl f), (4, .inl n), (5, .inl (y1 + 1)), (6, .inl x8), (7, .inl y9)]) (dat dk_X12_tagAt 81 rfl) rfl (by decide) rfl (to_goto (dat dk_X12_tagAt 82 rfl) rfl ?_)
                      refine to_pick [0, 1, 2, 3, 4, 5] rfl ?_
                      exact ihn3 (n3 - 1) (by omega) (y1 + 1) (by omega) (show 0 ≤ (y1 + 1) by omega) (show 9 - (y1 + 1) ≤ ((n3 - 1 : Nat) : Int) by omega)
                    · skip
                      refine to_aload_n (dat dk_X12_tagAt 59 rfl) rfl (to_getR 66 g_c13_28 (dat dk_X12_tagAt 60 rfl) (hI.atS rfl) (hI.atE rfl) (to_bipush (dat dk_X12_tagAt 61 rfl) (by decide) (to_bipush (dat dk_X12_tagAt 62 rfl) (by decide) (to_iload_n (dat dk_X12_tagAt 63 rfl) rfl (to_imul (dat dk_X12_tagAt 64 rfl) (to_iload (dat dk_X12_tagAt 65 rfl) rfl (to_iadd (dat dk_X12_tagAt 66 rfl) (to_imul (dat dk_X12_tagAt 67 rfl) (to_iload (dat dk_X12_tagAt 68 rfl) rfl (to_iadd (dat dk_X12_tagAt 69 rfl) ?_))))))))))
                      obtain ⟨x52, ex52⟩ : ∃ y : Int, h.2.2 66 (Int.toNat ((12 * ((8 * m) + y1)) + y9)) = y := ⟨_, rfl⟩
                      have rx52 := hI.atR (a := 66) (j := Int.toNat ((12 * ((8 * m) + y1)) + y9)) rfl
                      rw [ex52] at rx52
                      refine to_baldv (q := 1) ex52 (dat dk_X12_tagAt 70 rfl) (by decide) (hI.atS rfl) rfl (by decide) (by omega) (to_aload_np (dat dk_X12_tagAt 71 rfl) (hI.posN (hI.aT ha)) rfl (to_iload_n (dat dk_X12_tagAt 72 rfl) rfl (to_iload (dat dk_X12_tagAt 73 rfl) rfl (to_iadd (dat dk_X12_tagAt 74 rfl) ?_))))
                      obtain ⟨x53, ex53⟩ : ∃ y : Int, h.2.2 a (Int.toNat (f + y9)) = y := ⟨_, rfl⟩
                      have rx53 := hI.aC (j := Int.toNat (f + y9)) ha
                      rw [ex53] at rx53
                      refine to_baldv (q := 1) ex53 (dat dk_X12_tagAt 75 rfl) (by decide) (hI.aT ha) rfl (isA_n ha) (by omega) ?_
                      refine to_ile 141 (dat dk_X12_tagAt 76 rfl) rfl (by omega) (by omega) (fun c54 => ?_) (fun c54 => ?_)
                      · skip
                        refine to_iinc (L' := [(0, .inr (.inr 60)), (1, .inl m), (2, .inr (.inr a)), (3, .inl f), (4, .inl n), (5, .inl (y1 + 1)), (6, .inl x8), (7, .inl y9)]) (dat dk_X12_tagAt 81 rfl) rfl (by decide) rfl (to_goto (dat dk_X12_tagAt 82 rfl) rfl ?_)
                        refine to_pick [0, 1, 2, 3, 4, 5] rfl ?_
                        exact ihn3 (n3 - 1) (by omega) (y1 + 1) (by omega) (show 0 ≤ (y1 + 1) by omega) (show 9 - (y1 + 1) ≤ ((n3 - 1 : Nat) : Int) by omega)
                      · skip
                        refine to_iconst (dat dk_X12_tagAt 77 rfl) (to_iload (dat dk_X12_tagAt 78 rfl) rfl (to_isub (dat dk_X12_tagAt 79 rfl) ?_))
                        exact to_iret rfl (dat dk_X12_tagAt 80 rfl) (ri_mk (by omega) ⟨rfl, (show -9 ≤ ((-1) - y1) ∧ ((-1) - y1) ≤ 7 by omega), (show -1 - h.2.2 68 (Int.toNat m) ≤ ((-1) - y1) ∧ ((-1) - y1) < h.2.2 68 (Int.toNat m) by omega)⟩)
                · skip
                  refine to_iload (dat dk_X12_tagAt 51 rfl) rfl ?_
                  exact to_iret rfl (dat dk_X12_tagAt 52 rfl) (ri_mk ry1 ⟨rfl, (show -9 ≤ y1 ∧ y1 ≤ 7 by omega), (show -1 - h.2.2 68 (Int.toNat m) ≤ y1 ∧ y1 < h.2.2 68 (Int.toNat m) by omega)⟩)
            · skip
              refine to_iinc (L' := [(0, .inr (.inr 60)), (1, .inl m), (2, .inr (.inr a)), (3, .inl f), (4, .inl n), (5, .inl y1), (6, .inl x8), (7, .inl (y9 + 1))]) (dat dk_X12_tagAt 43 rfl) rfl (by decide) rfl (to_goto (dat dk_X12_tagAt 44 rfl) rfl ?_)
              exact ihn12 (n12 - 1) (by omega) (y9 + 1) (by omega) (show 0 ≤ (y9 + 1) ∧ (y9 + 1) ≤ x8 by omega) (show (y9 + 1) ≤ n by omega) (show n - (y9 + 1) ≤ ((n12 - 1 : Nat) : Int) by omega)
      exact lp31_n12 (n - (0 : Int)).toNat 0 (by decide) (show 0 ≤ (0 : Int) ∧ (0 : Int) ≤ x8 by omega) (show (0 : Int) ≤ n by omega) (by omega)
  exact lp3_n3 (9 - (0 : Int)).toNat 0 (by decide) (show 0 ≤ (0 : Int) by omega) (by omega)
abbrev Q_X12_remove (h : Hp) (n : Int) : Option V → Hp → Nat → Nat → Prop := RV (fun H => Inv H ∧ Fr [65, 200, 205] h H)
set_option maxRecDepth 100000 in
theorem ct_X12_remove (l : Launch) (h : Hp) (hI : Inv h) (n : Int) (hn : I32 n) : Ct l D_X12_remove 1 21 [.inr (.inr 60), .inl n] h (Q_X12_remove h n) := by
  refine ct_of pn_X12_remove (Nat.le_of_ble_eq_true rfl) ?_
  show To l E_X12_remove (0, [(0, .inr (.inr 60)), (1, .inl n)], [], h, 0, 0) _
  refine to_aload_n (dat dk_X12_remove 0 rfl) rfl (to_aload_n (dat dk_X12_remove 1 rfl) rfl (to_iload_n (dat dk_X12_remove 2 rfl) rfl ?_))
  obtain ⟨x1, ex1⟩ : ∃ y : Int, h.2.2 60 4 = y := ⟨_, rfl⟩
  have rx1 := hI.atR (a := 60) (j := 4) rfl
  rw [ex1] at rx1
  refine to_cI ca_c13_505 (dat dk_X12_remove 3 rfl) (ct_X12_isThere l h hI n hn) rfl ⟨_, _, rfl, (hI.atS rfl)⟩ rfl (fun x2 h3 rx2 p4 => ?_)
  obtain ⟨rfl, zx2, p4_0⟩ := p4
  refine to_ifeq 13 (dat dk_X12_remove 4 rfl) rfl rx2 (fun c5 => ?_) (fun c5 => ?_)
  · skip
    refine to_iconst (dat dk_X12_remove 7 rfl) (to_putIw p_c13_154 (dat dk_X12_remove 8 rfl) (hI.atS rfl) ?_)
    intro h8 wh8
    have I6 : Inv h8 := by rw [wh8]; exact hI.put (a := 60) (j := 0) (x := 1) (0) (3) rfl rfl (show (0 : Int) ≤ 1 ∧ 1 ≤ 3 by decide)
    have f7 : Fr [65, 200, 205] h h8 := by rw [wh8]; exact Fr.putF (a := 60) (j := 0) (x := 1) (Fr.rf _ _) rfl
    refine to_aload_n (dat dk_X12_remove 9 rfl) rfl (to_getIv (y := 1) (by rw [wh8]; exact wr_eq) g_c13_154 (dat dk_X12_remove 10 rfl) (I6.atS rfl) ?_)
    refine to_ifle 25 (dat dk_X12_remove 11 rfl) rfl (by decide) (fun c9 => absurd c9 (by decide)) (fun c9 => ?_)
    exact to_vret rfl (dat dk_X12_remove 12 rfl) (rv_mk ⟨I6, f7⟩)
  · skip
    refine to_iconst (dat dk_X12_remove 5 rfl) (to_goto (dat dk_X12_remove 6 rfl) rfl (to_putIw p_c13_154 (dat dk_X12_remove 8 rfl) (hI.atS rfl) ?_))
    intro h12 wh12
    have I10 : Inv h12 := by rw [wh12]; exact hI.put (a := 60) (j := 0) (x := 0) (0) (3) rfl rfl (show (0 : Int) ≤ 0 ∧ 0 ≤ 3 by decide)
    have f11 : Fr [65, 200, 205] h h12 := by rw [wh12]; exact Fr.putF (a := 60) (j := 0) (x := 0) (Fr.rf _ _) rfl
    refine to_aload_n (dat dk_X12_remove 9 rfl) rfl (to_getIv (y := 0) (by rw [wh12]; exact wr_eq) g_c13_154 (dat dk_X12_remove 10 rfl) (I10.atS rfl) ?_)
    refine to_ifle 25 (dat dk_X12_remove 11 rfl) rfl (by decide) (fun c13 => ?_) (fun c13 => absurd c13 (by decide))
    refine to_aload_n (dat dk_X12_remove 13 rfl) rfl (to_getR 65 g_c13_24 (dat dk_X12_remove 14 rfl) (I10.atS rfl) (I10.atE rfl) (to_iload_n (dat dk_X12_remove 15 rfl) rfl (to_iconst (dat dk_X12_remove 16 rfl) (to_zastw (dat dk_X12_remove 17 rfl) (I10.atS rfl) rfl (by decide) (by omega) (by decide) ?_))))
    intro h16 wh16
    have I14 : Inv h16 := by rw [wh16]; exact I10.put (a := 65) (j := (Int.toNat n)) (x := 0) (0) (1) rfl rfl (show (0 : Int) ≤ 0 ∧ 0 ≤ 1 by decide)
    have f15 : Fr [65, 200, 205] h h16 := by rw [wh16]; exact Fr.putF (a := 65) (j := (Int.toNat n)) (x := 0) f11 rfl
    refine to_aload_n (dat dk_X12_remove 18 rfl) rfl (to_dup (dat dk_X12_remove 19 rfl) rfl ?_)
    obtain ⟨x17, ex17⟩ : ∃ y : Int, h16.2.2 60 5 = y := ⟨_, rfl⟩
    have rx17 := I14.atR (a := 60) (j := 5) rfl
    rw [ex17] at rx17
    refine to_getIv (y := x17) ex17 g_c13_499 (dat dk_X12_remove 20 rfl) (I14.atS rfl) (to_iconst (dat dk_X12_remove 21 rfl) ?_)
    refine to_isubA (dat dk_X12_remove 22 rfl) (fun x18 rx18 => ?_)
    refine to_putIw p_c13_499 (dat dk_X12_remove 23 rfl) (I14.atS rfl) ?_
    intro h21 wh21
    have I19 : Inv h21 := by rw [wh21]; exact I14.put (a := 60) (j := 5) (x := x18) (-2147483648) (2147483647) rfl rfl (show (-2147483648 : Int) ≤ x18 ∧ x18 ≤ 2147483647 by omega)
    have f20 : Fr [65, 200, 205] h h21 := by rw [wh21]; exact Fr.putF (a := 60) (j := 5) (x := x18) f15 rfl
    exact to_vret rfl (dat dk_X12_remove 24 rfl) (rv_mk ⟨I19, f20⟩)
abbrev Q_X12_split_v70 (h : Hp) (a : Nat) (f : Int) (g : Int) (m : Int) (n : Int) : Option V → Hp → Nat → Nat → Prop := RI (fun x H => Inv H ∧ Fr [70, 71] h H ∧ (0 ≤ x ∧ x ≤ m))
set_option maxRecDepth 100000 in
theorem ct_X12_split_v70 (l : Launch) (h : Hp) (hI : Inv h) (a : Nat) (na : Nat) (ha : isA a na = true) (f : Int) (hf : I32 f) (g : Int) (hg : I32 g) (m : Int) (hm : I32 m) (n : Int) (hn : I32 n) (g0 : 0 ≤ f) (g1 : g ≤ (na : Int)) (g2 : 0 ≤ n) (g3 : 0 ≤ m) (g4 : n + m ≤ 2560) : Ct l D_X12_split 3 60 [.inr (.inr a), .inl f, .inl g, .inl m, .inr (.inr 70), .inr (.inr 71), .inl n] h (Q_X12_split_v70 h a f g m n) := by
  refine ct_of pn_X12_split (Nat.le_of_ble_eq_true rfl) ?_
  show To l E_X12_split (0, [(0, .inr (.inr a)), (1, .inl f), (2, .inl g), (3, .inl m), (4, .inr (.inr 70)), (5, .inr (.inr 71)), (6, .inl n)], [], h, 0, 0) _
  have la := isA_le ha
  refine to_iconst (dat dk_X12_split 0 rfl) (to_istore (L' := [(0, .inr (.inr a)), (1, .inl f), (2, .inl g), (3, .inl m), (4, .inr (.inr 70)), (5, .inr (.inr 71)), (6, .inl n), (7, .inl 0)]) (dat dk_X12_split 1 rfl) (by decide) rfl (to_iload_n (dat dk_X12_split 2 rfl) rfl (to_istore (L' := [(0, .inr (.inr a)), (1, .inl f), (2, .inl g), (3, .inl m), (4, .inr (.inr 70)), (5, .inr (.inr 71)), (6, .inl n), (7, .inl 0), (8, .inl f)]) (dat dk_X12_split 3 rfl) (by decide) rfl ?_)))
  have lp6_n7 : ∀ (n7 : Nat) (y1 : Int) (y2 : Int) (h3 : Hp), (I32 y1) → (I32 y2) → (Inv h3) → (Fr [70, 71] h h3) → (0 ≤ y1 ∧ y1 ≤ m) → (f ≤ y2) → (y2 = f ∨ y2 ≤ g) → ((g - y2) + (m - y1) ≤ (n7 : Int)) → To l E_X12_split (6, [(0, .inr (.inr a)), (1, .inl f), (2, .inl g), (3, .inl m), (4, .inr (.inr 70)), (5, .inr (.inr 71)), (6, .inl n), (7, .inl y1), (8, .inl y2)], [], h3, 0, 0) (Q_X12_split_v70 h a f g m n) := by
    intro n7
    induction n7 using Nat.strongRecOn with
    | _ n7 ihn7 =>
    intro y1 y2 h3 ry1 ry2 Ih3 fh3 c4 c5 c6 c8
    refine to_iload (dat dk_X12_split 4 rfl) rfl (to_iload_n (dat dk_X12_split 5 rfl) rfl ?_)
    refine to_ige 121 (dat dk_X12_split 6 rfl) rfl ry2 hg (fun c9 => ?_) (fun c9 => ?_)
    · skip
      refine to_iload (dat dk_X12_split 63 rfl) rfl ?_
      exact to_iret rfl (dat dk_X12_split 64 rfl) (ri_mk ry1 ⟨Ih3, fh3, (show 0 ≤ y1 ∧ y1 ≤ m by omega)⟩)
    · skip
      refine to_iload (dat dk_X12_split 7 rfl) rfl (to_iload_n (dat dk_X12_split 8 rfl) rfl ?_)
      refine to_ige 121 (dat dk_X12_split 9 rfl) rfl ry1 hm (fun c10 => ?_) (fun c10 => ?_)
      · skip
        refine to_iload (dat dk_X12_split 63 rfl) rfl ?_
        exact to_iret rfl (dat dk_X12_split 64 rfl) (ri_mk ry1 ⟨Ih3, fh3, (show 0 ≤ y1 ∧ y1 ≤ m by omega)⟩)
      · skip
        refine to_aload_np (dat dk_X12_split 10 rfl) (Ih3.posN (Ih3.aT ha)) rfl (to_iload (dat dk_X12_split 11 rfl) rfl ?_)
        obtain ⟨x11, ex11⟩ : ∃ y : Int, h3.2.2 a (Int.toNat y2) = y := ⟨_, rfl⟩
        have rx11 := Ih3.aC (j := Int.toNat y2) ha
        rw [ex11] at rx11
        refine to_baldv (q := 1) ex11 (dat dk_X12_split 12 rfl) (by decide) (Ih3.aT ha) rfl (isA_n ha) (by omega) ?_
        refine to_cI ca_c13_290 (dat dk_X12_split 13 rfl) (ct_X12_isWord l h3 Ih3 x11 (by omega)) rfl trivial rfl (fun x12 h13 rx12 p14 => ?_)
        obtain ⟨rfl, zx12⟩ := p14
        refine to_ifne 34 (dat dk_X12_split 14 rfl) rfl rx12 (fun c15 => ?_) (fun c15 => ?_)
        · skip
          refine to_iconst (dat dk_X12_split 17 rfl) (to_istore (L' := [(0, .inr (.inr a)), (1, .inl f), (2, .inl g), (3, .inl m), (4, .inr (.inr 70)), (5, .inr (.inr 71)), (6, .inl n), (7, .inl y1), (8, .inl y2), (9, .inl 0)]) (dat dk_X12_split 18 rfl) (by decide) rfl ?_)
          have lp37_n21 : ∀ (n21 : Nat) (y16 : Int) (y17 : Int) (h18 : Hp), (I32 y16) → (I32 y17) → (Inv h18) → (Fr [70, 71] h h18) → (0 ≤ y17 ∧ y17 ≤ 16) → (y2 ≤ y16 ∧ y16 ≤ g) → (g - y16 ≤ (n21 : Int)) → To l E_X12_split (37, [(0, .inr (.inr a)), (1, .inl f), (2, .inl g), (3, .inl m), (4, .inr (.inr 70)), (5, .inr (.inr 71)), (6, .inl n), (7, .inl y1), (8, .inl y16), (9, .inl y17)], [], h18, 0, 0) (Q_X12_split_v70 h a f g m n) := by
            intro n21
            induction n21 using Nat.strongRecOn with
            | _ n21 ihn21 =>
            intro y16 y17 h18 ry16 ry17 Ih18 fh18 c19 c20 c22
            refine to_iload (dat dk_X12_split 19 rfl) rfl (to_iload_n (dat dk_X12_split 20 rfl) rfl ?_)
            refine to_ige 105 (dat dk_X12_split 21 rfl) rfl ry16 hg (fun c23 => ?_) (fun c23 => ?_)
            · skip
              refine to_aload (dat dk_X12_split 55 rfl) rfl (to_iload (dat dk_X12_split 56 rfl) rfl (to_iload (dat dk_X12_split 57 rfl) rfl (to_iadd (dat dk_X12_split 58 rfl) (to_iload (dat dk_X12_split 59 rfl) rfl (to_iastw (dat dk_X12_split 60 rfl) (Ih18.atS rfl) rfl (by decide) (by omega) ?_)))))
              intro h26 wh26
              have I24 : Inv h26 := by rw [wh26]; exact Ih18.put (a := 71) (j := (Int.toNat (n + y1))) (x := y17) (0) (16) rfl rfl (show (0 : Int) ≤ y17 ∧ y17 ≤ 16 by omega)
              have f25 : Fr [70, 71] h h26 := by rw [wh26]; exact Fr.putF (a := 71) (j := (Int.toNat (n + y1))) (x := y17) fh18 rfl
              refine to_iinc (L' := [(0, .inr (.inr a)), (1, .inl f), (2, .inl g), (3, .inl m), (4, .inr (.inr 70)), (5, .inr (.inr 71)), (6, .inl n), (7, .inl (y1 + 1)), (8, .inl y16), (9, .inl y17)]) (dat dk_X12_split 61 rfl) rfl (by decide) rfl (to_goto (dat dk_X12_split 62 rfl) rfl ?_)
              refine to_pick [0, 1, 2, 3, 4, 5, 6, 7, 8] rfl ?_
              exact ihn7 (n7 - 1) (by omega) (y1 + 1) y16 h26 (by omega) ry16 I24 f25 (show 0 ≤ (y1 + 1) ∧ (y1 + 1) ≤ m by omega) (show f ≤ y16 by omega) (show y16 = f ∨ y16 ≤ g by omega) (show (g - y16) + (m - (y1 + 1)) ≤ ((n7 - 1 : Nat) : Int) by omega)
            · skip
              refine to_aload_np (dat dk_X12_split 22 rfl) (Ih18.posN (Ih18.aT ha)) rfl (to_iload (dat dk_X12_split 23 rfl) rfl ?_)
              obtain ⟨x27, ex27⟩ : ∃ y : Int, h18.2.2 a (Int.toNat y16) = y := ⟨_, rfl⟩
              have rx27 := Ih18.aC (j := Int.toNat y16) ha
              rw [ex27] at rx27
              refine to_baldv (q := 1) ex27 (dat dk_X12_split 24 rfl) (by decide) (Ih18.aT ha) rfl (isA_n ha) (by omega) ?_
              refine to_cI ca_c13_290 (dat dk_X12_split 25 rfl) (ct_X12_isWord l h18 Ih18 x27 (by omega)) rfl trivial rfl (fun x28 h29 rx28 p30 => ?_)
              obtain ⟨rfl, zx28⟩ := p30
              refine to_ifeq 105 (dat dk_X12_split 26 rfl) rfl rx28 (fun c31 => ?_) (fun c31 => ?_)
              · skip
                refine to_aload (dat dk_X12_split 55 rfl) rfl (to_iload (dat dk_X12_split 56 rfl) rfl (to_iload (dat dk_X12_split 57 rfl) rfl (to_iadd (dat dk_X12_split 58 rfl) (to_iload (dat dk_X12_split 59 rfl) rfl (to_iastw (dat dk_X12_split 60 rfl) (Ih18.atS rfl) rfl (by decide) (by omega) ?_)))))
                intro h34 wh34
                have I32 : Inv h34 := by rw [wh34]; exact Ih18.put (a := 71) (j := (Int.toNat (n + y1))) (x := y17) (0) (16) rfl rfl (show (0 : Int) ≤ y17 ∧ y17 ≤ 16 by omega)
                have f33 : Fr [70, 71] h h34 := by rw [wh34]; exact Fr.putF (a := 71) (j := (Int.toNat (n + y1))) (x := y17) fh18 rfl
                refine to_iinc (L' := [(0, .inr (.inr a)), (1, .inl f), (2, .inl g), (3, .inl m), (4, .inr (.inr 70)), (5, .inr (.inr 71)), (6, .inl n), (7, .inl (y1 + 1)), (8, .inl y16), (9, .inl y17)]) (dat dk_X12_split 61 rfl) rfl (by decide) rfl (to_goto (dat dk_X12_split 62 rfl) rfl ?_)
                refine to_pick [0, 1, 2, 3, 4, 5, 6, 7, 8] rfl ?_
                exact ihn7 (n7 - 1) (by omega) (y1 + 1) y16 h34 (by omega) ry16 I32 f33 (show 0 ≤ (y1 + 1) ∧ (y1 + 1) ≤ m by omega) (show f ≤ y16 by omega) (show y16 = f ∨ y16 ≤ g by omega) (show (g - y16) + (m - (y1 + 1)) ≤ ((n7 - 1 : Nat) : Int) by omega)
              · skip
                refine to_iload (dat dk_X12_split 27 rfl) rfl (to_bipush (dat dk_X12_split 28 rfl) (by decide) ?_)
                refine to_ige 82 (dat dk_X12_split 29 rfl) rfl ry17 (by decide) (fun c35 => ?_) (fun c35 => ?_)
                · skip
                  refine to_iload (dat dk_X12_split 44 rfl) rfl (to_iload (dat dk_X12_split 45 rfl) rfl (to_bipush (dat dk_X12_split 46 rfl) (by decide) ?_))
                  refine to_ige 95 (dat dk_X12_split 47 rfl) rfl ry17 (by decide) (fun c36 => ?_) (fun c36 => ?_)
                  · skip
                    refine to_iconst (dat dk_X12_split 50 rfl) (to_iadd (dat dk_X12_split 51 rfl) (to_istore (L' := [(0, .inr (.inr a)), (1, .inl f), (2, .inl g), (3, .inl m), (4, .inr (.inr 70)), (5, .inr (.inr 71)), (6, .inl n), (7, .inl y1), (8, .inl y16), (9, .inl (y17 + 0))]) (dat dk_X12_split 52 rfl) (by decide) rfl (to_iinc (L' := [(0, .inr (.inr a)), (1, .inl f), (2, .inl g), (3, .inl m), (4, .inr (.inr 70)), (5, .inr (.inr 71)), (6, .inl n), (7, .inl y1), (8, .inl (y16 + 1)), (9, .inl (y17 + 0))]) (dat dk_X12_split 53 rfl) rfl (by decide) rfl (to_goto (dat dk_X12_split 54 rfl) rfl ?_))))
                    exact ihn21 (n21 - 1) (by omega) (y16 + 1) (y17 + 0) h18 (by omega) (by omega) Ih18 fh18 (show 0 ≤ (y17 + 0) ∧ (y17 + 0) ≤ 16 by omega) (show y2 ≤ (y16 + 1) ∧ (y16 + 1) ≤ g by omega) (show g - (y16 + 1) ≤ ((n21 - 1 : Nat) : Int) by omega)
                  · skip
                    refine to_iconst (dat dk_X12_split 48 rfl) (to_goto (dat dk_X12_split 49 rfl) rfl (to_iadd (dat dk_X12_split 51 rfl) (to_istore (L' := [(0, .inr (.inr a)), (1, .inl f), (2, .inl g), (3, .inl m), (4, .inr (.inr 70)), (5, .inr (.inr 71)), (6, .inl n), (7, .inl y1), (8, .inl y16), (9, .inl (y17 + 1))]) (dat dk_X12_split 52 rfl) (by decide) rfl (to_iinc (L' := [(0, .inr (.inr a)), (1, .inl f), (2, .inl g), (3, .inl m), (4, .inr (.inr 70)), (5, .inr (.inr 71)), (6, .inl n), (7, .inl y1), (8, .inl (y16 + 1)), (9, .inl (y17 + 1))]) (dat dk_X12_split 53 rfl) rfl (by decide) rfl (to_goto (dat dk_X12_split 54 rfl) rfl ?_)))))
                    exact ihn21 (n21 - 1) (by omega) (y16 + 1) (y17 + 1) h18 (by omega) (by omega) Ih18 fh18 (show 0 ≤ (y17 + 1) ∧ (y17 + 1) ≤ 16 by omega) (show y2 ≤ (y16 + 1) ∧ (y16 + 1) ≤ g by omega) (show g - (y16 + 1) ≤ ((n21 - 1 : Nat) : Int) by omega)
                · skip
                  refine to_aload (dat dk_X12_split 30 rfl) rfl (to_bipush (dat dk_X12_split 31 rfl) (by decide) (to_iload (dat dk_X12_split 32 rfl) rfl (to_iload (dat dk_X12_split 33 rfl) rfl (to_iadd (dat dk_X12_split 34 rfl) (to_imul (dat dk_X12_split 35 rfl) (to_iload (dat dk_X12_split 36 rfl) rfl (to_iadd (dat dk_X12_split 37 rfl) (to_aload_np (dat dk_X12_split 38 rfl) (Ih18.posN (Ih18.aT ha)) rfl (to_iload (dat dk_X12_split 39 rfl) rfl ?_)))))))))
                  obtain ⟨x37, ex37⟩ : ∃ y : Int, h18.2.2 a (Int.toNat y16) = y := ⟨_, rfl⟩
                  have rx37 := Ih18.aC (j := Int.toNat y16) ha
                  rw [ex37] at rx37
                  refine to_baldv (q := 1) ex37 (dat dk_X12_split 40 rfl) (by decide) (Ih18.aT ha) rfl (isA_n ha) (by omega) ?_
                  refine to_cI ca_c13_157 (dat dk_X12_split 41 rfl) (ct_X12_small l h18 Ih18 x37 (by omega)) rfl trivial rfl (fun x38 h39 rx38 p40 => ?_)
                  subst p40
                  refine to_i2b (dat dk_X12_split 42 rfl) (to_bastw (dat dk_X12_split 43 rfl) (Ih18.atS rfl) rfl (by decide) (by omega) ?_)
                  intro h43 wh43
                  have I41 : Inv h43 := by rw [wh43]; exact Ih18.put (a := 70) (j := (Int.toNat ((16 * (n + y1)) + y17))) (x := (b8 (b8 x38))) (-128) (127) rfl rfl (show (-128 : Int) ≤ (b8 (b8 x38)) ∧ (b8 (b8 x38)) ≤ 127 by have := b8_in (b8 x38); omega)
                  have f42 : Fr [70, 71] h h43 := by rw [wh43]; exact Fr.putF (a := 70) (j := (Int.toNat ((16 * (n + y1)) + y17))) (x := (b8 (b8 x38))) fh18 rfl
                  refine to_iload (dat dk_X12_split 44 rfl) rfl (to_iload (dat dk_X12_split 45 rfl) rfl (to_bipush (dat dk_X12_split 46 rfl) (by decide) ?_))
                  refine to_ige 95 (dat dk_X12_split 47 rfl) rfl ry17 (by decide) (fun c44 => ?_) (fun c44 => ?_)
                  · skip
                    refine to_iconst (dat dk_X12_split 50 rfl) (to_iadd (dat dk_X12_split 51 rfl) (to_istore (L' := [(0, .inr (.inr a)), (1, .inl f), (2, .inl g), (3, .inl m), (4, .inr (.inr 70)), (5, .inr (.inr 71)), (6, .inl n), (7, .inl y1), (8, .inl y16), (9, .inl (y17 + 0))]) (dat dk_X12_split 52 rfl) (by decide) rfl (to_iinc (L' := [(0, .inr (.inr a)), (1, .inl f), (2, .inl g), (3, .inl m), (4, .inr (.inr 70)), (5, .inr (.inr 71)), (6, .inl n), (7, .inl y1), (8, .inl (y16 + 1)), (9, .inl (y17 + 0))]) (dat dk_X12_split 53 rfl) rfl (by decide) rfl (to_goto (dat dk_X12_split 54 rfl) rfl ?_))))
                    exact ihn21 (n21 - 1) (by omega) (y16 + 1) (y17 + 0) h43 (by omega) (by omega) I41 f42 (show 0 ≤ (y17 + 0) ∧ (y17 + 0) ≤ 16 by omega) (show y2 ≤ (y16 + 1) ∧ (y16 + 1) ≤ g by omega) (show g - (y16 + 1) ≤ ((n21 - 1 : Nat) : Int) by omega)
                  · skip
                    refine to_iconst (dat dk_X12_split 48 rfl) (to_goto (dat dk_X12_split 49 rfl) rfl (to_iadd (dat dk_X12_split 51 rfl) (to_istore (L' := [(0, .inr (.inr a)), (1, .inl f), (2, .inl g), (3, .inl m), (4, .inr (.inr 70)), (5, .inr (.inr 71)), (6, .inl n), (7, .inl y1), (8, .inl y16), (9, .inl (y17 + 1))]) (dat dk_X12_split 52 rfl) (by decide) rfl (to_iinc (L' := [(0, .inr (.inr a)), (1, .inl f), (2, .inl g), (3, .inl m), (4, .inr (.inr 70)), (5, .inr (.inr 71)), (6, .inl n), (7, .inl y1), (8, .inl (y16 + 1)), (9, .inl (y17 + 1))]) (dat dk_X12_split 53 rfl) rfl (by decide) rfl (to_goto (dat dk_X12_split 54 rfl) rfl ?_)))))
                    exact ihn21 (n21 - 1) (by omega) (y16 + 1) (y17 + 1) h43 (by omega) (by omega) I41 f42 (show 0 ≤ (y17 + 1) ∧ (y17 + 1) ≤ 16 by omega) (show y2 ≤ (y16 + 1) ∧ (y16 + 1) ≤ g by omega) (show g - (y16 + 1) ≤ ((n21 - 1 : Nat) : Int) by omega)
          exact lp37_n21 (g - y2).toNat y2 0 h3 ry2 (by decide) Ih3 fh3 (show 0 ≤ (0 : Int) ∧ (0 : Int) ≤ 16 by omega) (show y2 ≤ y2 ∧ y2 ≤ g by omega) (by omega)
        · skip
          refine to_iinc (L' := [(0, .inr (.inr a)), (1, .inl f), (2, .inl g), (3, .inl m), (4, .inr (.inr 70)), (5, .inr (.inr 71)), (6, .inl n), (7, .inl y1), (8, .inl (y2 + 1))]) (dat dk_X12_split 15 rfl) rfl (by decide) rfl (to_goto (dat dk_X12_split 16 rfl) rfl ?_)
          exact ihn7 (n7 - 1) (by omega) y1 (y2 + 1) h3 ry1 (by omega) Ih3 fh3 (show 0 ≤ y1 ∧ y1 ≤ m by omega) (show f ≤ (y2 + 1) by omega) (show (y2 + 1) = f ∨ (y2 + 1) ≤ g by omega) (show (g - (y2 + 1)) + (m - y1) ≤ ((n7 - 1 : Nat) : Int) by omega)
  exact lp6_n7 ((g - f) + (m - (0 : Int))).toNat 0 f h (by decide) hf hI (Fr.rf _ _) (show 0 ≤ (0 : Int) ∧ (0 : Int) ≤ m by omega) (show f ≤ f by omega) (show f = f ∨ f ≤ g by omega) (by omega)
abbrev Q_X12_split_v98 (h : Hp) (a : Nat) (f : Int) (g : Int) (m : Int) (n : Int) : Option V → Hp → Nat → Nat → Prop := RI (fun x H => Inv H ∧ Fr [98, 99] h H ∧ (0 ≤ x ∧ x ≤ m))
set_option maxRecDepth 100000 in
theorem ct_X12_split_v98 (l : Launch) (h : Hp) (hI : Inv h) (a : Nat) (na : Nat) (ha : isA a na = true) (f : Int) (hf : I32 f) (g : Int) (hg : I32 g) (m : Int) (hm : I32 m) (n : Int) (hn : I32 n) (g0 : 0 ≤ f) (g1 : g ≤ (na : Int)) (g2 : 0 ≤ n) (g3 : 0 ≤ m) (g4 : n + m ≤ 640) : Ct l D_X12_split 3 60 [.inr (.inr a), .inl f, .inl g, .inl m, .inr (.inr 98), .inr (.inr 99), .inl n] h (Q_X12_split_v98 h a f g m n) := by
  refine ct_of pn_X12_split (Nat.le_of_ble_eq_true rfl) ?_
  show To l E_X12_split (0, [(0, .inr (.inr a)), (1, .inl f), (2, .inl g), (3, .inl m), (4, .inr (.inr 98)), (5, .inr (.inr 99)), (6, .inl n)], [], h, 0, 0) _
  have la := isA_le ha
  refine to_iconst (dat dk_X12_split 0 rfl) (to_istore (L' := [(0, .inr (.inr a)), (1, .inl f), (2, .inl g), (3, .inl m), (4, .inr (.inr 98)), (5, .inr (.inr 99)), (6, .inl n), (7, .inl 0)]) (dat dk_X12_split 1 rfl) (by decide) rfl (to_iload_n (dat dk_X12_split 2 rfl) rfl (to_istore (L' := [(0, .inr (.inr a)), (1, .inl f), (2, .inl g), (3, .inl m), (4, .inr (.inr 98)), (5, .inr (.inr 99)), (6, .inl n), (7, .inl 0), (8, .inl f)]) (dat dk_X12_split 3 rfl) (by decide) rfl ?_)))
  have lp6_n7 : ∀ (n7 : Nat) (y1 : Int) (y2 : Int) (h3 : Hp), (I32 y1) → (I32 y2) → (Inv h3) → (Fr [98, 99] h h3) → (0 ≤ y1 ∧ y1 ≤ m) → (f ≤ y2) → (y2 = f ∨ y2 ≤ g) → ((g - y2) + (m - y1) ≤ (n7 : Int)) → To l E_X12_split (6, [(0, .inr (.inr a)), (1, .inl f), (2, .inl g), (3, .inl m), (4, .inr (.inr 98)), (5, .inr (.inr 99)), (6, .inl n), (7, .inl y1), (8, .inl y2)], [], h3, 0, 0) (Q_X12_split_v98 h a f g m n) := by
    intro n7
    induction n7 using Nat.strongRecOn with
    | _ n7 ihn7 =>
    intro y1 y2 h3 ry1 ry2 Ih3 fh3 c4 c5 c6 c8
    refine to_iload (dat dk_X12_split 4 rfl) rfl (to_iload_n (dat dk_X12_split 5 rfl) rfl ?_)
    refine to_ige 121 (dat dk_X12_split 6 rfl) rfl ry2 hg (fun c9 => ?_) (fun c9 => ?_)
    · skip
      refine to_iload (dat dk_X12_split 63 rfl) rfl ?_
      exact to_iret rfl (dat dk_X12_split 64 rfl) (ri_mk ry1 ⟨Ih3, fh3, (show 0 ≤ y1 ∧ y1 ≤ m by omega)⟩)
    · skip
      refine to_iload (dat dk_X12_split 7 rfl) rfl (to_iload_n (dat dk_X12_split 8 rfl) rfl ?_)
      refine to_ige 121 (dat dk_X12_split 9 rfl) rfl ry1 hm (fun c10 => ?_) (fun c10 => ?_)
      · skip
        refine to_iload (dat dk_X12_split 63 rfl) rfl ?_
        exact to_iret rfl (dat dk_X12_split 64 rfl) (ri_mk ry1 ⟨Ih3, fh3, (show 0 ≤ y1 ∧ y1 ≤ m by omega)⟩)
      · skip
        refine to_aload_np (dat dk_X12_split 10 rfl) (Ih3.posN (Ih3.aT ha)) rfl (to_iload (dat dk_X12_split 11 rfl) rfl ?_)
        obtain ⟨x11, ex11⟩ : ∃ y : Int, h3.2.2 a (Int.toNat y2) = y := ⟨_, rfl⟩
        have rx11 := Ih3.aC (j := Int.toNat y2) ha
        rw [ex11] at rx11
        refine to_baldv (q := 1) ex11 (dat dk_X12_split 12 rfl) (by decide) (Ih3.aT ha) rfl (isA_n ha) (by omega) ?_
        refine to_cI ca_c13_290 (dat dk_X12_split 13 rfl) (ct_X12_isWord l h3 Ih3 x11 (by omega)) rfl trivial rfl (fun x12 h13 rx12 p14 => ?_)
        obtain ⟨rfl, zx12⟩ := p14
        refine to_ifne 34 (dat dk_X12_split 14 rfl) rfl rx12 (fun c15 => ?_) (fun c15 => ?_)
        · skip
          refine to_iconst (dat dk_X12_split 17 rfl) (to_istore (L' := [(0, .inr (.inr a)), (1, .inl f), (2, .inl g), (3, .inl m), (4, .inr (.inr 98)), (5, .inr (.inr 99)), (6, .inl n), (7, .inl y1), (8, .inl y2), (9, .inl 0)]) (dat dk_X12_split 18 rfl) (by decide) rfl ?_)
          have lp37_n21 : ∀ (n21 : Nat) (y16 : Int) (y17 : Int) (h18 : Hp), (I32 y16) → (I32 y17) → (Inv h18) → (Fr [98, 99] h h18) → (0 ≤ y17 ∧ y17 ≤ 16) → (y2 ≤ y16 ∧ y16 ≤ g) → (g - y16 ≤ (n21 : Int)) → To l E_X12_split (37, [(0, .inr (.inr a)), (1, .inl f), (2, .inl g), (3, .inl m), (4, .inr (.inr 98)), (5, .inr (.inr 99)), (6, .inl n), (7, .inl y1), (8, .inl y16), (9, .inl y17)], [], h18, 0, 0) (Q_X12_split_v98 h a f g m n) := by
            intro n21
            induction n21 using Nat.strongRecOn with
            | _ n21 ihn21 =>
            intro y16 y17 h18 ry16 ry17 Ih18 fh18 c19 c20 c22
            refine to_iload (dat dk_X12_split 19 rfl) rfl (to_iload_n (dat dk_X12_split 20 rfl) rfl ?_)
            refine to_ige 105 (dat dk_X12_split 21 rfl) rfl ry16 hg (fun c23 => ?_) (fun c23 => ?_)
            · skip
              refine to_aload (dat dk_X12_split 55 rfl) rfl (to_iload (dat dk_X12_split 56 rfl) rfl (to_iload (dat dk_X12_split 57 rfl) rfl (to_iadd (dat dk_X12_split 58 rfl) (to_iload (dat dk_X12_split 59 rfl) rfl (to_iastw (dat dk_X12_split 60 rfl) (Ih18.atS rfl) rfl (by decide) (by omega) ?_)))))
              intro h26 wh26
              have I24 : Inv h26 := by rw [wh26]; exact Ih18.put (a := 99) (j := (Int.toNat (n + y1))) (x := y17) (0) (16) rfl rfl (show (0 : Int) ≤ y17 ∧ y17 ≤ 16 by omega)
              have f25 : Fr [98, 99] h h26 := by rw [wh26]; exact Fr.putF (a := 99) (j := (Int.toNat (n + y1))) (x := y17) fh18 rfl
              refine to_iinc (L' := [(0, .inr (.inr a)), (1, .inl f), (2, .inl g), (3, .inl m), (4, .inr (.inr 98)), (5, .inr (.inr 99)), (6, .inl n), (7, .inl (y1 + 1)), (8, .inl y16), (9, .inl y17)]) (dat dk_X12_split 61 rfl) rfl (by decide) rfl (to_goto (dat dk_X12_split 62 rfl) rfl ?_)
              refine to_pick [0, 1, 2, 3, 4, 5, 6, 7, 8] rfl ?_
              exact ihn7 (n7 - 1) (by omega) (y1 + 1) y16 h26 (by omega) ry16 I24 f25 (show 0 ≤ (y1 + 1) ∧ (y1 + 1) ≤ m by omega) (show f ≤ y16 by omega) (show y16 = f ∨ y16 ≤ g by omega) (show (g - y16) + (m - (y1 + 1)) ≤ ((n7 - 1 : Nat) : Int) by omega)
            · skip
              refine to_aload_np (dat dk_X12_split 22 rfl) (Ih18.posN (Ih18.aT ha)) rfl (to_iload (dat dk_X12_split 23 rfl) rfl ?_)
              obtain ⟨x27, ex27⟩ : ∃ y : Int, h18.2.2 a (Int.toNat y16) = y := ⟨_, rfl⟩
              have rx27 := Ih18.aC (j := Int.toNat y16) ha
              rw [ex27] at rx27
              refine to_baldv (q := 1) ex27 (dat dk_X12_split 24 rfl) (by decide) (Ih18.aT ha) rfl (isA_n ha) (by omega) ?_
              refine to_cI ca_c13_290 (dat dk_X12_split 25 rfl) (ct_X12_isWord l h18 Ih18 x27 (by omega)) rfl trivial rfl (fun x28 h29 rx28 p30 => ?_)
              obtain ⟨rfl, zx28⟩ := p30
              refine to_ifeq 105 (dat dk_X12_split 26 rfl) rfl rx28 (fun c31 => ?_) (fun c31 => ?_)
              · skip
                refine to_aload (dat dk_X12_split 55 rfl) rfl (to_iload (dat dk_X12_split 56 rfl) rfl (to_iload (dat dk_X12_split 57 rfl) rfl (to_iadd (dat dk_X12_split 58 rfl) (to_iload (dat dk_X12_split 59 rfl) rfl (to_iastw (dat dk_X12_split 60 rfl) (Ih18.atS rfl) rfl (by decide) (by omega) ?_)))))
                intro h34 wh34
                have I32 : Inv h34 := by rw [wh34]; exact Ih18.put (a := 99) (j := (Int.toNat (n + y1))) (x := y17) (0) (16) rfl rfl (show (0 : Int) ≤ y17 ∧ y17 ≤ 16 by omega)
                have f33 : Fr [98, 99] h h34 := by rw [wh34]; exact Fr.putF (a := 99) (j := (Int.toNat (n + y1))) (x := y17) fh18 rfl
                refine to_iinc (L' := [(0, .inr (.inr a)), (1, .inl f), (2, .inl g), (3, .inl m), (4, .inr (.inr 98)), (5, .inr (.inr 99)), (6, .inl n), (7, .inl (y1 + 1)), (8, .inl y16), (9, .inl y17)]) (dat dk_X12_split 61 rfl) rfl (by decide) rfl (to_goto (dat dk_X12_split 62 rfl) rfl ?_)
                refine to_pick [0, 1, 2, 3, 4, 5, 6, 7, 8] rfl ?_
                exact ihn7 (n7 - 1) (by omega) (y1 + 1) y16 h34 (by omega) ry16 I32 f33 (show 0 ≤ (y1 + 1) ∧ (y1 + 1) ≤ m by omega) (show f ≤ y16 by omega) (show y16 = f ∨ y16 ≤ g by omega) (show (g - y16) + (m - (y1 + 1)) ≤ ((n7 - 1 : Nat) : Int) by omega)
              · skip
                refine to_iload (dat dk_X12_split 27 rfl) rfl (to_bipush (dat dk_X12_split 28 rfl) (by decide) ?_)
                refine to_ige 82 (dat dk_X12_split 29 rfl) rfl ry17 (by decide) (fun c35 => ?_) (fun c35 => ?_)
                · skip
                  refine to_iload (dat dk_X12_split 44 rfl) rfl (to_iload (dat dk_X12_split 45 rfl) rfl (to_bipush (dat dk_X12_split 46 rfl) (by decide) ?_))
                  refine to_ige 95 (dat dk_X12_split 47 rfl) rfl ry17 (by decide) (fun c36 => ?_) (fun c36 => ?_)
                  · skip
                    refine to_iconst (dat dk_X12_split 50 rfl) (to_iadd (dat dk_X12_split 51 rfl) (to_istore (L' := [(0, .inr (.inr a)), (1, .inl f), (2, .inl g), (3, .inl m), (4, .inr (.inr 98)), (5, .inr (.inr 99)), (6, .inl n), (7, .inl y1), (8, .inl y16), (9, .inl (y17 + 0))]) (dat dk_X12_split 52 rfl) (by decide) rfl (to_iinc (L' := [(0, .inr (.inr a)), (1, .inl f), (2, .inl g), (3, .inl m), (4, .inr (.inr 98)), (5, .inr (.inr 99)), (6, .inl n), (7, .inl y1), (8, .inl (y16 + 1)), (9, .inl (y17 + 0))]) (dat dk_X12_split 53 rfl) rfl (by decide) rfl (to_goto (dat dk_X12_split 54 rfl) rfl ?_))))
                    exact ihn21 (n21 - 1) (by omega) (y16 + 1) (y17 + 0) h18 (by omega) (by omega) Ih18 fh18 (show 0 ≤ (y17 + 0) ∧ (y17 + 0) ≤ 16 by omega) (show y2 ≤ (y16 + 1) ∧ (y16 + 1) ≤ g by omega) (show g - (y16 + 1) ≤ ((n21 - 1 : Nat) : Int) by omega)
                  · skip
                    refine to_iconst (dat dk_X12_split 48 rfl) (to_goto (dat dk_X12_split 49 rfl) rfl (to_iadd (dat dk_X12_split 51 rfl) (to_istore (L' := [(0, .inr (.inr a)), (1, .inl f), (2, .inl g), (3, .inl m), (4, .inr (.inr 98)), (5, .inr (.inr 99)), (6, .inl n), (7, .inl y1), (8, .inl y16), (9, .inl (y17 + 1))]) (dat dk_X12_split 52 rfl) (by decide) rfl (to_iinc (L' := [(0, .inr (.inr a)), (1, .inl f), (2, .inl g), (3, .inl m), (4, .inr (.inr 98)), (5, .inr (.inr 99)), (6, .inl n), (7, .inl y1), (8, .inl (y16 + 1)), (9, .inl (y17 + 1))]) (dat dk_X12_split 53 rfl) rfl (by decide) rfl (to_goto (dat dk_X12_split 54 rfl) rfl ?_)))))
                    exact ihn21 (n21 - 1) (by omega) (y16 + 1) (y17 + 1) h18 (by omega) (by omega) Ih18 fh18 (show 0 ≤ (y17 + 1) ∧ (y17 + 1) ≤ 16 by omega) (show y2 ≤ (y16 + 1) ∧ (y16 + 1) ≤ g by omega) (show g - (y16 + 1) ≤ ((n21 - 1 : Nat) : Int) by omega)
                · skip
                  refine to_aload (dat dk_X12_split 30 rfl) rfl (to_bipush (dat dk_X12_split 31 rfl) (by decide) (to_iload (dat dk_X12_split 32 rfl) rfl (to_iload (dat dk_X12_split 33 rfl) rfl (to_iadd (dat dk_X12_split 34 rfl) (to_imul (dat dk_X12_split 35 rfl) (to_iload (dat dk_X12_split 36 rfl) rfl (to_iadd (dat dk_X12_split 37 rfl) (to_aload_np (dat dk_X12_split 38 rfl) (Ih18.posN (Ih18.aT ha)) rfl (to_iload (dat dk_X12_split 39 rfl) rfl ?_)))))))))
                  obtain ⟨x37, ex37⟩ : ∃ y : Int, h18.2.2 a (Int.toNat y16) = y := ⟨_, rfl⟩
                  have rx37 := Ih18.aC (j := Int.toNat y16) ha
                  rw [ex37] at rx37
                  refine to_baldv (q := 1) ex37 (dat dk_X12_split 40 rfl) (by decide) (Ih18.aT ha) rfl (isA_n ha) (by omega) ?_
                  refine to_cI ca_c13_157 (dat dk_X12_split 41 rfl) (ct_X12_small l h18 Ih18 x37 (by omega)) rfl trivial rfl (fun x38 h39 rx38 p40 => ?_)
                  subst p40
                  refine to_i2b (dat dk_X12_split 42 rfl) (to_bastw (dat dk_X12_split 43 rfl) (Ih18.atS rfl) rfl (by decide) (by omega) ?_)
                  intro h43 wh43
                  have I41 : Inv h43 := by rw [wh43]; exact Ih18.put (a := 98) (j := (Int.toNat ((16 * (n + y1)) + y17))) (x := (b8 (b8 x38))) (-128) (127) rfl rfl (show (-128 : Int) ≤ (b8 (b8 x38)) ∧ (b8 (b8 x38)) ≤ 127 by have := b8_in (b8 x38); omega)
                  have f42 : Fr [98, 99] h h43 := by rw [wh43]; exact Fr.putF (a := 98) (j := (Int.toNat ((16 * (n + y1)) + y17))) (x := (b8 (b8 x38))) fh18 rfl
                  refine to_iload (dat dk_X12_split 44 rfl) rfl (to_iload (dat dk_X12_split 45 rfl) rfl (to_bipush (dat dk_X12_split 46 rfl) (by decide) ?_))
                  refine to_ige 95 (dat dk_X12_split 47 rfl) rfl ry17 (by decide) (fun c44 => ?_) (fun c44 => ?_)
                  · skip
                    refine to_iconst (dat dk_X12_split 50 rfl) (to_iadd (dat dk_X12_split 51 rfl) (to_istore (L' := [(0, .inr (.inr a)), (1, .inl f), (2, .inl g), (3, .inl m), (4, .inr (.inr 98)), (5, .inr (.inr 99)), (6, .inl n), (7, .inl y1), (8, .inl y16), (9, .inl (y17 + 0))]) (dat dk_X12_split 52 rfl) (by decide) rfl (to_iinc (L' := [(0, .inr (.inr a)), (1, .inl f), (2, .inl g), (3, .inl m), (4, .inr (.inr 98)), (5, .inr (.inr 99)), (6, .inl n), (7, .inl y1), (8, .inl (y16 + 1)), (9, .inl (y17 + 0))]) (dat dk_X12_split 53 rfl) rfl (by decide) rfl (to_goto (dat dk_X12_split 54 rfl) rfl ?_))))
                    exact ihn21 (n21 - 1) (by omega) (y16 + 1) (y17 + 0) h43 (by omega) (by omega) I41 f42 (show 0 ≤ (y17 + 0) ∧ (y17 + 0) ≤ 16 by omega) (show y2 ≤ (y16 + 1) ∧ (y16 + 1) ≤ g by omega) (show g - (y16 + 1) ≤ ((n21 - 1 : Nat) : Int) by omega)
                  · skip
                    refine to_iconst (dat dk_X12_split 48 rfl) (to_goto (dat dk_X12_split 49 rfl) rfl (to_iadd (dat dk_X12_split 51 rfl) (to_istore (L' := [(0, .inr (.inr a)), (1, .inl f), (2, .inl g), (3, .inl m), (4, .inr (.inr 98)), (5, .inr (.inr 99)), (6, .inl n), (7, .inl y1), (8, .inl y16), (9, .inl (y17 + 1))]) (dat dk_X12_split 52 rfl) (by decide) rfl (to_iinc (L' := [(0, .inr (.inr a)), (1, .inl f), (2, .inl g), (3, .inl m), (4, .inr (.inr 98)), (5, .inr (.inr 99)), (6, .inl n), (7, .inl y1), (8, .inl (y16 + 1)), (9, .inl (y17 + 1))]) (dat dk_X12_split 53 rfl) rfl (by decide) rfl (to_goto (dat dk_X12_split 54 rfl) rfl ?_)))))
                    exact ihn21 (n21 - 1) (by omega) (y16 + 1) (y17 + 1) h43 (by omega) (by omega) I41 f42 (show 0 ≤ (y17 + 1) ∧ (y17 + 1) ≤ 16 by omega) (show y2 ≤ (y16 + 1) ∧ (y16 + 1) ≤ g by omega) (show g - (y16 + 1) ≤ ((n21 - 1 : Nat) : Int) by omega)
          exact lp37_n21 (g - y2).toNat y2 0 h3 ry2 (by decide) Ih3 fh3 (show 0 ≤ (0 : Int) ∧ (0 : Int) ≤ 16 by omega) (show y2 ≤ y2 ∧ y2 ≤ g by omega) (by omega)
        · skip
          refine to_iinc (L' := [(0, .inr (.inr a)), (1, .inl f), (2, .inl g), (3, .inl m), (4, .inr (.inr 98)), (5, .inr (.inr 99)), (6, .inl n), (7, .inl y1), (8, .inl (y2 + 1))]) (dat dk_X12_split 15 rfl) rfl (by decide) rfl (to_goto (dat dk_X12_split 16 rfl) rfl ?_)
          exact ihn7 (n7 - 1) (by omega) y1 (y2 + 1) h3 ry1 (by omega) Ih3 fh3 (show 0 ≤ y1 ∧ y1 ≤ m by omega) (show f ≤ (y2 + 1) by omega) (show (y2 + 1) = f ∨ (y2 + 1) ≤ g by omega) (show (g - (y2 + 1)) + (m - y1) ≤ ((n7 - 1 : Nat) : Int) by omega)
  exact lp6_n7 ((g - f) + (m - (0 : Int))).toNat 0 f h (by decide) hf hI (Fr.rf _ _) (show 0 ≤ (0 : Int) ∧ (0 : Int) ≤ m by omega) (show f ≤ f by omega) (show f = f ∨ f ≤ g by omega) (by omega)
