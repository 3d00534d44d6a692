/-! Contracts, by program. -/
abbrev Q_X12_remove_vbd (h : Hp) (n : Int) : Option V → Hp → Nat → Nat → Prop := RV (fun H => Inv H ∧ Fr [65, 200, 205] h H ∧ ((n < 0 ∨ h.2.2 60 4 ≤ n ∨ h.2.2 65 (Int.toNat n) = 0) ∧ H.2.2 60 0 = 1 ∧ H.2.2 60 5 = h.2.2 60 5 ∧ H.2.2 65 = h.2.2 65 ∨ (0 ≤ n ∧ n < h.2.2 60 4 ∧ h.2.2 65 (Int.toNat n) ≠ 0) ∧ H.2.2 60 0 = 0 ∧ H.2.2 60 5 = h.2.2 60 5 - 1 ∧ ∀ j : Nat, H.2.2 65 j = if j = Int.toNat n then 0 else h.2.2 65 j))
set_option maxRecDepth 100000 in
theorem ct_X12_remove_vbd (l : Launch) (h : Hp) (hI : Inv h) (n : Int) (hn : I32 n) (g0 : 0 ≤ h.2.2 60 5) : Ct l D_X12_remove 1 21 [.inr (.inr 60), .inl n] h (Q_X12_remove_vbd h n) := by
  refine ct_of pn_X12_remove (Nat.le_of_ble_eq_true rfl) ?_
  show To l E_X12_remove (0, [(0, .inr (.inr 60)), (1, .inl n)], [], h, 0, 0) _
  obtain ⟨x1, ex1⟩ : ∃ y : Int, h.2.2 60 4 = y := ⟨_, rfl⟩
  have rx1 := hI.atR (a := 60) (j := 4) rfl
  rw [ex1] at rx1
  obtain ⟨x2, ex2⟩ : ∃ y : Int, h.2.2 60 0 = y := ⟨_, rfl⟩
  have rx2 := hI.atR (a := 60) (j := 0) rfl
  rw [ex2] at rx2
  obtain ⟨x3, ex3⟩ : ∃ y : Int, h.2.2 60 5 = y := ⟨_, rfl⟩
  have rx3 := hI.atR (a := 60) (j := 5) rfl
  rw [ex3] at rx3
  refine to_aload_n (dat dk_X12_remove 0 rfl) rfl (to_aload_n (dat dk_X12_remove 1 rfl) rfl (to_iload_n (dat dk_X12_remove 2 rfl) rfl ?_))
  refine to_cI ca_c13_505 (dat dk_X12_remove 3 rfl) (ct_X12_isThere_vcc l h hI n hn) rfl ⟨_, _, rfl, (hI.atS rfl)⟩ rfl (fun x4 h5 rx4 p6 => ?_)
  obtain ⟨rfl, zx4, p6_0⟩ := p6
  have rzx4 := z_lin zx4
  clear zx4
  clear rx4
  have rx4 := rzx4
  clear rzx4
  refine to_ifeq 13 (dat dk_X12_remove 4 rfl) rfl (z_i32 rx4) (fun c7 => ?_) (fun c7 => ?_)
  · skip
    refine to_iconst (dat dk_X12_remove 7 rfl) (to_putIw p_c13_154 (dat dk_X12_remove 8 rfl) (hI.atS rfl) ?_)
    intro h10 wh10
    have I8 : Inv h10 := by rw [wh10]; exact hI.put (a := 60) (j := 0) (x := 1) (0) (3) rfl rfl (show (0 : Int) ≤ 1 ∧ 1 ≤ 3 by decide)
    have f9 : Fr [65, 200, 205] h h10 := by rw [wh10]; exact Fr.putF (a := 60) (j := 0) (x := 1) (Fr.rf _ _) rfl
    refine to_aload_n (dat dk_X12_remove 9 rfl) rfl (to_getIv (y := 1) (by rw [wh10]; exact wr_eq) g_c13_154 (dat dk_X12_remove 10 rfl) (I8.atS rfl) ?_)
    refine to_ifle 25 (dat dk_X12_remove 11 rfl) rfl (by decide) (fun c11 => absurd c11 (by decide)) (fun c11 => ?_)
    have e12 : h10.2.2 60 0 = (1 : Int) := (by rw [wh10]; exact wr_eq)
    have e13 : h10.2.2 60 5 = x3 := (by rw [wh10]; exact ex3)
    exact to_vret rfl (dat dk_X12_remove 12 rfl) (rv_mk ⟨I8, f9, (Or.inl ⟨by omega, by omega, by omega, by rw [wh10]; exact funext fun i => wr_ne (by decide)⟩)⟩)
  · skip
    replace c7 := z_one rx4 c7
    refine to_iconst (dat dk_X12_remove 5 rfl) (to_goto (dat dk_X12_remove 6 rfl) rfl (to_putIw p_c13_154 (dat dk_X12_remove 8 rfl) (hI.atS rfl) ?_))
    intro h16 wh16
    have I14 : Inv h16 := by rw [wh16]; exact hI.put (a := 60) (j := 0) (x := 0) (0) (3) rfl rfl (show (0 : Int) ≤ 0 ∧ 0 ≤ 3 by decide)
    have f15 : Fr [65, 200, 205] h h16 := by rw [wh16]; exact Fr.putF (a := 60) (j := 0) (x := 0) (Fr.rf _ _) rfl
    refine to_aload_n (dat dk_X12_remove 9 rfl) rfl (to_getIv (y := 0) (by rw [wh16]; exact wr_eq) g_c13_154 (dat dk_X12_remove 10 rfl) (I14.atS rfl) ?_)
    refine to_ifle 25 (dat dk_X12_remove 11 rfl) rfl (by decide) (fun c17 => ?_) (fun c17 => absurd c17 (by decide))
    refine to_aload_n (dat dk_X12_remove 13 rfl) rfl (to_getR 65 g_c13_24 (dat dk_X12_remove 14 rfl) (I14.atS rfl) (I14.atE rfl) (to_iload_n (dat dk_X12_remove 15 rfl) rfl (to_iconst (dat dk_X12_remove 16 rfl) (to_zastw (dat dk_X12_remove 17 rfl) (I14.atS rfl) rfl (by decide) (by omega) (by decide) ?_))))
    intro h20 wh20
    have I18 : Inv h20 := by rw [wh20]; exact I14.put (a := 65) (j := (Int.toNat n)) (x := 0) (0) (1) rfl rfl (show (0 : Int) ≤ 0 ∧ 0 ≤ 1 by decide)
    have f19 : Fr [65, 200, 205] h h20 := by rw [wh20]; exact Fr.putF (a := 65) (j := (Int.toNat n)) (x := 0) f15 rfl
    refine to_aload_n (dat dk_X12_remove 18 rfl) rfl (to_dup (dat dk_X12_remove 19 rfl) rfl (to_getIv (y := x3) (by rw [wh20]; exact (show h16.2.2 60 5 = x3 from (by rw [wh16]; exact ex3))) g_c13_499 (dat dk_X12_remove 20 rfl) (I18.atS rfl) (to_iconst (dat dk_X12_remove 21 rfl) (to_isub (dat dk_X12_remove 22 rfl) (to_putIw p_c13_499 (dat dk_X12_remove 23 rfl) (I18.atS rfl) ?_)))))
    intro h23 wh23
    have I21 : Inv h23 := by rw [wh23]; exact I18.put (a := 60) (j := 5) (x := (x3 - 1)) (-2147483648) (2147483647) rfl rfl (show (-2147483648 : Int) ≤ (x3 - 1) ∧ (x3 - 1) ≤ 2147483647 by omega)
    have f22 : Fr [65, 200, 205] h h23 := by rw [wh23]; exact Fr.putF (a := 60) (j := 5) (x := (x3 - 1)) f19 rfl
    have e24 : h23.2.2 60 0 = (0 : Int) := (by rw [wh23]; exact (show h20.2.2 60 0 = (0 : Int) from (by rw [wh20]; exact (show h16.2.2 60 0 = (0 : Int) from (by rw [wh16]; exact wr_eq)))))
    have e25 : h23.2.2 60 5 = (x3 - 1) := (by rw [wh23]; exact wr_eq)
    exact to_vret rfl (dat dk_X12_remove 24 rfl) (rv_mk ⟨I21, f22, (Or.inr ⟨by omega, by omega, by omega, fun j => by rw [wh23, wr_ne (by decide), wh20, wr_if, wh16, wr_ne (by decide)]; simp⟩)⟩)
