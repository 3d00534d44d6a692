/-! Contracts, by program. -/
abbrev Q_X12_isThere_vcc (h : Hp) (n : Int) : Option V → Hp → Nat → Nat → Prop := RI (fun x H => h = H ∧ (x = 0 ∨ x = 1) ∧ ((x = 1 ∧ 0 ≤ n ∧ n < H.2.2 60 4 ∧ H.2.2 65 (Int.toNat n) ≠ 0) ∨ (x = 0 ∧ (n < 0 ∨ H.2.2 60 4 ≤ n ∨ H.2.2 65 (Int.toNat n) = 0))))
set_option maxRecDepth 100000 in
theorem ct_X12_isThere_vcc (l : Launch) (h : Hp) (hI : Inv h) (n : Int) (hn : I32 n) : Ct l D_X12_isThere 0 0 [.inr (.inr 60), .inl n] h (Q_X12_isThere_vcc h n) := by
  refine ct_of pn_X12_isThere (Nat.le_of_ble_eq_true rfl) ?_
  show To l E_X12_isThere (0, [(0, .inr (.inr 60)), (1, .inl n)], [], h, 0, 0) _
  refine to_iload_n (dat dk_X12_isThere 0 rfl) rfl ?_
  refine to_iflt 25 (dat dk_X12_isThere 1 rfl) rfl hn (fun c1 => ?_) (fun c1 => ?_)
  · skip
    refine to_iconst (dat dk_X12_isThere 13 rfl) ?_
    exact to_zret rfl (dat dk_X12_isThere 14 rfl) (by decide) (ri_mk (by decide) ⟨rfl, (by decide), (show ((0 : Int) = 1 ∧ 0 ≤ n ∧ n < h.2.2 60 4 ∧ h.2.2 65 (Int.toNat n) ≠ 0) ∨ ((0 : Int) = 0 ∧ (n < 0 ∨ h.2.2 60 4 ≤ n ∨ h.2.2 65 (Int.toNat n) = 0)) by omega)⟩)
  · skip
    refine to_iload_n (dat dk_X12_isThere 2 rfl) rfl (to_aload_n (dat dk_X12_isThere 3 rfl) rfl ?_)
    obtain ⟨x2, ex2⟩ : ∃ y : Int, h.2.2 60 4 = y := ⟨_, rfl⟩
    have rx2 := hI.atR (a := 60) (j := 4) rfl
    rw [ex2] at rx2
    refine to_getIv (y := x2) ex2 g_c13_382 (dat dk_X12_isThere 4 rfl) (hI.atS rfl) ?_
    refine to_ige 25 (dat dk_X12_isThere 5 rfl) rfl hn (by omega) (fun c3 => ?_) (fun c3 => ?_)
    · skip
      refine to_iconst (dat dk_X12_isThere 13 rfl) ?_
      exact to_zret rfl (dat dk_X12_isThere 14 rfl) (by decide) (ri_mk (by decide) ⟨rfl, (by decide), (show ((0 : Int) = 1 ∧ 0 ≤ n ∧ n < h.2.2 60 4 ∧ h.2.2 65 (Int.toNat n) ≠ 0) ∨ ((0 : Int) = 0 ∧ (n < 0 ∨ h.2.2 60 4 ≤ n ∨ h.2.2 65 (Int.toNat n) = 0)) by omega)⟩)
    · skip
      refine to_aload_n (dat dk_X12_isThere 6 rfl) rfl (to_getR 65 g_c13_24 (dat dk_X12_isThere 7 rfl) (hI.atS rfl) (hI.atE rfl) (to_iload_n (dat dk_X12_isThere 8 rfl) rfl ?_))
      obtain ⟨x4, ex4⟩ : ∃ y : Int, h.2.2 65 (Int.toNat n) = y := ⟨_, rfl⟩
      have rx4 := hI.atR (a := 65) (j := Int.toNat n) rfl
      rw [ex4] at rx4
      refine to_baldv (q := 2) ex4 (dat dk_X12_isThere 9 rfl) (by decide) (hI.atS rfl) rfl (by decide) (by omega) ?_
      refine to_ifeq 25 (dat dk_X12_isThere 10 rfl) rfl (by omega) (fun c5 => ?_) (fun c5 => ?_)
      · skip
        refine to_iconst (dat dk_X12_isThere 13 rfl) ?_
        exact to_zret rfl (dat dk_X12_isThere 14 rfl) (by decide) (ri_mk (by decide) ⟨rfl, (by decide), (show ((0 : Int) = 1 ∧ 0 ≤ n ∧ n < h.2.2 60 4 ∧ h.2.2 65 (Int.toNat n) ≠ 0) ∨ ((0 : Int) = 0 ∧ (n < 0 ∨ h.2.2 60 4 ≤ n ∨ h.2.2 65 (Int.toNat n) = 0)) by omega)⟩)
      · skip
        refine to_iconst (dat dk_X12_isThere 11 rfl) (to_goto (dat dk_X12_isThere 12 rfl) rfl ?_)
        exact to_zret rfl (dat dk_X12_isThere 14 rfl) (by decide) (ri_mk (by decide) ⟨rfl, (by decide), (show ((1 : Int) = 1 ∧ 0 ≤ n ∧ n < h.2.2 60 4 ∧ h.2.2 65 (Int.toNat n) ≠ 0) ∨ ((1 : Int) = 0 ∧ (n < 0 ∨ h.2.2 60 4 ≤ n ∨ h.2.2 65 (Int.toNat n) = 0)) by omega)⟩)
abbrev Q_X12_remove_vbb (h : Hp) (n : Int) : Option V → Hp → Nat → Nat → Prop := RV (fun H => Inv H ∧ Fr [65, 200, 205] h H ∧ ((n < 0 ∨ h.2.2 60 4 ≤ n ∨ h.2.2 65 (Int.toNat n) = 0) ∧ H.2.2 60 5 = h.2.2 60 5 ∧ H.2.2 65 = h.2.2 65 ∨ (0 ≤ n ∧ n < h.2.2 60 4 ∧ h.2.2 65 (Int.toNat n) ≠ 0) ∧ H.2.2 60 5 = h.2.2 60 5 - 1 ∧ ∀ j : Nat, H.2.2 65 j = if j = Int.toNat n then 0 else h.2.2 65 j))
set_option maxRecDepth 100000 in
theorem ct_X12_remove_vbb (l : Launch) (h : Hp) (hI : Inv h) (n : Int) (hn : I32 n) (g0 : 0 ≤ h.2.2 60 5) : Ct l D_X12_remove 1 21 [.inr (.inr 60), .inl n] h (Q_X12_remove_vbb h n) := by
  refine ct_of pn_X12_remove (Nat.le_of_ble_eq_true rfl) ?_
  show To l E_X12_remove (0, [(0, .inr (.inr 60)), (1, .inl n)], [], h, 0, 0) _
  obtain ⟨x1, ex1⟩ : ∃ y : Int, h.2.2 60 4 = y := ⟨_, rfl⟩
  have rx1 := hI.atR (a := 60) (j := 4) rfl
  rw [ex1] at rx1
  obtain ⟨x2, ex2⟩ : ∃ y : Int, h.2.2 60 5 = y := ⟨_, rfl⟩
  have rx2 := hI.atR (a := 60) (j := 5) rfl
  rw [ex2] at rx2
  refine to_aload_n (dat dk_X12_remove 0 rfl) rfl (to_aload_n (dat dk_X12_remove 1 rfl) rfl (to_iload_n (dat dk_X12_remove 2 rfl) rfl ?_))
  refine to_cI ca_c13_505 (dat dk_X12_remove 3 rfl) (ct_X12_isThere_vcc l h hI n hn) rfl ⟨_, _, rfl, (hI.atS rfl)⟩ rfl (fun x3 h4 rx3 p5 => ?_)
  obtain ⟨rfl, zx3, p5_0⟩ := p5
  have rzx3 := z_lin zx3
  clear zx3
  clear rx3
  have rx3 := rzx3
  clear rzx3
  refine to_ifeq 13 (dat dk_X12_remove 4 rfl) rfl (z_i32 rx3) (fun c6 => ?_) (fun c6 => ?_)
  · skip
    refine to_iconst (dat dk_X12_remove 7 rfl) (to_putIw p_c13_154 (dat dk_X12_remove 8 rfl) (hI.atS rfl) ?_)
    intro h9 wh9
    have I7 : Inv h9 := by rw [wh9]; exact hI.put (a := 60) (j := 0) (x := 1) (0) (3) rfl rfl (show (0 : Int) ≤ 1 ∧ 1 ≤ 3 by decide)
    have f8 : Fr [65, 200, 205] h h9 := by rw [wh9]; exact Fr.putF (a := 60) (j := 0) (x := 1) (Fr.rf _ _) rfl
    refine to_aload_n (dat dk_X12_remove 9 rfl) rfl (to_getIv (y := 1) (by rw [wh9]; exact wr_eq) g_c13_154 (dat dk_X12_remove 10 rfl) (I7.atS rfl) ?_)
    refine to_ifle 25 (dat dk_X12_remove 11 rfl) rfl (by decide) (fun c10 => absurd c10 (by decide)) (fun c10 => ?_)
    have e11 : h9.2.2 60 5 = x2 := (by rw [wh9]; exact ex2)
    exact to_vret rfl (dat dk_X12_remove 12 rfl) (rv_mk ⟨I7, f8, (Or.inl ⟨by omega, by omega, by rw [wh9]; exact funext fun i => wr_ne (by decide)⟩)⟩)
  · skip
    replace c6 := z_one rx3 c6
    refine to_iconst (dat dk_X12_remove 5 rfl) (to_goto (dat dk_X12_remove 6 rfl) rfl (to_putIw p_c13_154 (dat dk_X12_remove 8 rfl) (hI.atS rfl) ?_))
    intro h14 wh14
    have I12 : Inv h14 := by rw [wh14]; exact hI.put (a := 60) (j := 0) (x := 0) (0) (3) rfl rfl (show (0 : Int) ≤ 0 ∧ 0 ≤ 3 by decide)
    have f13 : Fr [65, 200, 205] h h14 := by rw [wh14]; exact Fr.putF (a := 60) (j := 0) (x := 0) (Fr.rf _ _) rfl
    refine to_aload_n (dat dk_X12_remove 9 rfl) rfl (to_getIv (y := 0) (by rw [wh14]; exact wr_eq) g_c13_154 (dat dk_X12_remove 10 rfl) (I12.atS rfl) ?_)
    refine to_ifle 25 (dat dk_X12_remove 11 rfl) rfl (by decide) (fun c15 => ?_) (fun c15 => absurd c15 (by decide))
    refine to_aload_n (dat dk_X12_remove 13 rfl) rfl (to_getR 65 g_c13_24 (dat dk_X12_remove 14 rfl) (I12.atS rfl) (I12.atE rfl) (to_iload_n (dat dk_X12_remove 15 rfl) rfl (to_iconst (dat dk_X12_remove 16 rfl) (to_zastw (dat dk_X12_remove 17 rfl) (I12.atS rfl) rfl (by decide) (by omega) (by decide) ?_))))
    intro h18 wh18
    have I16 : Inv h18 := by rw [wh18]; exact I12.put (a := 65) (j := (Int.toNat n)) (x := 0) (0) (1) rfl rfl (show (0 : Int) ≤ 0 ∧ 0 ≤ 1 by decide)
    have f17 : Fr [65, 200, 205] h h18 := by rw [wh18]; exact Fr.putF (a := 65) (j := (Int.toNat n)) (x := 0) f13 rfl
    refine to_aload_n (dat dk_X12_remove 18 rfl) rfl (to_dup (dat dk_X12_remove 19 rfl) rfl (to_getIv (y := x2) (by rw [wh18]; exact (show h14.2.2 60 5 = x2 from (by rw [wh14]; exact ex2))) g_c13_499 (dat dk_X12_remove 20 rfl) (I16.atS rfl) (to_iconst (dat dk_X12_remove 21 rfl) (to_isub (dat dk_X12_remove 22 rfl) (to_putIw p_c13_499 (dat dk_X12_remove 23 rfl) (I16.atS rfl) ?_)))))
    intro h21 wh21
    have I19 : Inv h21 := by rw [wh21]; exact I16.put (a := 60) (j := 5) (x := (x2 - 1)) (-2147483648) (2147483647) rfl rfl (show (-2147483648 : Int) ≤ (x2 - 1) ∧ (x2 - 1) ≤ 2147483647 by omega)
    have f20 : Fr [65, 200, 205] h h21 := by rw [wh21]; exact Fr.putF (a := 60) (j := 5) (x := (x2 - 1)) f17 rfl
    have e22 : h21.2.2 60 5 = (x2 - 1) := (by rw [wh21]; exact wr_eq)
    exact to_vret rfl (dat dk_X12_remove 24 rfl) (rv_mk ⟨I19, f20, (Or.inr ⟨by omega, by omega, fun j => by rw [wh21, wr_ne (by decide), wh18, wr_if, wh14, wr_ne (by decide)]; simp⟩)⟩)
