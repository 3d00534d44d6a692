/-! Contracts, by program. -/
abbrev Q_X8_startLevel_vx (h : Hp) (n : Int) : Option V → Hp → Nat → Nat → Prop := RV (fun H => Inv H ∧ Fr [49, 50, 51, 52] h H ∧ (H.2.2 49 14 = n) ∧ (H.2.2 49 16 = h.2.2 49 16))
set_option maxRecDepth 100000 in
theorem ct_X8_startLevel_vx (l : Launch) (h : Hp) (hI : Inv h) (n : Int) (hn : I32 n) (g0 : 0 ≤ n ∧ n ≤ 20) : Ct l D_X8_startLevel 1 20 [.inr (.inr 49), .inl n] h (Q_X8_startLevel_vx h n) := by
  refine ct_of pn_X8_startLevel (Nat.le_of_ble_eq_true rfl) ?_
  show To l E_X8_startLevel (0, [(0, .inr (.inr 49)), (1, .inl n)], [], h, 0, 0) _
  obtain ⟨x1, ex1⟩ : ∃ y : Int, h.2.2 49 14 = y := ⟨_, rfl⟩
  have rx1 := hI.atR (a := 49) (j := 14) rfl
  rw [ex1] at rx1
  obtain ⟨x2, ex2⟩ : ∃ y : Int, h.2.2 49 16 = y := ⟨_, rfl⟩
  have rx2 := hI.atR (a := 49) (j := 16) rfl
  rw [ex2] at rx2
  refine to_aload_n (dat dk_X8_startLevel 0 rfl) rfl (to_iload_n (dat dk_X8_startLevel 1 rfl) rfl (to_putIw p_c9_109 (dat dk_X8_startLevel 2 rfl) (hI.atS rfl) ?_))
  intro h5 wh5
  have I3 : Inv h5 := by rw [wh5]; exact hI.put (a := 49) (j := 14) (x := n) (-2147483648) (2147483647) rfl rfl (show (-2147483648 : Int) ≤ n ∧ n ≤ 2147483647 by omega)
  have f4 : Fr [49, 50, 51, 52] h h5 := by rw [wh5]; exact Fr.putF (a := 49) (j := 14) (x := n) (Fr.rf _ _) rfl
  refine to_aload_n (dat dk_X8_startLevel 3 rfl) rfl ?_
  have e6 : h5.2.2 49 14 = n := (by rw [wh5]; exact wr_eq)
  refine to_cI ca_c9_121 (dat dk_X8_startLevel 4 rfl) (ct_X8_isLevel l h5 I3 ) rfl ⟨_, _, rfl, (I3.atS rfl)⟩ rfl (fun x7 h8 rx7 p9 => ?_)
  obtain ⟨rfl, zx7, p9_0⟩ := p9
  refine to_ifeq 45 (dat dk_X8_startLevel 5 rfl) rfl rx7 (fun c10 => ?_) (fun c10 => ?_)
  · skip
    have e11 : h5.2.2 49 16 = x2 := (by rw [wh5]; exact ex2)
    exact to_vret rfl (dat dk_X8_startLevel 25 rfl) (rv_mk ⟨I3, f4, (show h5.2.2 49 14 = n by omega), (show h5.2.2 49 16 = h.2.2 49 16 by omega)⟩)
  · skip
    refine to_aload_n (dat dk_X8_startLevel 6 rfl) rfl (to_getR 50 g_c9_11 (dat dk_X8_startLevel 7 rfl) (I3.atS rfl) (I3.atE rfl) (to_aload_n (dat dk_X8_startLevel 8 rfl) rfl (to_getIv (y := n) e6 g_c9_109 (dat dk_X8_startLevel 9 rfl) (I3.atS rfl) (to_lconst (v := 0) (dat dk_X8_startLevel 10 rfl) rfl (to_lastw (dat dk_X8_startLevel 11 rfl) (I3.atS rfl) rfl (by decide) (by omega) ?_)))))
    intro h14 wh14
    have I12 : Inv h14 := by rw [wh14]; exact I3.putL (x := 0) (a := 50) (j := (Int.toNat n)) rfl
    have f13 : Fr [49, 50, 51, 52] h h14 := by rw [wh14]; exact Fr.putF (a := 50) (j := (Int.toNat n)) (x := 0) f4 rfl
    refine to_aload_n (dat dk_X8_startLevel 12 rfl) rfl (to_getR 51 g_c9_15 (dat dk_X8_startLevel 13 rfl) (I12.atS rfl) (I12.atE rfl) (to_aload_n (dat dk_X8_startLevel 14 rfl) rfl (to_getIv (y := n) (by rw [wh14]; exact e6) g_c9_109 (dat dk_X8_startLevel 15 rfl) (I12.atS rfl) (to_aload_n (dat dk_X8_startLevel 16 rfl) rfl ?_))))
    refine to_getL g_c9_73 (dat dk_X8_startLevel 17 rfl) (I12.atS rfl) ?_
    generalize h14.2.2 49 15 = w15
    refine to_lastw (dat dk_X8_startLevel 18 rfl) (I12.atS rfl) rfl (by decide) (by omega) ?_
    intro h18 wh18
    have I16 : Inv h18 := by rw [wh18]; exact I12.putL (x := w15) (a := 51) (j := (Int.toNat n)) rfl
    have f17 : Fr [49, 50, 51, 52] h h18 := by rw [wh18]; exact Fr.putF (a := 51) (j := (Int.toNat n)) (x := w15) f13 rfl
    refine to_aload_n (dat dk_X8_startLevel 19 rfl) rfl (to_getR 52 g_c9_18 (dat dk_X8_startLevel 20 rfl) (I16.atS rfl) (I16.atE rfl) (to_aload_n (dat dk_X8_startLevel 21 rfl) rfl (to_getIv (y := n) (by rw [wh18]; exact (show h14.2.2 49 14 = n from (by rw [wh14]; exact e6))) g_c9_109 (dat dk_X8_startLevel 22 rfl) (I16.atS rfl) (to_iconst (dat dk_X8_startLevel 23 rfl) (to_zastw (dat dk_X8_startLevel 24 rfl) (I16.atS rfl) rfl (by decide) (by omega) (by decide) ?_)))))
    intro h21 wh21
    have I19 : Inv h21 := by rw [wh21]; exact I16.put (a := 52) (j := (Int.toNat n)) (x := 0) (0) (1) rfl rfl (show (0 : Int) ≤ 0 ∧ 0 ≤ 1 by decide)
    have f20 : Fr [49, 50, 51, 52] h h21 := by rw [wh21]; exact Fr.putF (a := 52) (j := (Int.toNat n)) (x := 0) f17 rfl
    have e22 : h21.2.2 49 14 = n := (by rw [wh21]; exact (show h18.2.2 49 14 = n from (by rw [wh18]; exact (show h14.2.2 49 14 = n from (by rw [wh14]; exact e6)))))
    have e23 : h21.2.2 49 16 = x2 := (by rw [wh21]; exact (show h18.2.2 49 16 = x2 from (by rw [wh18]; exact (show h14.2.2 49 16 = x2 from (by rw [wh14]; exact (show h5.2.2 49 16 = x2 from (by rw [wh5]; exact ex2)))))))
    exact to_vret rfl (dat dk_X8_startLevel 25 rfl) (rv_mk ⟨I19, f20, (show h21.2.2 49 14 = n by omega), (show h21.2.2 49 16 = h.2.2 49 16 by omega)⟩)
abbrev Q_X8_canStand_vx (h : Hp) (n : Int) (y : Int) (f : Int) : Option V → Hp → Nat → Nat → Prop := RI (fun x H => h = H ∧ (x = 0 ∨ x = 1) ∧ ((x = 1 ∧ ((n = 0 ∧ y = 0 ∧ H.2.2 49 14 = 0) ∨ (n = 1 ∧ H.2.2 49 14 < 20) ∨ (n = 2 ∧ y = 0 ∧ 0 < H.2.2 49 14) ∨ ((n = 3 ∨ n = 4) ∧ y = 0 ∧ f = 0) ∨ n = 5 ∨ n = 6)) ∨ (x = 0 ∧ ((n = 0 ∧ (y = 1 ∨ H.2.2 49 14 ≠ 0)) ∨ (n = 1 ∧ 20 ≤ H.2.2 49 14) ∨ (n = 2 ∧ (y = 1 ∨ H.2.2 49 14 ≤ 0)) ∨ ((n = 3 ∨ n = 4) ∧ (y = 1 ∨ f = 1)) ∨ n = 7))))
set_option maxRecDepth 100000 in
theorem ct_X8_canStand_vx (l : Launch) (h : Hp) (hI : Inv h) (n : Int) (hn : I32 n) (y : Int) (hy : y = 0 ∨ y = 1) (f : Int) (hf : f = 0 ∨ f = 1) (g0 : 0 ≤ n ∧ n ≤ 7) : Ct l D_X8_canStand 0 0 [.inr (.inr 49), .inl n, .inl y, .inl f] h (Q_X8_canStand_vx h n y f) := by
  refine ct_of pn_X8_canStand (Nat.le_of_ble_eq_true rfl) ?_
  show To l E_X8_canStand (0, [(0, .inr (.inr 49)), (1, .inl n), (2, .inl y), (3, .inl f)], [], h, 0, 0) _
  refine to_iload_n (dat dk_X8_canStand 0 rfl) rfl ?_
  refine to_table (d := 113) (ts := [48, 65, 80, 97, 97, 113, 113, 111]) (dat dk_X8_canStand 1 rfl) rfl rfl rfl hn (fun c1 => ?_) ⟨fun c1 => ?_, fun c1 => ?_, fun c1 => ?_, fun c1 => ?_, fun c1 => ?_, fun c1 => ?_, fun c1 => ?_, fun c1 => ?_, trivial⟩
  · skip
    refine to_iconst (dat dk_X8_canStand 38 rfl) ?_
    exact to_zret rfl (dat dk_X8_canStand 39 rfl) (by decide) (ri_mk (by decide) ⟨rfl, (by decide), (show ((1 : Int) = 1 ∧ ((n = 0 ∧ y = 0 ∧ h.2.2 49 14 = 0) ∨ (n = 1 ∧ h.2.2 49 14 < 20) ∨ (n = 2 ∧ y = 0 ∧ 0 < h.2.2 49 14) ∨ ((n = 3 ∨ n = 4) ∧ y = 0 ∧ f = 0) ∨ n = 5 ∨ n = 6)) ∨ ((1 : Int) = 0 ∧ ((n = 0 ∧ (y = 1 ∨ h.2.2 49 14 ≠ 0)) ∨ (n = 1 ∧ 20 ≤ h.2.2 49 14) ∨ (n = 2 ∧ (y = 1 ∨ h.2.2 49 14 ≤ 0)) ∨ ((n = 3 ∨ n = 4) ∧ (y = 1 ∨ f = 1)) ∨ n = 7)) by omega)⟩)
  · skip
    refine to_iload_n (dat dk_X8_canStand 2 rfl) rfl ?_
    refine to_ifne 63 (dat dk_X8_canStand 3 rfl) rfl (by omega) (fun c2 => ?_) (fun c2 => ?_)
    · skip
      refine to_iconst (dat dk_X8_canStand 9 rfl) ?_
      exact to_zret rfl (dat dk_X8_canStand 10 rfl) (by decide) (ri_mk (by decide) ⟨rfl, (by decide), (show ((0 : Int) = 1 ∧ ((n = 0 ∧ y = 0 ∧ h.2.2 49 14 = 0) ∨ (n = 1 ∧ h.2.2 49 14 < 20) ∨ (n = 2 ∧ y = 0 ∧ 0 < h.2.2 49 14) ∨ ((n = 3 ∨ n = 4) ∧ y = 0 ∧ f = 0) ∨ n = 5 ∨ n = 6)) ∨ ((0 : Int) = 0 ∧ ((n = 0 ∧ (y = 1 ∨ h.2.2 49 14 ≠ 0)) ∨ (n = 1 ∧ 20 ≤ h.2.2 49 14) ∨ (n = 2 ∧ (y = 1 ∨ h.2.2 49 14 ≤ 0)) ∨ ((n = 3 ∨ n = 4) ∧ (y = 1 ∨ f = 1)) ∨ n = 7)) by omega)⟩)
    · skip
      refine to_aload_n (dat dk_X8_canStand 4 rfl) rfl ?_
      obtain ⟨x3, ex3⟩ : ∃ y : Int, h.2.2 49 14 = y := ⟨_, rfl⟩
      have rx3 := hI.atR (a := 49) (j := 14) rfl
      rw [ex3] at rx3
      refine to_getIv (y := x3) ex3 g_c9_109 (dat dk_X8_canStand 5 rfl) (hI.atS rfl) ?_
      refine to_ifne 63 (dat dk_X8_canStand 6 rfl) rfl (by omega) (fun c4 => ?_) (fun c4 => ?_)
      · skip
        refine to_iconst (dat dk_X8_canStand 9 rfl) ?_
        exact to_zret rfl (dat dk_X8_canStand 10 rfl) (by decide) (ri_mk (by decide) ⟨rfl, (by decide), (show ((0 : Int) = 1 ∧ ((n = 0 ∧ y = 0 ∧ h.2.2 49 14 = 0) ∨ (n = 1 ∧ h.2.2 49 14 < 20) ∨ (n = 2 ∧ y = 0 ∧ 0 < h.2.2 49 14) ∨ ((n = 3 ∨ n = 4) ∧ y = 0 ∧ f = 0) ∨ n = 5 ∨ n = 6)) ∨ ((0 : Int) = 0 ∧ ((n = 0 ∧ (y = 1 ∨ h.2.2 49 14 ≠ 0)) ∨ (n = 1 ∧ 20 ≤ h.2.2 49 14) ∨ (n = 2 ∧ (y = 1 ∨ h.2.2 49 14 ≤ 0)) ∨ ((n = 3 ∨ n = 4) ∧ (y = 1 ∨ f = 1)) ∨ n = 7)) by omega)⟩)
      · skip
        refine to_iconst (dat dk_X8_canStand 7 rfl) (to_goto (dat dk_X8_canStand 8 rfl) rfl ?_)
        exact to_zret rfl (dat dk_X8_canStand 10 rfl) (by decide) (ri_mk (by decide) ⟨rfl, (by decide), (show ((1 : Int) = 1 ∧ ((n = 0 ∧ y = 0 ∧ h.2.2 49 14 = 0) ∨ (n = 1 ∧ h.2.2 49 14 < 20) ∨ (n = 2 ∧ y = 0 ∧ 0 < h.2.2 49 14) ∨ ((n = 3 ∨ n = 4) ∧ y = 0 ∧ f = 0) ∨ n = 5 ∨ n = 6)) ∨ ((1 : Int) = 0 ∧ ((n = 0 ∧ (y = 1 ∨ h.2.2 49 14 ≠ 0)) ∨ (n = 1 ∧ 20 ≤ h.2.2 49 14) ∨ (n = 2 ∧ (y = 1 ∨ h.2.2 49 14 ≤ 0)) ∨ ((n = 3 ∨ n = 4) ∧ (y = 1 ∨ f = 1)) ∨ n = 7)) by omega)⟩)
  · skip
    refine to_aload_n (dat dk_X8_canStand 11 rfl) rfl ?_
    obtain ⟨x5, ex5⟩ : ∃ y : Int, h.2.2 49 14 = y := ⟨_, rfl⟩
    have rx5 := hI.atR (a := 49) (j := 14) rfl
    rw [ex5] at rx5
    refine to_getIv (y := x5) ex5 g_c9_109 (dat dk_X8_canStand 12 rfl) (hI.atS rfl) (to_bipush (dat dk_X8_canStand 13 rfl) (by decide) ?_)
    refine to_ige 78 (dat dk_X8_canStand 14 rfl) rfl (by omega) (by decide) (fun c6 => ?_) (fun c6 => ?_)
    · skip
      refine to_iconst (dat dk_X8_canStand 17 rfl) ?_
      exact to_zret rfl (dat dk_X8_canStand 18 rfl) (by decide) (ri_mk (by decide) ⟨rfl, (by decide), (show ((0 : Int) = 1 ∧ ((n = 0 ∧ y = 0 ∧ h.2.2 49 14 = 0) ∨ (n = 1 ∧ h.2.2 49 14 < 20) ∨ (n = 2 ∧ y = 0 ∧ 0 < h.2.2 49 14) ∨ ((n = 3 ∨ n = 4) ∧ y = 0 ∧ f = 0) ∨ n = 5 ∨ n = 6)) ∨ ((0 : Int) = 0 ∧ ((n = 0 ∧ (y = 1 ∨ h.2.2 49 14 ≠ 0)) ∨ (n = 1 ∧ 20 ≤ h.2.2 49 14) ∨ (n = 2 ∧ (y = 1 ∨ h.2.2 49 14 ≤ 0)) ∨ ((n = 3 ∨ n = 4) ∧ (y = 1 ∨ f = 1)) ∨ n = 7)) by omega)⟩)
    · skip
      refine to_iconst (dat dk_X8_canStand 15 rfl) (to_goto (dat dk_X8_canStand 16 rfl) rfl ?_)
      exact to_zret rfl (dat dk_X8_canStand 18 rfl) (by decide) (ri_mk (by decide) ⟨rfl, (by decide), (show ((1 : Int) = 1 ∧ ((n = 0 ∧ y = 0 ∧ h.2.2 49 14 = 0) ∨ (n = 1 ∧ h.2.2 49 14 < 20) ∨ (n = 2 ∧ y = 0 ∧ 0 < h.2.2 49 14) ∨ ((n = 3 ∨ n = 4) ∧ y = 0 ∧ f = 0) ∨ n = 5 ∨ n = 6)) ∨ ((1 : Int) = 0 ∧ ((n = 0 ∧ (y = 1 ∨ h.2.2 49 14 ≠ 0)) ∨ (n = 1 ∧ 20 ≤ h.2.2 49 14) ∨ (n = 2 ∧ (y = 1 ∨ h.2.2 49 14 ≤ 0)) ∨ ((n = 3 ∨ n = 4) ∧ (y = 1 ∨ f = 1)) ∨ n = 7)) by omega)⟩)
  · skip
    refine to_iload_n (dat dk_X8_canStand 19 rfl) rfl ?_
    refine to_ifne 95 (dat dk_X8_canStand 20 rfl) rfl (by omega) (fun c7 => ?_) (fun c7 => ?_)
    · skip
      refine to_iconst (dat dk_X8_canStand 26 rfl) ?_
      exact to_zret rfl (dat dk_X8_canStand 27 rfl) (by decide) (ri_mk (by decide) ⟨rfl, (by decide), (show ((0 : Int) = 1 ∧ ((n = 0 ∧ y = 0 ∧ h.2.2 49 14 = 0) ∨ (n = 1 ∧ h.2.2 49 14 < 20) ∨ (n = 2 ∧ y = 0 ∧ 0 < h.2.2 49 14) ∨ ((n = 3 ∨ n = 4) ∧ y = 0 ∧ f = 0) ∨ n = 5 ∨ n = 6)) ∨ ((0 : Int) = 0 ∧ ((n = 0 ∧ (y = 1 ∨ h.2.2 49 14 ≠ 0)) ∨ (n = 1 ∧ 20 ≤ h.2.2 49 14) ∨ (n = 2 ∧ (y = 1 ∨ h.2.2 49 14 ≤ 0)) ∨ ((n = 3 ∨ n = 4) ∧ (y = 1 ∨ f = 1)) ∨ n = 7)) by omega)⟩)
    · skip
      refine to_aload_n (dat dk_X8_canStand 21 rfl) rfl ?_
      obtain ⟨x8, ex8⟩ : ∃ y : Int, h.2.2 49 14 = y := ⟨_, rfl⟩
      have rx8 := hI.atR (a := 49) (j := 14) rfl
      rw [ex8] at rx8
      refine to_getIv (y := x8) ex8 g_c9_109 (dat dk_X8_canStand 22 rfl) (hI.atS rfl) ?_
      refine to_ifle 95 (dat dk_X8_canStand 23 rfl) rfl (by omega) (fun c9 => ?_) (fun c9 => ?_)
      · skip
        refine to_iconst (dat dk_X8_canStand 26 rfl) ?_
        exact to_zret rfl (dat dk_X8_canStand 27 rfl) (by decide) (ri_mk (by decide) ⟨rfl, (by decide), (show ((0 : Int) = 1 ∧ ((n = 0 ∧ y = 0 ∧ h.2.2 49 14 = 0) ∨ (n = 1 ∧ h.2.2 49 14 < 20) ∨ (n = 2 ∧ y = 0 ∧ 0 < h.2.2 49 14) ∨ ((n = 3 ∨ n = 4) ∧ y = 0 ∧ f = 0) ∨ n = 5 ∨ n = 6)) ∨ ((0 : Int) = 0 ∧ ((n = 0 ∧ (y = 1 ∨ h.2.2 49 14 ≠ 0)) ∨ (n = 1 ∧ 20 ≤ h.2.2 49 14) ∨ (n = 2 ∧ (y = 1 ∨ h.2.2 49 14 ≤ 0)) ∨ ((n = 3 ∨ n = 4) ∧ (y = 1 ∨ f = 1)) ∨ n = 7)) by omega)⟩)
      · skip
        refine to_iconst (dat dk_X8_canStand 24 rfl) (to_goto (dat dk_X8_canStand 25 rfl) rfl ?_)
        exact to_zret rfl (dat dk_X8_canStand 27 rfl) (by decide) (ri_mk (by decide) ⟨rfl, (by decide), (show ((1 : Int) = 1 ∧ ((n = 0 ∧ y = 0 ∧ h.2.2 49 14 = 0) ∨ (n = 1 ∧ h.2.2 49 14 < 20) ∨ (n = 2 ∧ y = 0 ∧ 0 < h.2.2 49 14) ∨ ((n = 3 ∨ n = 4) ∧ y = 0 ∧ f = 0) ∨ n = 5 ∨ n = 6)) ∨ ((1 : Int) = 0 ∧ ((n = 0 ∧ (y = 1 ∨ h.2.2 49 14 ≠ 0)) ∨ (n = 1 ∧ 20 ≤ h.2.2 49 14) ∨ (n = 2 ∧ (y = 1 ∨ h.2.2 49 14 ≤ 0)) ∨ ((n = 3 ∨ n = 4) ∧ (y = 1 ∨ f = 1)) ∨ n = 7)) by omega)⟩)
  · skip
    refine to_iload_n (dat dk_X8_canStand 28 rfl) rfl ?_
    refine to_ifne 109 (dat dk_X8_canStand 29 rfl) rfl (by omega) (fun c10 => ?_) (fun c10 => ?_)
    · skip
      refine to_iconst (dat dk_X8_canStand 34 rfl) ?_
      exact to_zret rfl (dat dk_X8_canStand 35 rfl) (by decide) (ri_mk (by decide) ⟨rfl, (by decide), (show ((0 : Int) = 1 ∧ ((n = 0 ∧ y = 0 ∧ h.2.2 49 14 = 0) ∨ (n = 1 ∧ h.2.2 49 14 < 20) ∨ (n = 2 ∧ y = 0 ∧ 0 < h.2.2 49 14) ∨ ((n = 3 ∨ n = 4) ∧ y = 0 ∧ f = 0) ∨ n = 5 ∨ n = 6)) ∨ ((0 : Int) = 0 ∧ ((n = 0 ∧ (y = 1 ∨ h.2.2 49 14 ≠ 0)) ∨ (n = 1 ∧ 20 ≤ h.2.2 49 14) ∨ (n = 2 ∧ (y = 1 ∨ h.2.2 49 14 ≤ 0)) ∨ ((n = 3 ∨ n = 4) ∧ (y = 1 ∨ f = 1)) ∨ n = 7)) by omega)⟩)
    · skip
      refine to_iload_n (dat dk_X8_canStand 30 rfl) rfl ?_
      refine to_ifne 109 (dat dk_X8_canStand 31 rfl) rfl (by omega) (fun c11 => ?_) (fun c11 => ?_)
      · skip
        refine to_iconst (dat dk_X8_canStand 34 rfl) ?_
        exact to_zret rfl (dat dk_X8_canStand 35 rfl) (by decide) (ri_mk (by decide) ⟨rfl, (by decide), (show ((0 : Int) = 1 ∧ ((n = 0 ∧ y = 0 ∧ h.2.2 49 14 = 0) ∨ (n = 1 ∧ h.2.2 49 14 < 20) ∨ (n = 2 ∧ y = 0 ∧ 0 < h.2.2 49 14) ∨ ((n = 3 ∨ n = 4) ∧ y = 0 ∧ f = 0) ∨ n = 5 ∨ n = 6)) ∨ ((0 : Int) = 0 ∧ ((n = 0 ∧ (y = 1 ∨ h.2.2 49 14 ≠ 0)) ∨ (n = 1 ∧ 20 ≤ h.2.2 49 14) ∨ (n = 2 ∧ (y = 1 ∨ h.2.2 49 14 ≤ 0)) ∨ ((n = 3 ∨ n = 4) ∧ (y = 1 ∨ f = 1)) ∨ n = 7)) by omega)⟩)
      · skip
        refine to_iconst (dat dk_X8_canStand 32 rfl) (to_goto (dat dk_X8_canStand 33 rfl) rfl ?_)
        exact to_zret rfl (dat dk_X8_canStand 35 rfl) (by decide) (ri_mk (by decide) ⟨rfl, (by decide), (show ((1 : Int) = 1 ∧ ((n = 0 ∧ y = 0 ∧ h.2.2 49 14 = 0) ∨ (n = 1 ∧ h.2.2 49 14 < 20) ∨ (n = 2 ∧ y = 0 ∧ 0 < h.2.2 49 14) ∨ ((n = 3 ∨ n = 4) ∧ y = 0 ∧ f = 0) ∨ n = 5 ∨ n = 6)) ∨ ((1 : Int) = 0 ∧ ((n = 0 ∧ (y = 1 ∨ h.2.2 49 14 ≠ 0)) ∨ (n = 1 ∧ 20 ≤ h.2.2 49 14) ∨ (n = 2 ∧ (y = 1 ∨ h.2.2 49 14 ≤ 0)) ∨ ((n = 3 ∨ n = 4) ∧ (y = 1 ∨ f = 1)) ∨ n = 7)) by omega)⟩)
  · skip
    refine to_iload_n (dat dk_X8_canStand 28 rfl) rfl ?_
    refine to_ifne 109 (dat dk_X8_canStand 29 rfl) rfl (by omega) (fun c12 => ?_) (fun c12 => ?_)
    · skip
      refine to_iconst (dat dk_X8_canStand 34 rfl) ?_
      exact to_zret rfl (dat dk_X8_canStand 35 rfl) (by decide) (ri_mk (by decide) ⟨rfl, (by decide), (show ((0 : Int) = 1 ∧ ((n = 0 ∧ y = 0 ∧ h.2.2 49 14 = 0) ∨ (n = 1 ∧ h.2.2 49 14 < 20) ∨ (n = 2 ∧ y = 0 ∧ 0 < h.2.2 49 14) ∨ ((n = 3 ∨ n = 4) ∧ y = 0 ∧ f = 0) ∨ n = 5 ∨ n = 6)) ∨ ((0 : Int) = 0 ∧ ((n = 0 ∧ (y = 1 ∨ h.2.2 49 14 ≠ 0)) ∨ (n = 1 ∧ 20 ≤ h.2.2 49 14) ∨ (n = 2 ∧ (y = 1 ∨ h.2.2 49 14 ≤ 0)) ∨ ((n = 3 ∨ n = 4) ∧ (y = 1 ∨ f = 1)) ∨ n = 7)) by omega)⟩)
    · skip
      refine to_iload_n (dat dk_X8_canStand 30 rfl) rfl ?_
      refine to_ifne 109 (dat dk_X8_canStand 31 rfl) rfl (by omega) (fun c13 => ?_) (fun c13 => ?_)
      · skip
        refine to_iconst (dat dk_X8_canStand 34 rfl) ?_
        exact to_zret rfl (dat dk_X8_canStand 35 rfl) (by decide) (ri_mk (by decide) ⟨rfl, (by decide), (show ((0 : Int) = 1 ∧ ((n = 0 ∧ y = 0 ∧ h.2.2 49 14 = 0) ∨ (n = 1 ∧ h.2.2 49 14 < 20) ∨ (n = 2 ∧ y = 0 ∧ 0 < h.2.2 49 14) ∨ ((n = 3 ∨ n = 4) ∧ y = 0 ∧ f = 0) ∨ n = 5 ∨ n = 6)) ∨ ((0 : Int) = 0 ∧ ((n = 0 ∧ (y = 1 ∨ h.2.2 49 14 ≠ 0)) ∨ (n = 1 ∧ 20 ≤ h.2.2 49 14) ∨ (n = 2 ∧ (y = 1 ∨ h.2.2 49 14 ≤ 0)) ∨ ((n = 3 ∨ n = 4) ∧ (y = 1 ∨ f = 1)) ∨ n = 7)) by omega)⟩)
      · skip
        refine to_iconst (dat dk_X8_canStand 32 rfl) (to_goto (dat dk_X8_canStand 33 rfl) rfl ?_)
        exact to_zret rfl (dat dk_X8_canStand 35 rfl) (by decide) (ri_mk (by decide) ⟨rfl, (by decide), (show ((1 : Int) = 1 ∧ ((n = 0 ∧ y = 0 ∧ h.2.2 49 14 = 0) ∨ (n = 1 ∧ h.2.2 49 14 < 20) ∨ (n = 2 ∧ y = 0 ∧ 0 < h.2.2 49 14) ∨ ((n = 3 ∨ n = 4) ∧ y = 0 ∧ f = 0) ∨ n = 5 ∨ n = 6)) ∨ ((1 : Int) = 0 ∧ ((n = 0 ∧ (y = 1 ∨ h.2.2 49 14 ≠ 0)) ∨ (n = 1 ∧ 20 ≤ h.2.2 49 14) ∨ (n = 2 ∧ (y = 1 ∨ h.2.2 49 14 ≤ 0)) ∨ ((n = 3 ∨ n = 4) ∧ (y = 1 ∨ f = 1)) ∨ n = 7)) by omega)⟩)
  · skip
    refine to_iconst (dat dk_X8_canStand 38 rfl) ?_
    exact to_zret rfl (dat dk_X8_canStand 39 rfl) (by decide) (ri_mk (by decide) ⟨rfl, (by decide), (show ((1 : Int) = 1 ∧ ((n = 0 ∧ y = 0 ∧ h.2.2 49 14 = 0) ∨ (n = 1 ∧ h.2.2 49 14 < 20) ∨ (n = 2 ∧ y = 0 ∧ 0 < h.2.2 49 14) ∨ ((n = 3 ∨ n = 4) ∧ y = 0 ∧ f = 0) ∨ n = 5 ∨ n = 6)) ∨ ((1 : Int) = 0 ∧ ((n = 0 ∧ (y = 1 ∨ h.2.2 49 14 ≠ 0)) ∨ (n = 1 ∧ 20 ≤ h.2.2 49 14) ∨ (n = 2 ∧ (y = 1 ∨ h.2.2 49 14 ≤ 0)) ∨ ((n = 3 ∨ n = 4) ∧ (y = 1 ∨ f = 1)) ∨ n = 7)) by omega)⟩)
  · skip
    refine to_iconst (dat dk_X8_canStand 38 rfl) ?_
    exact to_zret rfl (dat dk_X8_canStand 39 rfl) (by decide) (ri_mk (by decide) ⟨rfl, (by decide), (show ((1 : Int) = 1 ∧ ((n = 0 ∧ y = 0 ∧ h.2.2 49 14 = 0) ∨ (n = 1 ∧ h.2.2 49 14 < 20) ∨ (n = 2 ∧ y = 0 ∧ 0 < h.2.2 49 14) ∨ ((n = 3 ∨ n = 4) ∧ y = 0 ∧ f = 0) ∨ n = 5 ∨ n = 6)) ∨ ((1 : Int) = 0 ∧ ((n = 0 ∧ (y = 1 ∨ h.2.2 49 14 ≠ 0)) ∨ (n = 1 ∧ 20 ≤ h.2.2 49 14) ∨ (n = 2 ∧ (y = 1 ∨ h.2.2 49 14 ≤ 0)) ∨ ((n = 3 ∨ n = 4) ∧ (y = 1 ∨ f = 1)) ∨ n = 7)) by omega)⟩)
  · skip
    refine to_iconst (dat dk_X8_canStand 36 rfl) ?_
    exact to_zret rfl (dat dk_X8_canStand 37 rfl) (by decide) (ri_mk (by decide) ⟨rfl, (by decide), (show ((0 : Int) = 1 ∧ ((n = 0 ∧ y = 0 ∧ h.2.2 49 14 = 0) ∨ (n = 1 ∧ h.2.2 49 14 < 20) ∨ (n = 2 ∧ y = 0 ∧ 0 < h.2.2 49 14) ∨ ((n = 3 ∨ n = 4) ∧ y = 0 ∧ f = 0) ∨ n = 5 ∨ n = 6)) ∨ ((0 : Int) = 0 ∧ ((n = 0 ∧ (y = 1 ∨ h.2.2 49 14 ≠ 0)) ∨ (n = 1 ∧ 20 ≤ h.2.2 49 14) ∨ (n = 2 ∧ (y = 1 ∨ h.2.2 49 14 ≤ 0)) ∨ ((n = 3 ∨ n = 4) ∧ (y = 1 ∨ f = 1)) ∨ n = 7)) by omega)⟩)
abbrev Q_X8_take_vx (h : Hp) (n : Int) : Option V → Hp → Nat → Nat → Prop := RV (fun H => Inv H ∧ Fr [49, 50, 51, 52] h H ∧ ((n = 1 ∧ H.2.2 49 14 = h.2.2 49 14 + 1) ∨ (n = 2 ∧ H.2.2 49 14 = h.2.2 49 14 - 1) ∨ (3 ≤ n ∧ H.2.2 49 14 = h.2.2 49 14)) ∧ (H.2.2 49 16 = h.2.2 49 16))
set_option maxRecDepth 100000 in
theorem ct_X8_take_vx (l : Launch) (h : Hp) (hI : Inv h) (n : Int) (hn : I32 n) (g0 : 1 ≤ n ∧ n ≤ 5) (g1 : (n = 1 ∧ 0 ≤ h.2.2 49 14 ∧ h.2.2 49 14 < 20) ∨ (n = 2 ∧ 0 < h.2.2 49 14 ∧ h.2.2 49 14 ≤ 20) ∨ 3 ≤ n) : Ct l D_X8_take 2 42 [.inr (.inr 49), .inl n] h (Q_X8_take_vx h n) := by
  refine ct_of pn_X8_take (Nat.le_of_ble_eq_true rfl) ?_
  show To l E_X8_take (0, [(0, .inr (.inr 49)), (1, .inl n)], [], h, 0, 0) _
  obtain ⟨x1, ex1⟩ : ∃ y : Int, h.2.2 49 14 = y := ⟨_, rfl⟩
  have rx1 := hI.atR (a := 49) (j := 14) rfl
  rw [ex1] at rx1
  obtain ⟨x2, ex2⟩ : ∃ y : Int, h.2.2 49 16 = y := ⟨_, rfl⟩
  have rx2 := hI.atR (a := 49) (j := 16) rfl
  rw [ex2] at rx2
  refine to_iload_n (dat dk_X8_take 0 rfl) rfl ?_
  refine to_table (d := 86) (ts := [36, 49, 72, 86, 79]) (dat dk_X8_take 1 rfl) rfl rfl rfl hn (fun c3 => ?_) ⟨fun c3 => ?_, fun c3 => ?_, fun c3 => ?_, fun c3 => ?_, fun c3 => ?_, trivial⟩
  · skip
    exact to_vret rfl (dat dk_X8_take 28 rfl) (rv_mk ⟨hI, (Fr.rf _ _), (show (n = 1 ∧ h.2.2 49 14 = h.2.2 49 14 + 1) ∨ (n = 2 ∧ h.2.2 49 14 = h.2.2 49 14 - 1) ∨ (3 ≤ n ∧ h.2.2 49 14 = h.2.2 49 14) by omega), (show h.2.2 49 16 = h.2.2 49 16 by omega)⟩)
  · skip
    refine to_aload_n (dat dk_X8_take 2 rfl) rfl (to_aload_n (dat dk_X8_take 3 rfl) rfl (to_getIv (y := x1) ex1 g_c9_109 (dat dk_X8_take 4 rfl) (hI.atS rfl) (to_iconst (dat dk_X8_take 5 rfl) (to_iadd (dat dk_X8_take 6 rfl) ?_))))
    refine to_cV ca_c9_84 (dat dk_X8_take 7 rfl) (ct_X8_startLevel_vx l h hI (x1 + 1) (by omega) (show 0 ≤ (x1 + 1) ∧ (x1 + 1) ≤ 20 by omega)) rfl ⟨_, _, rfl, (hI.atS rfl)⟩ rfl (fun h5 p6 => ?_)
    obtain ⟨Ih5, fh5, p6_0, p6_1⟩ := p6
    have f7 : Fr [49, 50, 51, 52] h h5 := Fr.sub (Fr.rf _ _) fh5 (sub_self _)
    obtain ⟨x8, ex8⟩ : ∃ y : Int, h5.2.2 49 14 = y := ⟨_, rfl⟩
    have rx8 := Ih5.atR (a := 49) (j := 14) rfl
    rw [ex8] at rx8
    obtain ⟨x9, ex9⟩ : ∃ y : Int, h5.2.2 49 16 = y := ⟨_, rfl⟩
    have rx9 := Ih5.atR (a := 49) (j := 16) rfl
    rw [ex9] at rx9
    refine to_goto (dat dk_X8_take 8 rfl) rfl ?_
    exact to_vret rfl (dat dk_X8_take 28 rfl) (rv_mk ⟨Ih5, f7, (show (n = 1 ∧ h5.2.2 49 14 = h.2.2 49 14 + 1) ∨ (n = 2 ∧ h5.2.2 49 14 = h.2.2 49 14 - 1) ∨ (3 ≤ n ∧ h5.2.2 49 14 = h.2.2 49 14) by omega), (show h5.2.2 49 16 = h.2.2 49 16 by omega)⟩)
  · skip
    refine to_aload_n (dat dk_X8_take 9 rfl) rfl ?_
    refine to_cL ca_c9_112 (dat dk_X8_take 10 rfl) (ct_X8_levelSet l h hI ) rfl ⟨_, _, rfl, (hI.atS rfl)⟩ rfl (fun x10 h11 p12 => ?_)
    subst p12
    refine to_lstore_n (L' := [(2, .inr (.inl x10)), (0, .inr (.inr 49)), (1, .inl n)]) (dat dk_X8_take 11 rfl) (by decide) rfl (to_aload_n (dat dk_X8_take 12 rfl) rfl (to_dup (dat dk_X8_take 13 rfl) rfl (to_getIv (y := x1) ex1 g_c9_109 (dat dk_X8_take 14 rfl) (hI.atS rfl) (to_iconst (dat dk_X8_take 15 rfl) (to_isub (dat dk_X8_take 16 rfl) (to_putIw p_c9_109 (dat dk_X8_take 17 rfl) (hI.atS rfl) ?_))))))
    intro h15 wh15
    have I13 : Inv h15 := by rw [wh15]; exact hI.put (a := 49) (j := 14) (x := (x1 - 1)) (-2147483648) (2147483647) rfl rfl (show (-2147483648 : Int) ≤ (x1 - 1) ∧ (x1 - 1) ≤ 2147483647 by omega)
    have f14 : Fr [49, 50, 51, 52] h h15 := by rw [wh15]; exact Fr.putF (a := 49) (j := 14) (x := (x1 - 1)) (Fr.rf _ _) rfl
    refine to_aload_n (dat dk_X8_take 18 rfl) rfl (to_lload_n (dat dk_X8_take 19 rfl) rfl ?_)
    refine to_cV ca_c9_102 (dat dk_X8_take 20 rfl) (ct_X8_join l h15 I13 x10) rfl ⟨_, _, rfl, (I13.atS rfl)⟩ rfl (fun h17 p18 => ?_)
    obtain ⟨Ih17, fh17⟩ := p18
    have f19 : Fr [49, 50, 51, 52] h h17 := Fr.sub f14 fh17 rfl
    refine to_goto (dat dk_X8_take 21 rfl) rfl ?_
    have e20 : h17.2.2 49 14 = (x1 - 1) := ((Fr.get fh17 (by have := I13.1.1; omega) rfl).trans (by rw [wh15]; exact wr_eq))
    have e21 : h17.2.2 49 16 = x2 := ((Fr.get fh17 (by have := I13.1.1; omega) rfl).trans (by rw [wh15]; exact ex2))
    exact to_vret rfl (dat dk_X8_take 28 rfl) (rv_mk ⟨Ih17, f19, (show (n = 1 ∧ h17.2.2 49 14 = h.2.2 49 14 + 1) ∨ (n = 2 ∧ h17.2.2 49 14 = h.2.2 49 14 - 1) ∨ (3 ≤ n ∧ h17.2.2 49 14 = h.2.2 49 14) by omega), (show h17.2.2 49 16 = h.2.2 49 16 by omega)⟩)
  · skip
    refine to_aload_n (dat dk_X8_take 22 rfl) rfl ?_
    refine to_cV ca_c9_115 (dat dk_X8_take 23 rfl) (ct_X8_startNextAll l h hI ) rfl ⟨_, _, rfl, (hI.atS rfl)⟩ rfl (fun h23 p24 => ?_)
    obtain ⟨Ih23, fh23⟩ := p24
    have f25 : Fr [49, 50, 51, 52] h h23 := Fr.sub (Fr.rf _ _) fh23 rfl
    refine to_goto (dat dk_X8_take 24 rfl) rfl ?_
    have e26 : h23.2.2 49 14 = x1 := ((Fr.get fh23 (by have := hI.1.1; omega) rfl).trans ex1)
    have e27 : h23.2.2 49 16 = x2 := ((Fr.get fh23 (by have := hI.1.1; omega) rfl).trans ex2)
    exact to_vret rfl (dat dk_X8_take 28 rfl) (rv_mk ⟨Ih23, f25, (show (n = 1 ∧ h23.2.2 49 14 = h.2.2 49 14 + 1) ∨ (n = 2 ∧ h23.2.2 49 14 = h.2.2 49 14 - 1) ∨ (3 ≤ n ∧ h23.2.2 49 14 = h.2.2 49 14) by omega), (show h23.2.2 49 16 = h.2.2 49 16 by omega)⟩)
  · skip
    exact to_vret rfl (dat dk_X8_take 28 rfl) (rv_mk ⟨hI, (Fr.rf _ _), (show (n = 1 ∧ h.2.2 49 14 = h.2.2 49 14 + 1) ∨ (n = 2 ∧ h.2.2 49 14 = h.2.2 49 14 - 1) ∨ (3 ≤ n ∧ h.2.2 49 14 = h.2.2 49 14) by omega), (show h.2.2 49 16 = h.2.2 49 16 by omega)⟩)
  · skip
    refine to_aload_n (dat dk_X8_take 25 rfl) rfl ?_
    refine to_cV ca_c9_118 (dat dk_X8_take 26 rfl) (ct_X8_turn l h hI ) rfl ⟨_, _, rfl, (hI.atS rfl)⟩ rfl (fun h29 p30 => ?_)
    obtain ⟨Ih29, fh29⟩ := p30
    have f31 : Fr [49, 50, 51, 52] h h29 := Fr.sub (Fr.rf _ _) fh29 rfl
    refine to_goto (dat dk_X8_take 27 rfl) rfl ?_
    have e32 : h29.2.2 49 14 = x1 := ((Fr.get fh29 (by have := hI.1.1; omega) rfl).trans ex1)
    have e33 : h29.2.2 49 16 = x2 := ((Fr.get fh29 (by have := hI.1.1; omega) rfl).trans ex2)
    exact to_vret rfl (dat dk_X8_take 28 rfl) (rv_mk ⟨Ih29, f31, (show (n = 1 ∧ h29.2.2 49 14 = h.2.2 49 14 + 1) ∨ (n = 2 ∧ h29.2.2 49 14 = h.2.2 49 14 - 1) ∨ (3 ≤ n ∧ h29.2.2 49 14 = h.2.2 49 14) by omega), (show h29.2.2 49 16 = h.2.2 49 16 by omega)⟩)
abbrev Q_X8_readPhrase_vx (h : Hp) : Option V → Hp → Nat → Nat → Prop := RV (fun H => Inv H ∧ Fr [49, 53, 54] h H ∧ (H.2.2 49 14 = h.2.2 49 14) ∧ (H.2.2 49 16 = h.2.2 49 16))
set_option maxRecDepth 100000 in
theorem ct_X8_readPhrase_vx (l : Launch) (h : Hp) (hI : Inv h)  : Ct l D_X8_readPhrase 3 74 [.inr (.inr 49)] h (Q_X8_readPhrase_vx h) := by
  refine ct_of pn_X8_readPhrase (Nat.le_of_ble_eq_true rfl) ?_
  show To l E_X8_readPhrase (0, [(0, .inr (.inr 49))], [], h, 0, 0) _
  obtain ⟨x1, ex1⟩ : ∃ y : Int, h.2.2 49 14 = y := ⟨_, rfl⟩
  have rx1 := hI.atR (a := 49) (j := 14) rfl
  rw [ex1] at rx1
  obtain ⟨x2, ex2⟩ : ∃ y : Int, h.2.2 49 16 = y := ⟨_, rfl⟩
  have rx2 := hI.atR (a := 49) (j := 16) rfl
  rw [ex2] at rx2
  obtain ⟨x3, ex3⟩ : ∃ y : Int, h.2.2 49 12 = y := ⟨_, rfl⟩
  have rx3 := hI.atR (a := 49) (j := 12) rfl
  rw [ex3] at rx3
  refine to_aload_n (dat dk_X8_readPhrase 0 rfl) rfl ?_
  have jn37_n5 : ∀ (y4 : Int), (y4 = 0 ∨ y4 = 1) → To l E_X8_readPhrase (37, [(0, .inr (.inr 49))], [.inl y4, .inr (.inr 49)], h, 0, 0) (Q_X8_readPhrase_vx h) := by
    intro y4 ry4
    refine to_putZw p_c9_205 (dat dk_X8_readPhrase 18 rfl) (hI.atS rfl) (by omega) ?_
    intro h8 wh8
    have I6 : Inv h8 := by rw [wh8]; exact hI.put (a := 49) (j := 13) (x := y4) (0) (1) rfl rfl (show (0 : Int) ≤ y4 ∧ y4 ≤ 1 by omega)
    have f7 : Fr [49, 53, 54] h h8 := by rw [wh8]; exact Fr.putF (a := 49) (j := 13) (x := y4) (Fr.rf _ _) rfl
    refine to_aload_n (dat dk_X8_readPhrase 19 rfl) rfl (to_iconst (dat dk_X8_readPhrase 20 rfl) (to_putIw p_c9_208 (dat dk_X8_readPhrase 21 rfl) (I6.atS rfl) ?_))
    intro h11 wh11
    have I9 : Inv h11 := by rw [wh11]; exact I6.put (a := 49) (j := 12) (x := 0) (0) (1200) rfl rfl (show (0 : Int) ≤ 0 ∧ 0 ≤ 1200 by decide)
    have f10 : Fr [49, 53, 54] h h11 := by rw [wh11]; exact Fr.putF (a := 49) (j := 12) (x := 0) f7 rfl
    refine to_aload_n (dat dk_X8_readPhrase 22 rfl) rfl (to_getR 56 g_c9_63 (dat dk_X8_readPhrase 23 rfl) (I9.atS rfl) (I9.atE rfl) ?_)
    obtain ⟨x12, ex12⟩ : ∃ y : Int, h11.2.2 56 5 = y := ⟨_, rfl⟩
    have rx12 := I9.atR (a := 56) (j := 5) rfl
    rw [ex12] at rx12
    refine to_getIv (y := x12) ex12 g_c9_133 (dat dk_X8_readPhrase 24 rfl) (I9.atS rfl) (to_istore_n (L' := [(0, .inr (.inr 49)), (1, .inl x12)]) (dat dk_X8_readPhrase 25 rfl) (by decide) rfl ?_)
    have lp53_n16 : ∀ (n16 : Nat) (y13 : Int), (I32 y13) → (0 ≤ y13) → (y13 ≤ 1201) → (y13 ≤ (n16 : Int)) → To l E_X8_readPhrase (53, [(0, .inr (.inr 49)), (1, .inl y13)], [], h11, 0, 0) (Q_X8_readPhrase_vx h) := by
      intro n16
      induction n16 using Nat.strongRecOn with
      | _ n16 ihn16 =>
      intro y13 ry13 c14 c15 c17
      refine to_iload_n (dat dk_X8_readPhrase 26 rfl) rfl (to_aload_n (dat dk_X8_readPhrase 27 rfl) rfl (to_getR 56 g_c9_63 (dat dk_X8_readPhrase 28 rfl) (I9.atS rfl) (I9.atE rfl) ?_))
      obtain ⟨x18, ex18⟩ : ∃ y : Int, h11.2.2 56 4 = y := ⟨_, rfl⟩
      have rx18 := I9.atR (a := 56) (j := 4) rfl
      rw [ex18] at rx18
      refine to_getIv (y := x18) ex18 g_c9_130 (dat dk_X8_readPhrase 29 rfl) (I9.atS rfl) ?_
      refine to_ile 86 (dat dk_X8_readPhrase 30 rfl) rfl ry13 (by omega) (fun c19 => ?_) (fun c19 => ?_)
      · skip
        refine to_aload_n (dat dk_X8_readPhrase 41 rfl) rfl (to_getR 56 g_c9_63 (dat dk_X8_readPhrase 42 rfl) (I9.atS rfl) (I9.atE rfl) (to_getIv (y := x18) ex18 g_c9_130 (dat dk_X8_readPhrase 43 rfl) (I9.atS rfl) (to_istore_n (L' := [(0, .inr (.inr 49)), (1, .inl y13), (2, .inl x18)]) (dat dk_X8_readPhrase 44 rfl) (by decide) rfl (to_iconst (dat dk_X8_readPhrase 45 rfl) (to_istore_n (L' := [(0, .inr (.inr 49)), (1, .inl y13), (2, .inl x18), (3, .inl 0)]) (dat dk_X8_readPhrase 46 rfl) (by decide) rfl ?_)))))
        have e25 : h11.2.2 49 12 = (0 : Int) := (by rw [wh11]; exact wr_eq)
        have e27 : h11.2.2 49 14 = x1 := (by rw [wh11]; exact (show h8.2.2 49 14 = x1 from (by rw [wh8]; exact ex1)))
        have e29 : h11.2.2 49 16 = x2 := (by rw [wh11]; exact (show h8.2.2 49 16 = x2 from (by rw [wh8]; exact ex2)))
        have lp96_n31 : ∀ (n31 : Nat) (y20 : Int) (y21 : Int) (h22 : Hp), (I32 y20) → (I32 y21) → (Inv h22) → (Fr [49, 53, 54] h h22) → (0 ≤ y21) → (y21 ≤ 1200) → (h22.2.2 49 12 = y21) → (h22.2.2 49 14 = h.2.2 49 14) → (h22.2.2 49 16 = h.2.2 49 16) → (1201 - y21 ≤ (n31 : Int)) → To l E_X8_readPhrase (96, [(0, .inr (.inr 49)), (1, .inl y13), (2, .inl y20), (3, .inl y21)], [], h22, 0, 0) (Q_X8_readPhrase_vx h) := by
          intro n31
          induction n31 using Nat.strongRecOn with
          | _ n31 ihn31 =>
          intro y20 y21 h22 ry20 ry21 Ih22 fh22 c23 c24 c26 c28 c30 c32
          obtain ⟨x33, ex33⟩ : ∃ y : Int, h22.2.2 49 12 = y := ⟨_, rfl⟩
          have rx33 := Ih22.atR (a := 49) (j := 12) rfl
          rw [ex33] at rx33
          obtain ⟨x34, ex34⟩ : ∃ y : Int, h22.2.2 49 14 = y := ⟨_, rfl⟩
          have rx34 := Ih22.atR (a := 49) (j := 14) rfl
          rw [ex34] at rx34
          obtain ⟨x35, ex35⟩ : ∃ y : Int, h22.2.2 49 16 = y := ⟨_, rfl⟩
          have rx35 := Ih22.atR (a := 49) (j := 16) rfl
          rw [ex35] at rx35
          refine to_iload_n (dat dk_X8_readPhrase 47 rfl) rfl (to_aload_n (dat dk_X8_readPhrase 48 rfl) rfl (to_getR 53 g_c9_22 (dat dk_X8_readPhrase 49 rfl) (Ih22.atS rfl) (Ih22.atE rfl) (to_alen (dat dk_X8_readPhrase 50 rfl) (Ih22.atS rfl) (by decide) ?_)))
          refine to_ige 165 (dat dk_X8_readPhrase 51 rfl) rfl ry21 (by decide) (fun c36 => ?_) (fun c36 => ?_)
          · skip
            exact to_vret rfl (dat dk_X8_readPhrase 84 rfl) (rv_mk ⟨Ih22, fh22, (show h22.2.2 49 14 = h.2.2 49 14 by omega), (show h22.2.2 49 16 = h.2.2 49 16 by omega)⟩)
          · skip
            refine to_iload_n (dat dk_X8_readPhrase 52 rfl) rfl (to_iload_n (dat dk_X8_readPhrase 53 rfl) rfl ?_)
            refine to_ige 165 (dat dk_X8_readPhrase 54 rfl) rfl ry20 ry13 (fun c37 => ?_) (fun c37 => ?_)
            · skip
              exact to_vret rfl (dat dk_X8_readPhrase 84 rfl) (rv_mk ⟨Ih22, fh22, (show h22.2.2 49 14 = h.2.2 49 14 by omega), (show h22.2.2 49 16 = h.2.2 49 16 by omega)⟩)
            · skip
              refine to_aload_n (dat dk_X8_readPhrase 55 rfl) rfl (to_getR 6 g_c9_37 (dat dk_X8_readPhrase 56 rfl) (Ih22.atS rfl) (Ih22.atE rfl) (to_iload_n (dat dk_X8_readPhrase 57 rfl) rfl (to_iload_n (dat dk_X8_readPhrase 58 rfl) rfl (to_aload_n (dat dk_X8_readPhrase 59 rfl) rfl (to_getR 54 g_c9_33 (dat dk_X8_readPhrase 60 rfl) (Ih22.atS rfl) (Ih22.atE rfl) ?_)))))
              refine to_cI ca_c9_216 (dat dk_X8_readPhrase 61 rfl) (ct_X1_nextWord l h22 Ih22 6 rfl y20 ry20 y13 ry13 54 rfl) rfl ⟨_, _, rfl, (Ih22.atS rfl)⟩ rfl (fun x38 h39 rx38 p40 => ?_)
              obtain ⟨Ih39, fh39, p40_0, p40_1, p40_2⟩ := p40
              have f41 : Fr [49, 53, 54] h h39 := Fr.sub fh22 fh39 rfl
              obtain ⟨x42, ex42⟩ : ∃ y : Int, h39.2.2 54 1 = y := ⟨_, rfl⟩
              have rx42 := Ih39.atR (a := 54) (j := 1) rfl
              rw [ex42] at rx42
              refine to_istore_n (L' := [(0, .inr (.inr 49)), (1, .inl y13), (2, .inl x38), (3, .inl y21)]) (dat dk_X8_readPhrase 62 rfl) (by decide) rfl (to_aload_n (dat dk_X8_readPhrase 63 rfl) rfl (to_getR 53 g_c9_22 (dat dk_X8_readPhrase 64 rfl) (Ih39.atS rfl) (Ih39.atE rfl) (to_iload_n (dat dk_X8_readPhrase 65 rfl) rfl (to_aload_n (dat dk_X8_readPhrase 66 rfl) rfl (to_getR 8 g_c9_48 (dat dk_X8_readPhrase 67 rfl) (Ih39.atS rfl) (Ih39.atE rfl) (to_aload_n (dat dk_X8_readPhrase 68 rfl) rfl (to_getR 54 g_c9_33 (dat dk_X8_readPhrase 69 rfl) (Ih39.atS rfl) (Ih39.atE rfl) (to_iconst (dat dk_X8_readPhrase 70 rfl) (to_aload_n (dat dk_X8_readPhrase 71 rfl) rfl (to_getR 54 g_c9_33 (dat dk_X8_readPhrase 72 rfl) (Ih39.atS rfl) (Ih39.atE rfl) ?_))))))))))
              refine to_cI ca_c9_87 (dat dk_X8_readPhrase 73 rfl) (ct_X1_size l h39 Ih39 54 rfl) rfl ⟨_, _, rfl, (Ih39.atS rfl)⟩ rfl (fun x43 h44 rx43 p45 => ?_)
              obtain ⟨rfl, p45_0⟩ := p45
              refine to_cI ca_c9_136 (dat dk_X8_readPhrase 74 rfl) (ct_X0_find l h39 Ih39 8 60 rfl 54 rfl 0 (by decide) x43 rx43) rfl ⟨_, _, rfl, (Ih39.atS rfl)⟩ rfl (fun x46 h47 rx46 p48 => ?_)
              obtain ⟨rfl, p48_0⟩ := p48
              refine to_iastw (dat dk_X8_readPhrase 75 rfl) (Ih39.atS rfl) rfl (by decide) (by omega) ?_
              intro h51 wh51
              have I49 : Inv h51 := by rw [wh51]; exact Ih39.put (a := 53) (j := (Int.toNat y21)) (x := x46) (-2147483648) (2147483647) rfl rfl (show (-2147483648 : Int) ≤ x46 ∧ x46 ≤ 2147483647 by omega)
              have f50 : Fr [49, 53, 54] h h51 := by rw [wh51]; exact Fr.putF (a := 53) (j := (Int.toNat y21)) (x := x46) f41 rfl
              refine to_aload_n (dat dk_X8_readPhrase 76 rfl) rfl (to_dup (dat dk_X8_readPhrase 77 rfl) rfl (to_getIv (y := x33) (by rw [wh51]; exact (show h39.2.2 49 12 = x33 from ((Fr.get fh39 (by have := Ih22.1.1; omega) rfl).trans ex33))) g_c9_208 (dat dk_X8_readPhrase 78 rfl) (I49.atS rfl) (to_iconst (dat dk_X8_readPhrase 79 rfl) (to_iadd (dat dk_X8_readPhrase 80 rfl) (to_putIw p_c9_208 (dat dk_X8_readPhrase 81 rfl) (I49.atS rfl) ?_)))))
              intro h54 wh54
              have I52 : Inv h54 := by rw [wh54]; exact I49.put (a := 49) (j := 12) (x := (x33 + 1)) (0) (1200) rfl rfl (show (0 : Int) ≤ (x33 + 1) ∧ (x33 + 1) ≤ 1200 by omega)
              have f53 : Fr [49, 53, 54] h h54 := by rw [wh54]; exact Fr.putF (a := 49) (j := 12) (x := (x33 + 1)) f50 rfl
              refine to_iinc (L' := [(0, .inr (.inr 49)), (1, .inl y13), (2, .inl x38), (3, .inl (y21 + 1))]) (dat dk_X8_readPhrase 82 rfl) rfl (by decide) rfl (to_goto (dat dk_X8_readPhrase 83 rfl) rfl ?_)
              have e55 : h54.2.2 49 12 = (x33 + 1) := (by rw [wh54]; exact wr_eq)
              have e56 : h54.2.2 49 14 = x34 := (by rw [wh54]; exact (show h51.2.2 49 14 = x34 from (by rw [wh51]; exact (show h39.2.2 49 14 = x34 from ((Fr.get fh39 (by have := Ih22.1.1; omega) rfl).trans ex34)))))
              have e57 : h54.2.2 49 16 = x35 := (by rw [wh54]; exact (show h51.2.2 49 16 = x35 from (by rw [wh51]; exact (show h39.2.2 49 16 = x35 from ((Fr.get fh39 (by have := Ih22.1.1; omega) rfl).trans ex35)))))
              exact ihn31 (n31 - 1) (by omega) x38 (y21 + 1) h54 rx38 (by omega) I52 f53 (show 0 ≤ (y21 + 1) by omega) (show (y21 + 1) ≤ 1200 by omega) (show h54.2.2 49 12 = (y21 + 1) by omega) (show h54.2.2 49 14 = h.2.2 49 14 by omega) (show h54.2.2 49 16 = h.2.2 49 16 by omega) (show 1201 - (y21 + 1) ≤ ((n31 - 1 : Nat) : Int) by omega)
        exact lp96_n31 (1201 - (0 : Int)).toNat x18 0 h11 (by omega) (by decide) I9 f10 (show 0 ≤ (0 : Int) by omega) (show (0 : Int) ≤ 1200 by omega) (show h11.2.2 49 12 = (0 : Int) by omega) (show h11.2.2 49 14 = h.2.2 49 14 by omega) (show h11.2.2 49 16 = h.2.2 49 16 by omega) (by omega)
      · skip
        refine to_aload_n (dat dk_X8_readPhrase 31 rfl) rfl (to_getR 6 g_c9_37 (dat dk_X8_readPhrase 32 rfl) (I9.atS rfl) (I9.atE rfl) (to_iload_n (dat dk_X8_readPhrase 33 rfl) rfl (to_iconst (dat dk_X8_readPhrase 34 rfl) (to_isub (dat dk_X8_readPhrase 35 rfl) ?_))))
        obtain ⟨x58, ex58⟩ : ∃ y : Int, h11.2.2 6 1 = y := ⟨_, rfl⟩
        have rx58 := I9.atR (a := 6) (j := 1) rfl
        rw [ex58] at rx58
        refine to_cI ca_c9_202 (dat dk_X8_readPhrase 36 rfl) (ct_X1_byteAt_v6x l h11 I9 (y13 - 1) (by omega)) rfl ⟨_, _, rfl, (I9.atS rfl)⟩ rfl (fun x59 h60 rx59 p61 => ?_)
        obtain ⟨rfl, p61_0⟩ := p61
        refine to_cI ca_c9_211 (dat dk_X8_readPhrase 37 rfl) (ct_X9_isOfWord l h11 I9 x59 rx59) rfl trivial rfl (fun x62 h63 rx62 p64 => ?_)
        obtain ⟨rfl, zx62⟩ := p64
        refine to_ifne 86 (dat dk_X8_readPhrase 38 rfl) rfl rx62 (fun c65 => ?_) (fun c65 => ?_)
        · skip
          refine to_aload_n (dat dk_X8_readPhrase 41 rfl) rfl (to_getR 56 g_c9_63 (dat dk_X8_readPhrase 42 rfl) (I9.atS rfl) (I9.atE rfl) (to_getIv (y := x18) ex18 g_c9_130 (dat dk_X8_readPhrase 43 rfl) (I9.atS rfl) (to_istore_n (L' := [(0, .inr (.inr 49)), (1, .inl y13), (2, .inl x18)]) (dat dk_X8_readPhrase 44 rfl) (by decide) rfl (to_iconst (dat dk_X8_readPhrase 45 rfl) (to_istore_n (L' := [(0, .inr (.inr 49)), (1, .inl y13), (2, .inl x18), (3, .inl 0)]) (dat dk_X8_readPhrase 46 rfl) (by decide) rfl ?_)))))
          have e71 : h11.2.2 49 12 = (0 : Int) := (by rw [wh11]; exact wr_eq)
          have e73 : h11.2.2 49 14 = x1 := (by rw [wh11]; exact (show h8.2.2 49 14 = x1 from (by rw [wh8]; exact ex1)))
          have e75 : h11.2.2 49 16 = x2 := (by rw [wh11]; exact (show h8.2.2 49 16 = x2 from (by rw [wh8]; exact ex2)))
          have lp96_n77 : ∀ (n77 : Nat) (y66 : Int) (y67 : Int) (h68 : Hp), (I32 y66) → (I32 y67) → (Inv h68) → (Fr [49, 53, 54] h h68) → (0 ≤ y67) → (y67 ≤ 1200) → (h68.2.2 49 12 = y67) → (h68.2.2 49 14 = h.2.2 49 14) → (h68.2.2 49 16 = h.2.2 49 16) → (1201 - y67 ≤ (n77 : Int)) → To l E_X8_readPhrase (96, [(0, .inr (.inr 49)), (1, .inl y13), (2, .inl y66), (3, .inl y67)], [], h68, 0, 0) (Q_X8_readPhrase_vx h) := by
            intro n77
            induction n77 using Nat.strongRecOn with
            | _ n77 ihn77 =>
            intro y66 y67 h68 ry66 ry67 Ih68 fh68 c69 c70 c72 c74 c76 c78
            obtain ⟨x79, ex79⟩ : ∃ y : Int, h68.2.2 49 12 = y := ⟨_, rfl⟩
            have rx79 := Ih68.atR (a := 49) (j := 12) rfl
            rw [ex79] at rx79
            obtain ⟨x80, ex80⟩ : ∃ y : Int, h68.2.2 49 14 = y := ⟨_, rfl⟩
            have rx80 := Ih68.atR (a := 49) (j := 14) rfl
            rw [ex80] at rx80
            obtain ⟨x81, ex81⟩ : ∃ y : Int, h68.2.2 49 16 = y := ⟨_, rfl⟩
            have rx81 := Ih68.atR (a := 49) (j := 16) rfl
            rw [ex81] at rx81
            refine to_iload_n (dat dk_X8_readPhrase 47 rfl) rfl (to_aload_n (dat dk_X8_readPhrase 48 rfl) rfl (to_getR 53 g_c9_22 (dat dk_X8_readPhrase 49 rfl) (Ih68.atS rfl) (Ih68.atE rfl) (to_alen (dat dk_X8_readPhrase 50 rfl) (Ih68.atS rfl) (by decide) ?_)))
            refine to_ige 165 (dat dk_X8_readPhrase 51 rfl) rfl ry67 (by decide) (fun c82 => ?_) (fun c82 => ?_)
            · skip
              exact to_vret rfl (dat dk_X8_readPhrase 84 rfl) (rv_mk ⟨Ih68, fh68, (show h68.2.2 49 14 = h.2.2 49 14 by omega), (show h68.2.2 49 16 = h.2.2 49 16 by omega)⟩)
            · skip
              refine to_iload_n (dat dk_X8_readPhrase 52 rfl) rfl (to_iload_n (dat dk_X8_readPhrase 53 rfl) rfl ?_)
              refine to_ige 165 (dat dk_X8_readPhrase 54 rfl) rfl ry66 ry13 (fun c83 => ?_) (fun c83 => ?_)
              · skip
                exact to_vret rfl (dat dk_X8_readPhrase 84 rfl) (rv_mk ⟨Ih68, fh68, (show h68.2.2 49 14 = h.2.2 49 14 by omega), (show h68.2.2 49 16 = h.2.2 49 16 by omega)⟩)
              · skip
                refine to_aload_n (dat dk_X8_readPhrase 55 rfl) rfl (to_getR 6 g_c9_37 (dat dk_X8_readPhrase 56 rfl) (Ih68.atS rfl) (Ih68.atE rfl) (to_iload_n (dat dk_X8_readPhrase 57 rfl) rfl (to_iload_n (dat dk_X8_readPhrase 58 rfl) rfl (to_aload_n (dat dk_X8_readPhrase 59 rfl) rfl (to_getR 54 g_c9_33 (dat dk_X8_readPhrase 60 rfl) (Ih68.atS rfl) (Ih68.atE rfl) ?_)))))
                refine to_cI ca_c9_216 (dat dk_X8_readPhrase 61 rfl) (ct_X1_nextWord l h68 Ih68 6 rfl y66 ry66 y13 ry13 54 rfl) rfl ⟨_, _, rfl, (Ih68.atS rfl)⟩ rfl (fun x84 h85 rx84 p86 => ?_)
                obtain ⟨Ih85, fh85, p86_0, p86_1, p86_2⟩ := p86
                have f87 : Fr [49, 53, 54] h h85 := Fr.sub fh68 fh85 rfl
                obtain ⟨x88, ex88⟩ : ∃ y : Int, h85.2.2 54 1 = y := ⟨_, rfl⟩
                have rx88 := Ih85.atR (a := 54) (j := 1) rfl
                rw [ex88] at rx88
                refine to_istore_n (L' := [(0, .inr (.inr 49)), (1, .inl y13), (2, .inl x84), (3, .inl y67)]) (dat dk_X8_readPhrase 62 rfl) (by decide) rfl (to_aload_n (dat dk_X8_readPhrase 63 rfl) rfl (to_getR 53 g_c9_22 (dat dk_X8_readPhrase 64 rfl) (Ih85.atS rfl) (Ih85.atE rfl) (to_iload_n (dat dk_X8_readPhrase 65 rfl) rfl (to_aload_n (dat dk_X8_readPhrase 66 rfl) rfl (to_getR 8 g_c9_48 (dat dk_X8_readPhrase 67 rfl) (Ih85.atS rfl) (Ih85.atE rfl) (to_aload_n (dat dk_X8_readPhrase 68 rfl) rfl (to_getR 54 g_c9_33 (dat dk_X8_readPhrase 69 rfl) (Ih85.atS rfl) (Ih85.atE rfl) (to_iconst (dat dk_X8_readPhrase 70 rfl) (to_aload_n (dat dk_X8_readPhrase 71 rfl) rfl (to_getR 54 g_c9_33 (dat dk_X8_readPhrase 72 rfl) (Ih85.atS rfl) (Ih85.atE rfl) ?_))))))))))
                refine to_cI ca_c9_87 (dat dk_X8_readPhrase 73 rfl) (ct_X1_size l h85 Ih85 54 rfl) rfl ⟨_, _, rfl, (Ih85.atS rfl)⟩ rfl (fun x89 h90 rx89 p91 => ?_)
                obtain ⟨rfl, p91_0⟩ := p91
                refine to_cI ca_c9_136 (dat dk_X8_readPhrase 74 rfl) (ct_X0_find l h85 Ih85 8 60 rfl 54 rfl 0 (by decide) x89 rx89) rfl ⟨_, _, rfl, (Ih85.atS rfl)⟩ rfl (fun x92 h93 rx92 p94 => ?_)
                obtain ⟨rfl, p94_0⟩ := p94
                refine to_iastw (dat dk_X8_readPhrase 75 rfl) (Ih85.atS rfl) rfl (by decide) (by omega) ?_
                intro h97 wh97
                have I95 : Inv h97 := by rw [wh97]; exact Ih85.put (a := 53) (j := (Int.toNat y67)) (x := x92) (-2147483648) (2147483647) rfl rfl (show (-2147483648 : Int) ≤ x92 ∧ x92 ≤ 2147483647 by omega)
                have f96 : Fr [49, 53, 54] h h97 := by rw [wh97]; exact Fr.putF (a := 53) (j := (Int.toNat y67)) (x := x92) f87 rfl
                refine to_aload_n (dat dk_X8_readPhrase 76 rfl) rfl (to_dup (dat dk_X8_readPhrase 77 rfl) rfl (to_getIv (y := x79) (by rw [wh97]; exact (show h85.2.2 49 12 = x79 from ((Fr.get fh85 (by have := Ih68.1.1; omega) rfl).trans ex79))) g_c9_208 (dat dk_X8_readPhrase 78 rfl) (I95.atS rfl) (to_iconst (dat dk_X8_readPhrase 79 rfl) (to_iadd (dat dk_X8_readPhrase 80 rfl) (to_putIw p_c9_208 (dat dk_X8_readPhrase 81 rfl) (I95.atS rfl) ?_)))))
                intro h100 wh100
                have I98 : Inv h100 := by rw [wh100]; exact I95.put (a := 49) (j := 12) (x := (x79 + 1)) (0) (1200) rfl rfl (show (0 : Int) ≤ (x79 + 1) ∧ (x79 + 1) ≤ 1200 by omega)
                have f99 : Fr [49, 53, 54] h h100 := by rw [wh100]; exact Fr.putF (a := 49) (j := 12) (x := (x79 + 1)) f96 rfl
                refine to_iinc (L' := [(0, .inr (.inr 49)), (1, .inl y13), (2, .inl x84), (3, .inl (y67 + 1))]) (dat dk_X8_readPhrase 82 rfl) rfl (by decide) rfl (to_goto (dat dk_X8_readPhrase 83 rfl) rfl ?_)
                have e101 : h100.2.2 49 12 = (x79 + 1) := (by rw [wh100]; exact wr_eq)
                have e102 : h100.2.2 49 14 = x80 := (by rw [wh100]; exact (show h97.2.2 49 14 = x80 from (by rw [wh97]; exact (show h85.2.2 49 14 = x80 from ((Fr.get fh85 (by have := Ih68.1.1; omega) rfl).trans ex80)))))
                have e103 : h100.2.2 49 16 = x81 := (by rw [wh100]; exact (show h97.2.2 49 16 = x81 from (by rw [wh97]; exact (show h85.2.2 49 16 = x81 from ((Fr.get fh85 (by have := Ih68.1.1; omega) rfl).trans ex81)))))
                exact ihn77 (n77 - 1) (by omega) x84 (y67 + 1) h100 rx84 (by omega) I98 f99 (show 0 ≤ (y67 + 1) by omega) (show (y67 + 1) ≤ 1200 by omega) (show h100.2.2 49 12 = (y67 + 1) by omega) (show h100.2.2 49 14 = h.2.2 49 14 by omega) (show h100.2.2 49 16 = h.2.2 49 16 by omega) (show 1201 - (y67 + 1) ≤ ((n77 - 1 : Nat) : Int) by omega)
          exact lp96_n77 (1201 - (0 : Int)).toNat x18 0 h11 (by omega) (by decide) I9 f10 (show 0 ≤ (0 : Int) by omega) (show (0 : Int) ≤ 1200 by omega) (show h11.2.2 49 12 = (0 : Int) by omega) (show h11.2.2 49 14 = h.2.2 49 14 by omega) (show h11.2.2 49 16 = h.2.2 49 16 by omega) (by omega)
        · skip
          refine to_iinc (L' := [(0, .inr (.inr 49)), (1, .inl (y13 + (-1)))]) (dat dk_X8_readPhrase 39 rfl) rfl (by decide) rfl (to_goto (dat dk_X8_readPhrase 40 rfl) rfl ?_)
          exact ihn16 (n16 - 1) (by omega) (y13 + (-1)) (by omega) (show 0 ≤ (y13 + (-1)) by omega) (show (y13 + (-1)) ≤ 1201 by omega) (show (y13 + (-1)) ≤ ((n16 - 1 : Nat) : Int) by omega)
    exact lp53_n16 (x12).toNat x12 (by omega) (show 0 ≤ x12 by omega) (show x12 ≤ 1201 by omega) (by omega)
  refine to_aload_n (dat dk_X8_readPhrase 1 rfl) rfl (to_getR 56 g_c9_63 (dat dk_X8_readPhrase 2 rfl) (hI.atS rfl) (hI.atE rfl) ?_)
  obtain ⟨x104, ex104⟩ : ∃ y : Int, h.2.2 56 6 = y := ⟨_, rfl⟩
  have rx104 := hI.atR (a := 56) (j := 6) rfl
  rw [ex104] at rx104
  refine to_getIv (y := x104) ex104 g_c9_198 (dat dk_X8_readPhrase 3 rfl) (hI.atS rfl) ?_
  refine to_ifne 36 (dat dk_X8_readPhrase 4 rfl) rfl (by omega) (fun c105 => ?_) (fun c105 => ?_)
  · skip
    refine to_iconst (dat dk_X8_readPhrase 17 rfl) ?_
    exact jn37_n5 0 (by decide)
  · skip
    refine to_aload_n (dat dk_X8_readPhrase 5 rfl) rfl (to_getR 6 g_c9_37 (dat dk_X8_readPhrase 6 rfl) (hI.atS rfl) (hI.atE rfl) (to_aload_n (dat dk_X8_readPhrase 7 rfl) rfl (to_getR 56 g_c9_63 (dat dk_X8_readPhrase 8 rfl) (hI.atS rfl) (hI.atE rfl) ?_)))
    obtain ⟨x106, ex106⟩ : ∃ y : Int, h.2.2 56 5 = y := ⟨_, rfl⟩
    have rx106 := hI.atR (a := 56) (j := 5) rfl
    rw [ex106] at rx106
    refine to_getIv (y := x106) ex106 g_c9_133 (dat dk_X8_readPhrase 9 rfl) (hI.atS rfl) (to_iconst (dat dk_X8_readPhrase 10 rfl) ?_)
    refine to_isubA (dat dk_X8_readPhrase 11 rfl) (fun x107 rx107 => ?_)
    obtain ⟨x108, ex108⟩ : ∃ y : Int, h.2.2 6 1 = y := ⟨_, rfl⟩
    have rx108 := hI.atR (a := 6) (j := 1) rfl
    rw [ex108] at rx108
    refine to_cI ca_c9_202 (dat dk_X8_readPhrase 12 rfl) (ct_X1_byteAt_v6x l h hI x107 rx107) rfl ⟨_, _, rfl, (hI.atS rfl)⟩ rfl (fun x109 h110 rx109 p111 => ?_)
    obtain ⟨rfl, p111_0⟩ := p111
    refine to_bipush (dat dk_X8_readPhrase 13 rfl) (by decide) ?_
    refine to_ine 36 (dat dk_X8_readPhrase 14 rfl) rfl rx109 (by decide) (fun c112 => ?_) (fun c112 => ?_)
    · skip
      refine to_iconst (dat dk_X8_readPhrase 17 rfl) ?_
      exact jn37_n5 0 (by decide)
    · skip
      refine to_iconst (dat dk_X8_readPhrase 15 rfl) (to_goto (dat dk_X8_readPhrase 16 rfl) rfl ?_)
      exact jn37_n5 1 (by decide)
abbrev Q_X8_termSet_vx (h : Hp) : Option V → Hp → Nat → Nat → Prop := RLo (fun x H => Inv H ∧ Fr [27, 28, 29, 30, 31, 49, 53, 54] h H ∧ (H.2.2 49 14 = h.2.2 49 14) ∧ (H.2.2 49 16 = h.2.2 49 16))
set_option maxRecDepth 100000 in
theorem ct_X8_termSet_vx (l : Launch) (h : Hp) (hI : Inv h)  : Ct l D_X8_termSet 5 120 [.inr (.inr 49)] h (Q_X8_termSet_vx h) := by
  refine ct_of pn_X8_termSet (Nat.le_of_ble_eq_true rfl) ?_
  show To l E_X8_termSet (0, [(0, .inr (.inr 49))], [], h, 0, 0) _
  obtain ⟨x1, ex1⟩ : ∃ y : Int, h.2.2 49 14 = y := ⟨_, rfl⟩
  have rx1 := hI.atR (a := 49) (j := 14) rfl
  rw [ex1] at rx1
  obtain ⟨x2, ex2⟩ : ∃ y : Int, h.2.2 49 16 = y := ⟨_, rfl⟩
  have rx2 := hI.atR (a := 49) (j := 16) rfl
  rw [ex2] at rx2
  have jn137_n7 : ∀ (y3 : Int) (h4 : Hp), (I32 y3) → (Inv h4) → (Fr [27, 28, 29, 30, 31, 49, 53, 54] h h4) → (h4.2.2 49 14 = h.2.2 49 14) → (h4.2.2 49 16 = h.2.2 49 16) → To l E_X8_termSet (137, [(0, .inr (.inr 49)), (1, .inl y3)], [], h4, 0, 0) (Q_X8_termSet_vx h) := by
    intro y3 h4 ry3 Ih4 fh4 c5 c6
    obtain ⟨x8, ex8⟩ : ∃ y : Int, h4.2.2 49 14 = y := ⟨_, rfl⟩
    have rx8 := Ih4.atR (a := 49) (j := 14) rfl
    rw [ex8] at rx8
    obtain ⟨x9, ex9⟩ : ∃ y : Int, h4.2.2 49 16 = y := ⟨_, rfl⟩
    have rx9 := Ih4.atR (a := 49) (j := 16) rfl
    rw [ex9] at rx9
    refine to_lconst (v := 0) (dat dk_X8_termSet 49 rfl) rfl (to_lstore_n (L' := [(2, .inr (.inl 0)), (0, .inr (.inr 49)), (1, .inl y3)]) (dat dk_X8_termSet 50 rfl) (by decide) rfl (to_iconst (dat dk_X8_termSet 51 rfl) (to_istore (L' := [(2, .inr (.inl 0)), (0, .inr (.inr 49)), (1, .inl y3), (4, .inl 0)]) (dat dk_X8_termSet 52 rfl) (by decide) rfl ?_)))
    have lp142_n13 : ∀ (n13 : Nat) (w10 : Int) (y11 : Int), (I32 y11) → (0 ≤ y11) → (61 - y11 ≤ (n13 : Int)) → To l E_X8_termSet (142, [(2, .inr (.inl w10)), (0, .inr (.inr 49)), (1, .inl y3), (4, .inl y11)], [], h4, 0, 0) (Q_X8_termSet_vx h) := by
      intro n13
      induction n13 using Nat.strongRecOn with
      | _ n13 ihn13 =>
      intro w10 y11 ry11 c12 c14
      refine to_iload (dat dk_X8_termSet 53 rfl) rfl (to_aload_n (dat dk_X8_termSet 54 rfl) rfl (to_getR 26 g_c9_40 (dat dk_X8_termSet 55 rfl) (Ih4.atS rfl) (Ih4.atE rfl) ?_))
      obtain ⟨x15, ex15⟩ : ∃ y : Int, h4.2.2 26 2 = y := ⟨_, rfl⟩
      have rx15 := Ih4.atR (a := 26) (j := 2) rfl
      rw [ex15] at rx15
      refine to_cI ca_c9_67 (dat dk_X8_termSet 56 rfl) (ct_Jx4a65c_size_8abf5 l h4 Ih4 ) rfl ⟨_, _, rfl, (Ih4.atS rfl)⟩ rfl (fun x16 h17 rx16 p18 => ?_)
      obtain ⟨rfl, p18_0, p18_1⟩ := p18
      refine to_ige 189 (dat dk_X8_termSet 57 rfl) rfl ry11 rx16 (fun c19 => ?_) (fun c19 => ?_)
      · skip
        refine to_lload_n (dat dk_X8_termSet 76 rfl) rfl ?_
        exact to_lret rfl (dat dk_X8_termSet 77 rfl) (rl_mk ⟨Ih4, fh4, (show h4.2.2 49 14 = h.2.2 49 14 by omega), (show h4.2.2 49 16 = h.2.2 49 16 by omega)⟩)
      · skip
        refine to_aload_n (dat dk_X8_termSet 58 rfl) rfl (to_aload_n (dat dk_X8_termSet 59 rfl) rfl (to_getR 26 g_c9_40 (dat dk_X8_termSet 60 rfl) (Ih4.atS rfl) (Ih4.atE rfl) (to_iload (dat dk_X8_termSet 61 rfl) rfl ?_)))
        refine to_cR ca_c9_154 (dat dk_X8_termSet 62 rfl) (ct_Jx4a65c_get_915e3 l h4 Ih4 y11 ry11 (show 0 ≤ y11 ∧ y11 < h4.2.2 26 2 by omega)) rfl ⟨_, _, rfl, (Ih4.atS rfl)⟩ rfl (fun x20 h21 p22 => ?_)
        obtain ⟨rfl, p22_0⟩ := p22
        refine to_castM (C := RX6) (T := TX6) (N := 8) (ci := 5) rfl (tin 6 96 (by decide +kernel) rfl) (dat dk_X8_termSet 63 rfl) p22_0.1 (to_iload (dat dk_X8_termSet 64 rfl) rfl (to_iload_n (dat dk_X8_termSet 65 rfl) rfl ?_))
        refine to_cI ca_c9_160 (dat dk_X8_termSet 66 rfl) (ct_X8_isMatch l h4 Ih4 x20 p22_0 y11 ry11 y3 ry3) rfl ⟨_, _, rfl, (Ih4.atS rfl)⟩ rfl (fun x23 h24 rx23 p25 => ?_)
        obtain ⟨rfl, zx23⟩ := p25
        refine to_ifeq 183 (dat dk_X8_termSet 67 rfl) rfl rx23 (fun c26 => ?_) (fun c26 => ?_)
        · skip
          refine to_iinc (L' := [(2, .inr (.inl w10)), (0, .inr (.inr 49)), (1, .inl y3), (4, .inl (y11 + 1))]) (dat dk_X8_termSet 74 rfl) rfl (by decide) rfl (to_goto (dat dk_X8_termSet 75 rfl) rfl ?_)
          exact ihn13 (n13 - 1) (by omega) w10 (y11 + 1) (by omega) (show 0 ≤ (y11 + 1) by omega) (show 61 - (y11 + 1) ≤ ((n13 - 1 : Nat) : Int) by omega)
        · skip
          refine to_lload_n (dat dk_X8_termSet 68 rfl) rfl (to_lconst (v := 1) (dat dk_X8_termSet 69 rfl) rfl (to_iload (dat dk_X8_termSet 70 rfl) rfl ?_))
          refine to_lshl (dat dk_X8_termSet 71 rfl) (fun w27 => ?_)
          refine to_lor (dat dk_X8_termSet 72 rfl) (fun w28 => ?_)
          refine to_lstore_n (L' := [(2, .inr (.inl w28)), (0, .inr (.inr 49)), (1, .inl y3), (4, .inl y11)]) (dat dk_X8_termSet 73 rfl) (by decide) rfl (to_iinc (L' := [(2, .inr (.inl w28)), (0, .inr (.inr 49)), (1, .inl y3), (4, .inl (y11 + 1))]) (dat dk_X8_termSet 74 rfl) rfl (by decide) rfl (to_goto (dat dk_X8_termSet 75 rfl) rfl ?_))
          exact ihn13 (n13 - 1) (by omega) w28 (y11 + 1) (by omega) (show 0 ≤ (y11 + 1) by omega) (show 61 - (y11 + 1) ≤ ((n13 - 1 : Nat) : Int) by omega)
    exact lp142_n13 (61 - (0 : Int)).toNat 0 0 (by decide) (show 0 ≤ (0 : Int) by omega) (by omega)
  refine to_iconst (dat dk_X8_termSet 0 rfl) (to_istore_n (L' := [(0, .inr (.inr 49)), (1, .inl (-1))]) (dat dk_X8_termSet 1 rfl) (by decide) rfl (to_aload_n (dat dk_X8_termSet 2 rfl) rfl (to_getR 56 g_c9_63 (dat dk_X8_termSet 3 rfl) (hI.atS rfl) (hI.atE rfl) ?_)))
  obtain ⟨x29, ex29⟩ : ∃ y : Int, h.2.2 56 3 = y := ⟨_, rfl⟩
  have rx29 := hI.atR (a := 56) (j := 3) rfl
  rw [ex29] at rx29
  refine to_getIv (y := x29) ex29 g_c9_127 (dat dk_X8_termSet 4 rfl) (hI.atS rfl) ?_
  refine to_table (d := 133) (ts := [40, 69, 98, 130]) (dat dk_X8_termSet 5 rfl) rfl rfl rfl (by omega) (fun c30 => ?_) ⟨fun c30 => ?_, fun c30 => ?_, fun c30 => ?_, fun c30 => ?_, trivial⟩
  · skip
    refine to_aload_n (dat dk_X8_termSet 47 rfl) rfl ?_
    refine to_cV ca_c9_151 (dat dk_X8_termSet 48 rfl) (ct_X8_readPhrase_vx l h hI ) rfl ⟨_, _, rfl, (hI.atS rfl)⟩ rfl (fun h32 p33 => ?_)
    obtain ⟨Ih32, fh32, p33_0, p33_1⟩ := p33
    have f34 : Fr [27, 28, 29, 30, 31, 49, 53, 54] h h32 := Fr.sub (Fr.rf _ _) fh32 rfl
    obtain ⟨x35, ex35⟩ : ∃ y : Int, h32.2.2 49 14 = y := ⟨_, rfl⟩
    have rx35 := Ih32.atR (a := 49) (j := 14) rfl
    rw [ex35] at rx35
    obtain ⟨x36, ex36⟩ : ∃ y : Int, h32.2.2 49 16 = y := ⟨_, rfl⟩
    have rx36 := Ih32.atR (a := 49) (j := 16) rfl
    rw [ex36] at rx36
    exact jn137_n7 (-1) h32 (by decide) Ih32 f34 (show h32.2.2 49 14 = h.2.2 49 14 by omega) (show h32.2.2 49 16 = h.2.2 49 16 by omega)
  · skip
    refine to_aload_n (dat dk_X8_termSet 6 rfl) rfl (to_getR 20 g_c9_55 (dat dk_X8_termSet 7 rfl) (hI.atS rfl) (hI.atE rfl) (to_aload_n (dat dk_X8_termSet 8 rfl) rfl (to_getR 6 g_c9_37 (dat dk_X8_termSet 9 rfl) (hI.atS rfl) (hI.atE rfl) (to_aload_n (dat dk_X8_termSet 10 rfl) rfl (to_getR 56 g_c9_63 (dat dk_X8_termSet 11 rfl) (hI.atS rfl) (hI.atE rfl) ?_)))))
    obtain ⟨x37, ex37⟩ : ∃ y : Int, h.2.2 56 4 = y := ⟨_, rfl⟩
    have rx37 := hI.atR (a := 56) (j := 4) rfl
    rw [ex37] at rx37
    refine to_getIv (y := x37) ex37 g_c9_130 (dat dk_X8_termSet 12 rfl) (hI.atS rfl) (to_aload_n (dat dk_X8_termSet 13 rfl) rfl (to_getR 56 g_c9_63 (dat dk_X8_termSet 14 rfl) (hI.atS rfl) (hI.atE rfl) ?_))
    obtain ⟨x38, ex38⟩ : ∃ y : Int, h.2.2 56 5 = y := ⟨_, rfl⟩
    have rx38 := hI.atR (a := 56) (j := 5) rfl
    rw [ex38] at rx38
    refine to_getIv (y := x38) ex38 g_c9_133 (dat dk_X8_termSet 15 rfl) (hI.atS rfl) ?_
    refine to_cI ca_c9_136 (dat dk_X8_termSet 16 rfl) (ct_X0_find l h hI 20 80 rfl 6 rfl x37 (by omega) x38 (by omega)) rfl ⟨_, _, rfl, (hI.atS rfl)⟩ rfl (fun x39 h40 rx39 p41 => ?_)
    obtain ⟨rfl, p41_0⟩ := p41
    refine to_istore_n (L' := [(0, .inr (.inr 49)), (1, .inl x39)]) (dat dk_X8_termSet 17 rfl) (by decide) rfl (to_goto (dat dk_X8_termSet 18 rfl) rfl ?_)
    exact jn137_n7 x39 h rx39 hI (Fr.rf _ _) (show h.2.2 49 14 = h.2.2 49 14 by omega) (show h.2.2 49 16 = h.2.2 49 16 by omega)
  · skip
    refine to_aload_n (dat dk_X8_termSet 19 rfl) rfl (to_getR 14 g_c9_52 (dat dk_X8_termSet 20 rfl) (hI.atS rfl) (hI.atE rfl) (to_aload_n (dat dk_X8_termSet 21 rfl) rfl (to_getR 6 g_c9_37 (dat dk_X8_termSet 22 rfl) (hI.atS rfl) (hI.atE rfl) (to_aload_n (dat dk_X8_termSet 23 rfl) rfl (to_getR 56 g_c9_63 (dat dk_X8_termSet 24 rfl) (hI.atS rfl) (hI.atE rfl) ?_)))))
    obtain ⟨x42, ex42⟩ : ∃ y : Int, h.2.2 56 4 = y := ⟨_, rfl⟩
    have rx42 := hI.atR (a := 56) (j := 4) rfl
    rw [ex42] at rx42
    refine to_getIv (y := x42) ex42 g_c9_130 (dat dk_X8_termSet 25 rfl) (hI.atS rfl) (to_aload_n (dat dk_X8_termSet 26 rfl) rfl (to_getR 56 g_c9_63 (dat dk_X8_termSet 27 rfl) (hI.atS rfl) (hI.atE rfl) ?_))
    obtain ⟨x43, ex43⟩ : ∃ y : Int, h.2.2 56 5 = y := ⟨_, rfl⟩
    have rx43 := hI.atR (a := 56) (j := 5) rfl
    rw [ex43] at rx43
    refine to_getIv (y := x43) ex43 g_c9_133 (dat dk_X8_termSet 28 rfl) (hI.atS rfl) ?_
    refine to_cI ca_c9_136 (dat dk_X8_termSet 29 rfl) (ct_X0_find l h hI 14 70 rfl 6 rfl x42 (by omega) x43 (by omega)) rfl ⟨_, _, rfl, (hI.atS rfl)⟩ rfl (fun x44 h45 rx44 p46 => ?_)
    obtain ⟨rfl, p46_0⟩ := p46
    refine to_istore_n (L' := [(0, .inr (.inr 49)), (1, .inl x44)]) (dat dk_X8_termSet 30 rfl) (by decide) rfl (to_goto (dat dk_X8_termSet 31 rfl) rfl ?_)
    exact jn137_n7 x44 h rx44 hI (Fr.rf _ _) (show h.2.2 49 14 = h.2.2 49 14 by omega) (show h.2.2 49 16 = h.2.2 49 16 by omega)
  · skip
    refine to_aload_n (dat dk_X8_termSet 32 rfl) rfl (to_getR 6 g_c9_37 (dat dk_X8_termSet 33 rfl) (hI.atS rfl) (hI.atE rfl) (to_aload_n (dat dk_X8_termSet 34 rfl) rfl (to_getR 56 g_c9_63 (dat dk_X8_termSet 35 rfl) (hI.atS rfl) (hI.atE rfl) ?_)))
    obtain ⟨x47, ex47⟩ : ∃ y : Int, h.2.2 56 4 = y := ⟨_, rfl⟩
    have rx47 := hI.atR (a := 56) (j := 4) rfl
    rw [ex47] at rx47
    refine to_getIv (y := x47) ex47 g_c9_130 (dat dk_X8_termSet 36 rfl) (hI.atS rfl) (to_aload_n (dat dk_X8_termSet 37 rfl) rfl (to_getR 56 g_c9_63 (dat dk_X8_termSet 38 rfl) (hI.atS rfl) (hI.atE rfl) ?_))
    obtain ⟨x48, ex48⟩ : ∃ y : Int, h.2.2 56 5 = y := ⟨_, rfl⟩
    have rx48 := hI.atR (a := 56) (j := 5) rfl
    rw [ex48] at rx48
    refine to_getIv (y := x48) ex48 g_c9_133 (dat dk_X8_termSet 39 rfl) (hI.atS rfl) ?_
    refine to_cI ca_c9_142 (dat dk_X8_termSet 40 rfl) (ct_X1_numberIn l h hI 6 rfl x47 (by omega) x48 (by omega)) rfl ⟨_, _, rfl, (hI.atS rfl)⟩ rfl (fun x49 h50 rx49 p51 => ?_)
    subst p51
    refine to_istore_n (L' := [(0, .inr (.inr 49)), (1, .inl x49)]) (dat dk_X8_termSet 41 rfl) (by decide) rfl (to_aload_n (dat dk_X8_termSet 42 rfl) rfl (to_getR 27 g_c9_44 (dat dk_X8_termSet 43 rfl) (hI.atS rfl) (hI.atE rfl) ?_))
    refine to_cV ca_c9_146 (dat dk_X8_termSet 44 rfl) (ct_X10_freshen l h hI ) rfl ⟨_, _, rfl, (hI.atS rfl)⟩ rfl (fun h53 p54 => ?_)
    obtain ⟨Ih53, fh53⟩ := p54
    have f55 : Fr [27, 28, 29, 30, 31, 49, 53, 54] h h53 := Fr.sub (Fr.rf _ _) fh53 rfl
    refine to_goto (dat dk_X8_termSet 45 rfl) rfl ?_
    have e56 : h53.2.2 49 14 = x1 := ((Fr.get fh53 (by have := hI.1.1; omega) rfl).trans ex1)
    have e57 : h53.2.2 49 16 = x2 := ((Fr.get fh53 (by have := hI.1.1; omega) rfl).trans ex2)
    exact jn137_n7 x49 h53 rx49 Ih53 f55 (show h53.2.2 49 14 = h.2.2 49 14 by omega) (show h53.2.2 49 16 = h.2.2 49 16 by omega)
  · skip
    refine to_goto (dat dk_X8_termSet 46 rfl) rfl ?_
    exact jn137_n7 (-1) h (by decide) hI (Fr.rf _ _) (show h.2.2 49 14 = h.2.2 49 14 by omega) (show h.2.2 49 16 = h.2.2 49 16 by omega)
