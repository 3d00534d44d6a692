/-! Contracts, by program. -/
abbrev Q_J9_floorDiv_7cf53 (h : Hp) (i : Int) : Option V → Hp → Nat → Nat → Prop := RI (fun x H => h = H)
set_option maxRecDepth 100000 in
theorem ct_J9_floorDiv_7cf53 (l : Launch) (h : Hp) (hI : Inv h) (i : Int) (hi : I32 i) : Ct l D_J9_floorDiv_7cf53 0 0 [.inl i, .inl 1440] h (Q_J9_floorDiv_7cf53 h i) := by
  refine ct_ofF (by decide +kernel) (Nat.le_of_ble_eq_true rfl) ?_
  show To l E_J9_floorDiv_7cf53 (0, [(0, .inl i), (1, .inl 1440)], [], h, 0, 0) _
  refine to_iload_n (dat dk_J9_floorDiv_7cf53 0 rfl) rfl (to_iload_n (dat dk_J9_floorDiv_7cf53 1 rfl) rfl ?_)
  refine to_idiv (dat dk_J9_floorDiv_7cf53 2 rfl) (by decide) (fun x1 rx1 => ?_)
  refine to_istore_n (L' := [(0, .inl i), (1, .inl 1440), (2, .inl x1)]) (dat dk_J9_floorDiv_7cf53 3 rfl) (by decide) rfl (to_iload_n (dat dk_J9_floorDiv_7cf53 4 rfl) rfl (to_iload_n (dat dk_J9_floorDiv_7cf53 5 rfl) rfl ?_))
  refine to_ixor (dat dk_J9_floorDiv_7cf53 6 rfl) (fun x2 rx2 => ?_)
  refine to_ifge 21 (dat dk_J9_floorDiv_7cf53 7 rfl) rfl rx2 (fun c3 => ?_) (fun c3 => ?_)
  · skip
    refine to_iload_n (dat dk_J9_floorDiv_7cf53 17 rfl) rfl ?_
    exact to_iret rfl (dat dk_J9_floorDiv_7cf53 18 rfl) (ri_mk rx1 rfl)
  · skip
    refine to_iload_n (dat dk_J9_floorDiv_7cf53 8 rfl) rfl (to_iload_n (dat dk_J9_floorDiv_7cf53 9 rfl) rfl ?_)
    refine to_imulA (dat dk_J9_floorDiv_7cf53 10 rfl) (fun x4 rx4 => ?_)
    refine to_iload_n (dat dk_J9_floorDiv_7cf53 11 rfl) rfl ?_
    refine to_ieq 21 (dat dk_J9_floorDiv_7cf53 12 rfl) rfl rx4 hi (fun c5 => ?_) (fun c5 => ?_)
    · skip
      refine to_iload_n (dat dk_J9_floorDiv_7cf53 17 rfl) rfl ?_
      exact to_iret rfl (dat dk_J9_floorDiv_7cf53 18 rfl) (ri_mk rx1 rfl)
    · skip
      refine to_iload_n (dat dk_J9_floorDiv_7cf53 13 rfl) rfl (to_iconst (dat dk_J9_floorDiv_7cf53 14 rfl) ?_)
      refine to_isubA (dat dk_J9_floorDiv_7cf53 15 rfl) (fun x6 rx6 => ?_)
      exact to_iret rfl (dat dk_J9_floorDiv_7cf53 16 rfl) (ri_mk rx6 rfl)
abbrev Q_X8_isInDays (h : Hp) (d : Int) : Option V → Hp → Nat → Nat → Prop := RI (fun x H => h = H ∧ (x = 0 ∨ x = 1))
set_option maxRecDepth 100000 in
theorem ct_X8_isInDays (l : Launch) (h : Hp) (hI : Inv h) (d : Int) (hd : I32 d) : Ct l D_X8_isInDays 1 22 [.inr (.inr 49), .inl d] h (Q_X8_isInDays h d) := by
  refine ct_of pn_X8_isInDays (Nat.le_of_ble_eq_true rfl) ?_
  show To l E_X8_isInDays (0, [(0, .inr (.inr 49)), (1, .inl d)], [], h, 0, 0) _
  refine to_iload_n (dat dk_X8_isInDays 0 rfl) rfl (to_sipush (dat dk_X8_isInDays 1 rfl) (by decide) ?_)
  refine to_cI ca_c9_187 (dat dk_X8_isInDays 2 rfl) (ct_J9_floorDiv_7cf53 l h hI d hd) rfl trivial rfl (fun x1 h2 rx1 p3 => ?_)
  subst p3
  refine to_istore_n (L' := [(0, .inr (.inr 49)), (1, .inl d), (2, .inl x1)]) (dat dk_X8_isInDays 3 rfl) (by decide) rfl (to_iload_n (dat dk_X8_isInDays 4 rfl) rfl ?_)
  refine to_ifeq 38 (dat dk_X8_isInDays 5 rfl) rfl hd (fun c4 => ?_) (fun c4 => ?_)
  · skip
    refine to_iconst (dat dk_X8_isInDays 18 rfl) ?_
    exact to_zret rfl (dat dk_X8_isInDays 19 rfl) (by decide) (ri_mk (by decide) ⟨rfl, (by decide)⟩)
  · skip
    refine to_iload_n (dat dk_X8_isInDays 6 rfl) rfl (to_aload_n (dat dk_X8_isInDays 7 rfl) rfl (to_getR 56 g_c9_63 (dat dk_X8_isInDays 8 rfl) (hI.atS rfl) (hI.atE rfl) ?_))
    obtain ⟨x5, ex5⟩ : ∃ y : Int, h.2.2 56 7 = y := ⟨_, rfl⟩
    have rx5 := hI.atR (a := 56) (j := 7) rfl
    rw [ex5] at rx5
    refine to_getIv (y := x5) ex5 g_c9_192 (dat dk_X8_isInDays 9 rfl) (hI.atS rfl) ?_
    refine to_ilt 38 (dat dk_X8_isInDays 10 rfl) rfl rx1 (by omega) (fun c6 => ?_) (fun c6 => ?_)
    · skip
      refine to_iconst (dat dk_X8_isInDays 18 rfl) ?_
      exact to_zret rfl (dat dk_X8_isInDays 19 rfl) (by decide) (ri_mk (by decide) ⟨rfl, (by decide)⟩)
    · skip
      refine to_iload_n (dat dk_X8_isInDays 11 rfl) rfl (to_aload_n (dat dk_X8_isInDays 12 rfl) rfl (to_getR 56 g_c9_63 (dat dk_X8_isInDays 13 rfl) (hI.atS rfl) (hI.atE rfl) ?_))
      obtain ⟨x7, ex7⟩ : ∃ y : Int, h.2.2 56 8 = y := ⟨_, rfl⟩
      have rx7 := hI.atR (a := 56) (j := 8) rfl
      rw [ex7] at rx7
      refine to_getIv (y := x7) ex7 g_c9_195 (dat dk_X8_isInDays 14 rfl) (hI.atS rfl) ?_
      refine to_igt 38 (dat dk_X8_isInDays 15 rfl) rfl rx1 (by omega) (fun c8 => ?_) (fun c8 => ?_)
      · skip
        refine to_iconst (dat dk_X8_isInDays 18 rfl) ?_
        exact to_zret rfl (dat dk_X8_isInDays 19 rfl) (by decide) (ri_mk (by decide) ⟨rfl, (by decide)⟩)
      · skip
        refine to_iconst (dat dk_X8_isInDays 16 rfl) (to_goto (dat dk_X8_isInDays 17 rfl) rfl ?_)
        exact to_zret rfl (dat dk_X8_isInDays 19 rfl) (by decide) (ri_mk (by decide) ⟨rfl, (by decide)⟩)
abbrev Q_X8_isLevel (h : Hp) : Option V → Hp → Nat → Nat → Prop := RI (fun x H => h = H ∧ (x = 0 ∨ x = 1) ∧ (x = 0 ∨ (0 ≤ H.2.2 49 14 ∧ H.2.2 49 14 ≤ 20)))
set_option maxRecDepth 100000 in
theorem ct_X8_isLevel (l : Launch) (h : Hp) (hI : Inv h)  : Ct l D_X8_isLevel 0 0 [.inr (.inr 49)] h (Q_X8_isLevel h) := by
  refine ct_of pn_X8_isLevel (Nat.le_of_ble_eq_true rfl) ?_
  show To l E_X8_isLevel (0, [(0, .inr (.inr 49))], [], h, 0, 0) _
  refine to_aload_n (dat dk_X8_isLevel 0 rfl) rfl ?_
  obtain ⟨x1, ex1⟩ : ∃ y : Int, h.2.2 49 14 = y := ⟨_, rfl⟩
  have rx1 := hI.atR (a := 49) (j := 14) rfl
  rw [ex1] at rx1
  refine to_getIv (y := x1) ex1 g_c9_109 (dat dk_X8_isLevel 1 rfl) (hI.atS rfl) ?_
  refine to_iflt 47 (dat dk_X8_isLevel 2 rfl) rfl (by omega) (fun c2 => ?_) (fun c2 => ?_)
  · skip
    refine to_iconst (dat dk_X8_isLevel 23 rfl) ?_
    exact to_zret rfl (dat dk_X8_isLevel 24 rfl) (by decide) (ri_mk (by decide) ⟨rfl, (by decide), (show (0 : Int) = 0 ∨ (0 ≤ h.2.2 49 14 ∧ h.2.2 49 14 ≤ 20) by omega)⟩)
  · skip
    refine to_aload_n (dat dk_X8_isLevel 3 rfl) rfl (to_getIv (y := x1) ex1 g_c9_109 (dat dk_X8_isLevel 4 rfl) (hI.atS rfl) (to_aload_n (dat dk_X8_isLevel 5 rfl) rfl (to_getR 50 g_c9_11 (dat dk_X8_isLevel 6 rfl) (hI.atS rfl) (hI.atE rfl) (to_alen (dat dk_X8_isLevel 7 rfl) (hI.atS rfl) (by decide) ?_))))
    refine to_ige 47 (dat dk_X8_isLevel 8 rfl) rfl (by omega) (by decide) (fun c3 => ?_) (fun c3 => ?_)
    · skip
      refine to_iconst (dat dk_X8_isLevel 23 rfl) ?_
      exact to_zret rfl (dat dk_X8_isLevel 24 rfl) (by decide) (ri_mk (by decide) ⟨rfl, (by decide), (show (0 : Int) = 0 ∨ (0 ≤ h.2.2 49 14 ∧ h.2.2 49 14 ≤ 20) by omega)⟩)
    · skip
      refine to_aload_n (dat dk_X8_isLevel 9 rfl) rfl (to_getIv (y := x1) ex1 g_c9_109 (dat dk_X8_isLevel 10 rfl) (hI.atS rfl) (to_aload_n (dat dk_X8_isLevel 11 rfl) rfl (to_getR 51 g_c9_15 (dat dk_X8_isLevel 12 rfl) (hI.atS rfl) (hI.atE rfl) (to_alen (dat dk_X8_isLevel 13 rfl) (hI.atS rfl) (by decide) ?_))))
      refine to_ige 47 (dat dk_X8_isLevel 14 rfl) rfl (by omega) (by decide) (fun c4 => ?_) (fun c4 => ?_)
      · skip
        refine to_iconst (dat dk_X8_isLevel 23 rfl) ?_
        exact to_zret rfl (dat dk_X8_isLevel 24 rfl) (by decide) (ri_mk (by decide) ⟨rfl, (by decide), (show (0 : Int) = 0 ∨ (0 ≤ h.2.2 49 14 ∧ h.2.2 49 14 ≤ 20) by omega)⟩)
      · skip
        refine to_aload_n (dat dk_X8_isLevel 15 rfl) rfl (to_getIv (y := x1) ex1 g_c9_109 (dat dk_X8_isLevel 16 rfl) (hI.atS rfl) (to_aload_n (dat dk_X8_isLevel 17 rfl) rfl (to_getR 52 g_c9_18 (dat dk_X8_isLevel 18 rfl) (hI.atS rfl) (hI.atE rfl) (to_alen (dat dk_X8_isLevel 19 rfl) (hI.atS rfl) (by decide) ?_))))
        refine to_ige 47 (dat dk_X8_isLevel 20 rfl) rfl (by omega) (by decide) (fun c5 => ?_) (fun c5 => ?_)
        · skip
          refine to_iconst (dat dk_X8_isLevel 23 rfl) ?_
          exact to_zret rfl (dat dk_X8_isLevel 24 rfl) (by decide) (ri_mk (by decide) ⟨rfl, (by decide), (show (0 : Int) = 0 ∨ (0 ≤ h.2.2 49 14 ∧ h.2.2 49 14 ≤ 20) by omega)⟩)
        · skip
          refine to_iconst (dat dk_X8_isLevel 21 rfl) (to_goto (dat dk_X8_isLevel 22 rfl) rfl ?_)
          exact to_zret rfl (dat dk_X8_isLevel 24 rfl) (by decide) (ri_mk (by decide) ⟨rfl, (by decide), (show (1 : Int) = 0 ∨ (0 ≤ h.2.2 49 14 ∧ h.2.2 49 14 ≤ 20) by omega)⟩)
abbrev Q_X8_startLevel (h : Hp) (n : Int) : Option V → Hp → Nat → Nat → Prop := RV (fun H => Inv H ∧ Fr [49, 50, 51, 52] h H)
set_option maxRecDepth 100000 in
theorem ct_X8_startLevel (l : Launch) (h : Hp) (hI : Inv h) (n : Int) (hn : I32 n) : Ct l D_X8_startLevel 1 20 [.inr (.inr 49), .inl n] h (Q_X8_startLevel h n) := by
  refine ct_of pn_X8_startLevel (Nat.le_of_ble_eq_true rfl) ?_
  show To l E_X8_startLevel (0, [(0, .inr (.inr 49)), (1, .inl n)], [], h, 0, 0) _
  refine to_aload_n (dat dk_X8_startLevel 0 rfl) rfl (to_iload_n (dat dk_X8_startLevel 1 rfl) rfl (to_putIw p_c9_109 (dat dk_X8_startLevel 2 rfl) (hI.atS rfl) ?_))
  intro h3 wh3
  have I1 : Inv h3 := by rw [wh3]; exact hI.put (a := 49) (j := 14) (x := n) (-2147483648) (2147483647) rfl rfl (show (-2147483648 : Int) ≤ n ∧ n ≤ 2147483647 by omega)
  have f2 : Fr [49, 50, 51, 52] h h3 := by rw [wh3]; exact Fr.putF (a := 49) (j := 14) (x := n) (Fr.rf _ _) rfl
  refine to_aload_n (dat dk_X8_startLevel 3 rfl) rfl ?_
  have e4 : h3.2.2 49 14 = n := (by rw [wh3]; exact wr_eq)
  refine to_cI ca_c9_121 (dat dk_X8_startLevel 4 rfl) (ct_X8_isLevel l h3 I1 ) rfl ⟨_, _, rfl, (I1.atS rfl)⟩ rfl (fun x5 h6 rx5 p7 => ?_)
  obtain ⟨rfl, zx5, p7_0⟩ := p7
  refine to_ifeq 45 (dat dk_X8_startLevel 5 rfl) rfl rx5 (fun c8 => ?_) (fun c8 => ?_)
  · skip
    exact to_vret rfl (dat dk_X8_startLevel 25 rfl) (rv_mk ⟨I1, f2⟩)
  · skip
    refine to_aload_n (dat dk_X8_startLevel 6 rfl) rfl (to_getR 50 g_c9_11 (dat dk_X8_startLevel 7 rfl) (I1.atS rfl) (I1.atE rfl) (to_aload_n (dat dk_X8_startLevel 8 rfl) rfl (to_getIv (y := n) e4 g_c9_109 (dat dk_X8_startLevel 9 rfl) (I1.atS rfl) (to_lconst (v := 0) (dat dk_X8_startLevel 10 rfl) rfl (to_lastw (dat dk_X8_startLevel 11 rfl) (I1.atS rfl) rfl (by decide) (by omega) ?_)))))
    intro h11 wh11
    have I9 : Inv h11 := by rw [wh11]; exact I1.putL (x := 0) (a := 50) (j := (Int.toNat n)) rfl
    have f10 : Fr [49, 50, 51, 52] h h11 := by rw [wh11]; exact Fr.putF (a := 50) (j := (Int.toNat n)) (x := 0) f2 rfl
    refine to_aload_n (dat dk_X8_startLevel 12 rfl) rfl (to_getR 51 g_c9_15 (dat dk_X8_startLevel 13 rfl) (I9.atS rfl) (I9.atE rfl) (to_aload_n (dat dk_X8_startLevel 14 rfl) rfl (to_getIv (y := n) (by rw [wh11]; exact e4) g_c9_109 (dat dk_X8_startLevel 15 rfl) (I9.atS rfl) (to_aload_n (dat dk_X8_startLevel 16 rfl) rfl ?_))))
    refine to_getL g_c9_73 (dat dk_X8_startLevel 17 rfl) (I9.atS rfl) ?_
    generalize h11.2.2 49 15 = w12
    refine to_lastw (dat dk_X8_startLevel 18 rfl) (I9.atS rfl) rfl (by decide) (by omega) ?_
    intro h15 wh15
    have I13 : Inv h15 := by rw [wh15]; exact I9.putL (x := w12) (a := 51) (j := (Int.toNat n)) rfl
    have f14 : Fr [49, 50, 51, 52] h h15 := by rw [wh15]; exact Fr.putF (a := 51) (j := (Int.toNat n)) (x := w12) f10 rfl
    refine to_aload_n (dat dk_X8_startLevel 19 rfl) rfl (to_getR 52 g_c9_18 (dat dk_X8_startLevel 20 rfl) (I13.atS rfl) (I13.atE rfl) (to_aload_n (dat dk_X8_startLevel 21 rfl) rfl (to_getIv (y := n) (by rw [wh15]; exact (show h11.2.2 49 14 = n from (by rw [wh11]; exact e4))) g_c9_109 (dat dk_X8_startLevel 22 rfl) (I13.atS rfl) (to_iconst (dat dk_X8_startLevel 23 rfl) (to_zastw (dat dk_X8_startLevel 24 rfl) (I13.atS rfl) rfl (by decide) (by omega) (by decide) ?_)))))
    intro h18 wh18
    have I16 : Inv h18 := by rw [wh18]; exact I13.put (a := 52) (j := (Int.toNat n)) (x := 0) (0) (1) rfl rfl (show (0 : Int) ≤ 0 ∧ 0 ≤ 1 by decide)
    have f17 : Fr [49, 50, 51, 52] h h18 := by rw [wh18]; exact Fr.putF (a := 52) (j := (Int.toNat n)) (x := 0) f14 rfl
    exact to_vret rfl (dat dk_X8_startLevel 25 rfl) (rv_mk ⟨I16, f17⟩)
abbrev Q_X8_levelSet (h : Hp) : Option V → Hp → Nat → Nat → Prop := RLo (fun x H => h = H)
set_option maxRecDepth 100000 in
theorem ct_X8_levelSet (l : Launch) (h : Hp) (hI : Inv h)  : Ct l D_X8_levelSet 1 20 [.inr (.inr 49)] h (Q_X8_levelSet h) := by
  refine ct_of pn_X8_levelSet (Nat.le_of_ble_eq_true rfl) ?_
  show To l E_X8_levelSet (0, [(0, .inr (.inr 49))], [], h, 0, 0) _
  refine to_aload_n (dat dk_X8_levelSet 0 rfl) rfl ?_
  obtain ⟨x1, ex1⟩ : ∃ y : Int, h.2.2 49 14 = y := ⟨_, rfl⟩
  have rx1 := hI.atR (a := 49) (j := 14) rfl
  rw [ex1] at rx1
  refine to_cI ca_c9_121 (dat dk_X8_levelSet 1 rfl) (ct_X8_isLevel l h hI ) rfl ⟨_, _, rfl, (hI.atS rfl)⟩ rfl (fun x2 h3 rx2 p4 => ?_)
  obtain ⟨rfl, zx2, p4_0⟩ := p4
  refine to_ifeq 29 (dat dk_X8_levelSet 2 rfl) rfl rx2 (fun c5 => ?_) (fun c5 => ?_)
  · skip
    refine to_lconst (v := 0) (dat dk_X8_levelSet 15 rfl) rfl ?_
    exact to_lret rfl (dat dk_X8_levelSet 16 rfl) (rl_mk rfl)
  · skip
    refine to_aload_n (dat dk_X8_levelSet 3 rfl) rfl (to_getR 50 g_c9_11 (dat dk_X8_levelSet 4 rfl) (hI.atS rfl) (hI.atE rfl) (to_aload_n (dat dk_X8_levelSet 5 rfl) rfl (to_getIv (y := x1) ex1 g_c9_109 (dat dk_X8_levelSet 6 rfl) (hI.atS rfl) ?_)))
    refine to_lald (dat dk_X8_levelSet 7 rfl) (hI.atS rfl) rfl (by decide) (by omega) ?_
    generalize h.2.2 50 (Int.toNat x1) = w6
    refine to_aload_n (dat dk_X8_levelSet 8 rfl) rfl (to_getR 51 g_c9_15 (dat dk_X8_levelSet 9 rfl) (hI.atS rfl) (hI.atE rfl) (to_aload_n (dat dk_X8_levelSet 10 rfl) rfl (to_getIv (y := x1) ex1 g_c9_109 (dat dk_X8_levelSet 11 rfl) (hI.atS rfl) ?_)))
    refine to_lald (dat dk_X8_levelSet 12 rfl) (hI.atS rfl) rfl (by decide) (by omega) ?_
    generalize h.2.2 51 (Int.toNat x1) = w7
    refine to_lor (dat dk_X8_levelSet 13 rfl) (fun w8 => ?_)
    refine to_goto (dat dk_X8_levelSet 14 rfl) rfl ?_
    exact to_lret rfl (dat dk_X8_levelSet 16 rfl) (rl_mk rfl)
abbrev Q_X8_startNextAll (h : Hp) : Option V → Hp → Nat → Nat → Prop := RV (fun H => Inv H ∧ Fr [50, 51] h H)
set_option maxRecDepth 100000 in
theorem ct_X8_startNextAll (l : Launch) (h : Hp) (hI : Inv h)  : Ct l D_X8_startNextAll 1 20 [.inr (.inr 49)] h (Q_X8_startNextAll h) := by
  refine ct_of pn_X8_startNextAll (Nat.le_of_ble_eq_true rfl) ?_
  show To l E_X8_startNextAll (0, [(0, .inr (.inr 49))], [], h, 0, 0) _
  refine to_aload_n (dat dk_X8_startNextAll 0 rfl) rfl ?_
  obtain ⟨x1, ex1⟩ : ∃ y : Int, h.2.2 49 14 = y := ⟨_, rfl⟩
  have rx1 := hI.atR (a := 49) (j := 14) rfl
  rw [ex1] at rx1
  refine to_cI ca_c9_121 (dat dk_X8_startNextAll 1 rfl) (ct_X8_isLevel l h hI ) rfl ⟨_, _, rfl, (hI.atS rfl)⟩ rfl (fun x2 h3 rx2 p4 => ?_)
  obtain ⟨rfl, zx2, p4_0⟩ := p4
  refine to_ifeq 41 (dat dk_X8_startNextAll 2 rfl) rfl rx2 (fun c5 => ?_) (fun c5 => ?_)
  · skip
    exact to_vret rfl (dat dk_X8_startNextAll 23 rfl) (rv_mk ⟨hI, (Fr.rf _ _)⟩)
  · skip
    refine to_aload_n (dat dk_X8_startNextAll 3 rfl) rfl (to_getR 50 g_c9_11 (dat dk_X8_startNextAll 4 rfl) (hI.atS rfl) (hI.atE rfl) (to_aload_n (dat dk_X8_startNextAll 5 rfl) rfl (to_getIv (y := x1) ex1 g_c9_109 (dat dk_X8_startNextAll 6 rfl) (hI.atS rfl) (to_dup2 (dat dk_X8_startNextAll 7 rfl) rfl rfl ?_))))
    refine to_lald (dat dk_X8_startNextAll 8 rfl) (hI.atS rfl) rfl (by decide) (by omega) ?_
    generalize h.2.2 50 (Int.toNat x1) = w6
    refine to_aload_n (dat dk_X8_startNextAll 9 rfl) rfl (to_getR 51 g_c9_15 (dat dk_X8_startNextAll 10 rfl) (hI.atS rfl) (hI.atE rfl) (to_aload_n (dat dk_X8_startNextAll 11 rfl) rfl (to_getIv (y := x1) ex1 g_c9_109 (dat dk_X8_startNextAll 12 rfl) (hI.atS rfl) ?_)))
    refine to_lald (dat dk_X8_startNextAll 13 rfl) (hI.atS rfl) rfl (by decide) (by omega) ?_
    generalize h.2.2 51 (Int.toNat x1) = w7
    refine to_lor (dat dk_X8_startNextAll 14 rfl) (fun w8 => ?_)
    refine to_lastw (dat dk_X8_startNextAll 15 rfl) (hI.atS rfl) rfl (by decide) (by omega) ?_
    intro h11 wh11
    have I9 : Inv h11 := by rw [wh11]; exact hI.putL (x := w8) (a := 50) (j := (Int.toNat x1)) rfl
    have f10 : Fr [50, 51] h h11 := by rw [wh11]; exact Fr.putF (a := 50) (j := (Int.toNat x1)) (x := w8) (Fr.rf _ _) rfl
    refine to_aload_n (dat dk_X8_startNextAll 16 rfl) rfl (to_getR 51 g_c9_15 (dat dk_X8_startNextAll 17 rfl) (I9.atS rfl) (I9.atE rfl) (to_aload_n (dat dk_X8_startNextAll 18 rfl) rfl (to_getIv (y := x1) (by rw [wh11]; exact ex1) g_c9_109 (dat dk_X8_startNextAll 19 rfl) (I9.atS rfl) (to_aload_n (dat dk_X8_startNextAll 20 rfl) rfl ?_))))
    refine to_getL g_c9_73 (dat dk_X8_startNextAll 21 rfl) (I9.atS rfl) ?_
    generalize h11.2.2 49 15 = w12
    refine to_lastw (dat dk_X8_startNextAll 22 rfl) (I9.atS rfl) rfl (by decide) (by omega) ?_
    intro h15 wh15
    have I13 : Inv h15 := by rw [wh15]; exact I9.putL (x := w12) (a := 51) (j := (Int.toNat x1)) rfl
    have f14 : Fr [50, 51] h h15 := by rw [wh15]; exact Fr.putF (a := 51) (j := (Int.toNat x1)) (x := w12) f10 rfl
    exact to_vret rfl (dat dk_X8_startNextAll 23 rfl) (rv_mk ⟨I13, f14⟩)
abbrev Q_X8_turn (h : Hp) : Option V → Hp → Nat → Nat → Prop := RV (fun H => Inv H ∧ Fr [52] h H)
set_option maxRecDepth 100000 in
theorem ct_X8_turn (l : Launch) (h : Hp) (hI : Inv h)  : Ct l D_X8_turn 1 20 [.inr (.inr 49)] h (Q_X8_turn h) := by
  refine ct_of pn_X8_turn (Nat.le_of_ble_eq_true rfl) ?_
  show To l E_X8_turn (0, [(0, .inr (.inr 49))], [], h, 0, 0) _
  refine to_aload_n (dat dk_X8_turn 0 rfl) rfl ?_
  obtain ⟨x1, ex1⟩ : ∃ y : Int, h.2.2 49 14 = y := ⟨_, rfl⟩
  have rx1 := hI.atR (a := 49) (j := 14) rfl
  rw [ex1] at rx1
  refine to_cI ca_c9_121 (dat dk_X8_turn 1 rfl) (ct_X8_isLevel l h hI ) rfl ⟨_, _, rfl, (hI.atS rfl)⟩ rfl (fun x2 h3 rx2 p4 => ?_)
  obtain ⟨rfl, zx2, p4_0⟩ := p4
  refine to_ifeq 33 (dat dk_X8_turn 2 rfl) rfl rx2 (fun c5 => ?_) (fun c5 => ?_)
  · skip
    exact to_vret rfl (dat dk_X8_turn 17 rfl) (rv_mk ⟨hI, (Fr.rf _ _)⟩)
  · skip
    refine to_aload_n (dat dk_X8_turn 3 rfl) rfl (to_getR 52 g_c9_18 (dat dk_X8_turn 4 rfl) (hI.atS rfl) (hI.atE rfl) (to_aload_n (dat dk_X8_turn 5 rfl) rfl (to_getIv (y := x1) ex1 g_c9_109 (dat dk_X8_turn 6 rfl) (hI.atS rfl) (to_aload_n (dat dk_X8_turn 7 rfl) rfl (to_getR 52 g_c9_18 (dat dk_X8_turn 8 rfl) (hI.atS rfl) (hI.atE rfl) (to_aload_n (dat dk_X8_turn 9 rfl) rfl (to_getIv (y := x1) ex1 g_c9_109 (dat dk_X8_turn 10 rfl) (hI.atS rfl) ?_)))))))
    obtain ⟨x6, ex6⟩ : ∃ y : Int, h.2.2 52 (Int.toNat x1) = y := ⟨_, rfl⟩
    have rx6 := hI.atR (a := 52) (j := Int.toNat x1) rfl
    rw [ex6] at rx6
    refine to_baldv (q := 2) ex6 (dat dk_X8_turn 11 rfl) (by decide) (hI.atS rfl) rfl (by decide) (by omega) ?_
    refine to_ifne 31 (dat dk_X8_turn 12 rfl) rfl (by omega) (fun c7 => ?_) (fun c7 => ?_)
    · skip
      refine to_iconst (dat dk_X8_turn 15 rfl) (to_zastw (dat dk_X8_turn 16 rfl) (hI.atS rfl) rfl (by decide) (by omega) (by decide) ?_)
      intro h10 wh10
      have I8 : Inv h10 := by rw [wh10]; exact hI.put (a := 52) (j := (Int.toNat x1)) (x := 0) (0) (1) rfl rfl (show (0 : Int) ≤ 0 ∧ 0 ≤ 1 by decide)
      have f9 : Fr [52] h h10 := by rw [wh10]; exact Fr.putF (a := 52) (j := (Int.toNat x1)) (x := 0) (Fr.rf _ _) rfl
      exact to_vret rfl (dat dk_X8_turn 17 rfl) (rv_mk ⟨I8, f9⟩)
    · skip
      refine to_iconst (dat dk_X8_turn 13 rfl) (to_goto (dat dk_X8_turn 14 rfl) rfl (to_zastw (dat dk_X8_turn 16 rfl) (hI.atS rfl) rfl (by decide) (by omega) (by decide) ?_))
      intro h13 wh13
      have I11 : Inv h13 := by rw [wh13]; exact hI.put (a := 52) (j := (Int.toNat x1)) (x := 1) (0) (1) rfl rfl (show (0 : Int) ≤ 1 ∧ 1 ≤ 1 by decide)
      have f12 : Fr [52] h h13 := by rw [wh13]; exact Fr.putF (a := 52) (j := (Int.toNat x1)) (x := 1) (Fr.rf _ _) rfl
      exact to_vret rfl (dat dk_X8_turn 17 rfl) (rv_mk ⟨I11, f12⟩)
abbrev Q_X8_join (h : Hp) (w : Int) : Option V → Hp → Nat → Nat → Prop := RV (fun H => Inv H ∧ Fr [51, 52] h H)
set_option maxRecDepth 100000 in
theorem ct_X8_join (l : Launch) (h : Hp) (hI : Inv h) (w : Int) : Ct l D_X8_join 1 20 [.inr (.inr 49), .inr (.inl w)] h (Q_X8_join h w) := by
  refine ct_of pn_X8_join (Nat.le_of_ble_eq_true rfl) ?_
  show To l E_X8_join (0, [(0, .inr (.inr 49)), (1, .inr (.inl w))], [], h, 0, 0) _
  refine to_aload_n (dat dk_X8_join 0 rfl) rfl ?_
  obtain ⟨x1, ex1⟩ : ∃ y : Int, h.2.2 49 14 = y := ⟨_, rfl⟩
  have rx1 := hI.atR (a := 49) (j := 14) rfl
  rw [ex1] at rx1
  refine to_cI ca_c9_121 (dat dk_X8_join 1 rfl) (ct_X8_isLevel l h hI ) rfl ⟨_, _, rfl, (hI.atS rfl)⟩ rfl (fun x2 h3 rx2 p4 => ?_)
  obtain ⟨rfl, zx2, p4_0⟩ := p4
  refine to_ifeq 55 (dat dk_X8_join 2 rfl) rfl rx2 (fun c5 => ?_) (fun c5 => ?_)
  · skip
    exact to_vret rfl (dat dk_X8_join 31 rfl) (rv_mk ⟨hI, (Fr.rf _ _)⟩)
  · skip
    refine to_aload_n (dat dk_X8_join 3 rfl) rfl (to_getR 51 g_c9_15 (dat dk_X8_join 4 rfl) (hI.atS rfl) (hI.atE rfl) (to_aload_n (dat dk_X8_join 5 rfl) rfl (to_getIv (y := x1) ex1 g_c9_109 (dat dk_X8_join 6 rfl) (hI.atS rfl) (to_dup2 (dat dk_X8_join 7 rfl) rfl rfl ?_))))
    refine to_lald (dat dk_X8_join 8 rfl) (hI.atS rfl) rfl (by decide) (by omega) ?_
    generalize h.2.2 51 (Int.toNat x1) = w6
    refine to_aload_n (dat dk_X8_join 9 rfl) rfl (to_getR 52 g_c9_18 (dat dk_X8_join 10 rfl) (hI.atS rfl) (hI.atE rfl) (to_aload_n (dat dk_X8_join 11 rfl) rfl (to_getIv (y := x1) ex1 g_c9_109 (dat dk_X8_join 12 rfl) (hI.atS rfl) ?_)))
    obtain ⟨x7, ex7⟩ : ∃ y : Int, h.2.2 52 (Int.toNat x1) = y := ⟨_, rfl⟩
    have rx7 := hI.atR (a := 52) (j := Int.toNat x1) rfl
    rw [ex7] at rx7
    refine to_baldv (q := 2) ex7 (dat dk_X8_join 13 rfl) (by decide) (hI.atS rfl) rfl (by decide) (by omega) ?_
    refine to_ifeq 42 (dat dk_X8_join 14 rfl) rfl (by omega) (fun c8 => ?_) (fun c8 => ?_)
    · skip
      refine to_lload_n (dat dk_X8_join 22 rfl) rfl ?_
      refine to_land (dat dk_X8_join 23 rfl) (fun w9 => ?_)
      refine to_lastw (dat dk_X8_join 24 rfl) (hI.atS rfl) rfl (by decide) (by omega) ?_
      intro h12 wh12
      have I10 : Inv h12 := by rw [wh12]; exact hI.putL (x := w9) (a := 51) (j := (Int.toNat x1)) rfl
      have f11 : Fr [51, 52] h h12 := by rw [wh12]; exact Fr.putF (a := 51) (j := (Int.toNat x1)) (x := w9) (Fr.rf _ _) rfl
      refine to_aload_n (dat dk_X8_join 25 rfl) rfl (to_getR 52 g_c9_18 (dat dk_X8_join 26 rfl) (I10.atS rfl) (I10.atE rfl) (to_aload_n (dat dk_X8_join 27 rfl) rfl (to_getIv (y := x1) (by rw [wh12]; exact ex1) g_c9_109 (dat dk_X8_join 28 rfl) (I10.atS rfl) (to_iconst (dat dk_X8_join 29 rfl) (to_zastw (dat dk_X8_join 30 rfl) (I10.atS rfl) rfl (by decide) (by omega) (by decide) ?_)))))
      intro h15 wh15
      have I13 : Inv h15 := by rw [wh15]; exact I10.put (a := 52) (j := (Int.toNat x1)) (x := 0) (0) (1) rfl rfl (show (0 : Int) ≤ 0 ∧ 0 ≤ 1 by decide)
      have f14 : Fr [51, 52] h h15 := by rw [wh15]; exact Fr.putF (a := 52) (j := (Int.toNat x1)) (x := 0) f11 rfl
      exact to_vret rfl (dat dk_X8_join 31 rfl) (rv_mk ⟨I13, f14⟩)
    · skip
      refine to_aload_n (dat dk_X8_join 15 rfl) rfl ?_
      refine to_getL g_c9_73 (dat dk_X8_join 16 rfl) (hI.atS rfl) ?_
      generalize h.2.2 49 15 = w16
      refine to_lload_n (dat dk_X8_join 17 rfl) rfl (to_ldc2 (v := (-1)) (x := -1) (tin 6 125 (by decide +kernel) rfl) (by decide +kernel) (dat dk_X8_join 18 rfl) ?_)
      refine to_lxor (dat dk_X8_join 19 rfl) (fun w17 => ?_)
      refine to_land (dat dk_X8_join 20 rfl) (fun w18 => ?_)
      refine to_goto (dat dk_X8_join 21 rfl) rfl ?_
      refine to_land (dat dk_X8_join 23 rfl) (fun w19 => ?_)
      refine to_lastw (dat dk_X8_join 24 rfl) (hI.atS rfl) rfl (by decide) (by omega) ?_
      intro h22 wh22
      have I20 : Inv h22 := by rw [wh22]; exact hI.putL (x := w19) (a := 51) (j := (Int.toNat x1)) rfl
      have f21 : Fr [51, 52] h h22 := by rw [wh22]; exact Fr.putF (a := 51) (j := (Int.toNat x1)) (x := w19) (Fr.rf _ _) rfl
      refine to_aload_n (dat dk_X8_join 25 rfl) rfl (to_getR 52 g_c9_18 (dat dk_X8_join 26 rfl) (I20.atS rfl) (I20.atE rfl) (to_aload_n (dat dk_X8_join 27 rfl) rfl (to_getIv (y := x1) (by rw [wh22]; exact ex1) g_c9_109 (dat dk_X8_join 28 rfl) (I20.atS rfl) (to_iconst (dat dk_X8_join 29 rfl) (to_zastw (dat dk_X8_join 30 rfl) (I20.atS rfl) rfl (by decide) (by omega) (by decide) ?_)))))
      intro h25 wh25
      have I23 : Inv h25 := by rw [wh25]; exact I20.put (a := 52) (j := (Int.toNat x1)) (x := 0) (0) (1) rfl rfl (show (0 : Int) ≤ 0 ∧ 0 ≤ 1 by decide)
      have f24 : Fr [51, 52] h h25 := by rw [wh25]; exact Fr.putF (a := 52) (j := (Int.toNat x1)) (x := 0) f21 rfl
      exact to_vret rfl (dat dk_X8_join 31 rfl) (rv_mk ⟨I23, f24⟩)
abbrev Q_X8_canStand (h : Hp) (n : Int) (y : Int) (f : Int) : Option V → Hp → Nat → Nat → Prop := RI (fun x H => h = H ∧ (x = 0 ∨ x = 1))
set_option maxRecDepth 100000 in
theorem ct_X8_canStand (l : Launch) (h : Hp) (hI : Inv h) (n : Int) (hn : I32 n) (y : Int) (hy : y = 0 ∨ y = 1) (f : Int) (hf : f = 0 ∨ f = 1) : Ct l D_X8_canStand 0 0 [.inr (.inr 49), .inl n, .inl y, .inl f] h (Q_X8_canStand h n y f) := by
  refine ct_of pn_X8_canStand (Nat.le_of_ble_eq_true rfl) ?_
  show To l E_X8_canStand (0, [(0, .inr (.inr 49)), (1, .inl n), (2, .inl y), (3, .inl f)], [], h, 0, 0) _
  refine to_iload_n (dat dk_X8_canStand 0 rfl) rfl ?_
  refine to_table (d := 113) (ts := [48, 65, 80, 97, 97, 113, 113, 111]) (dat dk_X8_canStand 1 rfl) rfl rfl rfl hn (fun c1 => ?_) ⟨fun c1 => ?_, fun c1 => ?_, fun c1 => ?_, fun c1 => ?_, fun c1 => ?_, fun c1 => ?_, fun c1 => ?_, fun c1 => ?_, trivial⟩
  · skip
    refine to_iconst (dat dk_X8_canStand 38 rfl) ?_
    exact to_zret rfl (dat dk_X8_canStand 39 rfl) (by decide) (ri_mk (by decide) ⟨rfl, (by decide)⟩)
  · skip
    refine to_iload_n (dat dk_X8_canStand 2 rfl) rfl ?_
    refine to_ifne 63 (dat dk_X8_canStand 3 rfl) rfl (by omega) (fun c2 => ?_) (fun c2 => ?_)
    · skip
      refine to_iconst (dat dk_X8_canStand 9 rfl) ?_
      exact to_zret rfl (dat dk_X8_canStand 10 rfl) (by decide) (ri_mk (by decide) ⟨rfl, (by decide)⟩)
    · skip
      refine to_aload_n (dat dk_X8_canStand 4 rfl) rfl ?_
      obtain ⟨x3, ex3⟩ : ∃ y : Int, h.2.2 49 14 = y := ⟨_, rfl⟩
      have rx3 := hI.atR (a := 49) (j := 14) rfl
      rw [ex3] at rx3
      refine to_getIv (y := x3) ex3 g_c9_109 (dat dk_X8_canStand 5 rfl) (hI.atS rfl) ?_
      refine to_ifne 63 (dat dk_X8_canStand 6 rfl) rfl (by omega) (fun c4 => ?_) (fun c4 => ?_)
      · skip
        refine to_iconst (dat dk_X8_canStand 9 rfl) ?_
        exact to_zret rfl (dat dk_X8_canStand 10 rfl) (by decide) (ri_mk (by decide) ⟨rfl, (by decide)⟩)
      · skip
        refine to_iconst (dat dk_X8_canStand 7 rfl) (to_goto (dat dk_X8_canStand 8 rfl) rfl ?_)
        exact to_zret rfl (dat dk_X8_canStand 10 rfl) (by decide) (ri_mk (by decide) ⟨rfl, (by decide)⟩)
  · skip
    refine to_aload_n (dat dk_X8_canStand 11 rfl) rfl ?_
    obtain ⟨x5, ex5⟩ : ∃ y : Int, h.2.2 49 14 = y := ⟨_, rfl⟩
    have rx5 := hI.atR (a := 49) (j := 14) rfl
    rw [ex5] at rx5
    refine to_getIv (y := x5) ex5 g_c9_109 (dat dk_X8_canStand 12 rfl) (hI.atS rfl) (to_bipush (dat dk_X8_canStand 13 rfl) (by decide) ?_)
    refine to_ige 78 (dat dk_X8_canStand 14 rfl) rfl (by omega) (by decide) (fun c6 => ?_) (fun c6 => ?_)
    · skip
      refine to_iconst (dat dk_X8_canStand 17 rfl) ?_
      exact to_zret rfl (dat dk_X8_canStand 18 rfl) (by decide) (ri_mk (by decide) ⟨rfl, (by decide)⟩)
    · skip
      refine to_iconst (dat dk_X8_canStand 15 rfl) (to_goto (dat dk_X8_canStand 16 rfl) rfl ?_)
      exact to_zret rfl (dat dk_X8_canStand 18 rfl) (by decide) (ri_mk (by decide) ⟨rfl, (by decide)⟩)
  · skip
    refine to_iload_n (dat dk_X8_canStand 19 rfl) rfl ?_
    refine to_ifne 95 (dat dk_X8_canStand 20 rfl) rfl (by omega) (fun c7 => ?_) (fun c7 => ?_)
    · skip
      refine to_iconst (dat dk_X8_canStand 26 rfl) ?_
      exact to_zret rfl (dat dk_X8_canStand 27 rfl) (by decide) (ri_mk (by decide) ⟨rfl, (by decide)⟩)
    · skip
      refine to_aload_n (dat dk_X8_canStand 21 rfl) rfl ?_
      obtain ⟨x8, ex8⟩ : ∃ y : Int, h.2.2 49 14 = y := ⟨_, rfl⟩
      have rx8 := hI.atR (a := 49) (j := 14) rfl
      rw [ex8] at rx8
      refine to_getIv (y := x8) ex8 g_c9_109 (dat dk_X8_canStand 22 rfl) (hI.atS rfl) ?_
      refine to_ifle 95 (dat dk_X8_canStand 23 rfl) rfl (by omega) (fun c9 => ?_) (fun c9 => ?_)
      · skip
        refine to_iconst (dat dk_X8_canStand 26 rfl) ?_
        exact to_zret rfl (dat dk_X8_canStand 27 rfl) (by decide) (ri_mk (by decide) ⟨rfl, (by decide)⟩)
      · skip
        refine to_iconst (dat dk_X8_canStand 24 rfl) (to_goto (dat dk_X8_canStand 25 rfl) rfl ?_)
        exact to_zret rfl (dat dk_X8_canStand 27 rfl) (by decide) (ri_mk (by decide) ⟨rfl, (by decide)⟩)
  · skip
    refine to_iload_n (dat dk_X8_canStand 28 rfl) rfl ?_
    refine to_ifne 109 (dat dk_X8_canStand 29 rfl) rfl (by omega) (fun c10 => ?_) (fun c10 => ?_)
    · skip
      refine to_iconst (dat dk_X8_canStand 34 rfl) ?_
      exact to_zret rfl (dat dk_X8_canStand 35 rfl) (by decide) (ri_mk (by decide) ⟨rfl, (by decide)⟩)
    · skip
      refine to_iload_n (dat dk_X8_canStand 30 rfl) rfl ?_
      refine to_ifne 109 (dat dk_X8_canStand 31 rfl) rfl (by omega) (fun c11 => ?_) (fun c11 => ?_)
      · skip
        refine to_iconst (dat dk_X8_canStand 34 rfl) ?_
        exact to_zret rfl (dat dk_X8_canStand 35 rfl) (by decide) (ri_mk (by decide) ⟨rfl, (by decide)⟩)
      · skip
        refine to_iconst (dat dk_X8_canStand 32 rfl) (to_goto (dat dk_X8_canStand 33 rfl) rfl ?_)
        exact to_zret rfl (dat dk_X8_canStand 35 rfl) (by decide) (ri_mk (by decide) ⟨rfl, (by decide)⟩)
  · skip
    refine to_iload_n (dat dk_X8_canStand 28 rfl) rfl ?_
    refine to_ifne 109 (dat dk_X8_canStand 29 rfl) rfl (by omega) (fun c12 => ?_) (fun c12 => ?_)
    · skip
      refine to_iconst (dat dk_X8_canStand 34 rfl) ?_
      exact to_zret rfl (dat dk_X8_canStand 35 rfl) (by decide) (ri_mk (by decide) ⟨rfl, (by decide)⟩)
    · skip
      refine to_iload_n (dat dk_X8_canStand 30 rfl) rfl ?_
      refine to_ifne 109 (dat dk_X8_canStand 31 rfl) rfl (by omega) (fun c13 => ?_) (fun c13 => ?_)
      · skip
        refine to_iconst (dat dk_X8_canStand 34 rfl) ?_
        exact to_zret rfl (dat dk_X8_canStand 35 rfl) (by decide) (ri_mk (by decide) ⟨rfl, (by decide)⟩)
      · skip
        refine to_iconst (dat dk_X8_canStand 32 rfl) (to_goto (dat dk_X8_canStand 33 rfl) rfl ?_)
        exact to_zret rfl (dat dk_X8_canStand 35 rfl) (by decide) (ri_mk (by decide) ⟨rfl, (by decide)⟩)
  · skip
    refine to_iconst (dat dk_X8_canStand 38 rfl) ?_
    exact to_zret rfl (dat dk_X8_canStand 39 rfl) (by decide) (ri_mk (by decide) ⟨rfl, (by decide)⟩)
  · skip
    refine to_iconst (dat dk_X8_canStand 38 rfl) ?_
    exact to_zret rfl (dat dk_X8_canStand 39 rfl) (by decide) (ri_mk (by decide) ⟨rfl, (by decide)⟩)
  · skip
    refine to_iconst (dat dk_X8_canStand 36 rfl) ?_
    exact to_zret rfl (dat dk_X8_canStand 37 rfl) (by decide) (ri_mk (by decide) ⟨rfl, (by decide)⟩)
abbrev Q_X8_take (h : Hp) (n : Int) : Option V → Hp → Nat → Nat → Prop := RV (fun H => Inv H ∧ Fr [49, 50, 51, 52] h H)
set_option maxRecDepth 100000 in
theorem ct_X8_take (l : Launch) (h : Hp) (hI : Inv h) (n : Int) (hn : I32 n) : Ct l D_X8_take 2 42 [.inr (.inr 49), .inl n] h (Q_X8_take h n) := by
  refine ct_of pn_X8_take (Nat.le_of_ble_eq_true rfl) ?_
  show To l E_X8_take (0, [(0, .inr (.inr 49)), (1, .inl n)], [], h, 0, 0) _
  refine to_iload_n (dat dk_X8_take 0 rfl) rfl ?_
  refine to_table (d := 86) (ts := [36, 49, 72, 86, 79]) (dat dk_X8_take 1 rfl) rfl rfl rfl hn (fun c1 => ?_) ⟨fun c1 => ?_, fun c1 => ?_, fun c1 => ?_, fun c1 => ?_, fun c1 => ?_, trivial⟩
  · skip
    exact to_vret rfl (dat dk_X8_take 28 rfl) (rv_mk ⟨hI, (Fr.rf _ _)⟩)
  · skip
    refine to_aload_n (dat dk_X8_take 2 rfl) rfl (to_aload_n (dat dk_X8_take 3 rfl) rfl ?_)
    obtain ⟨x2, ex2⟩ : ∃ y : Int, h.2.2 49 14 = y := ⟨_, rfl⟩
    have rx2 := hI.atR (a := 49) (j := 14) rfl
    rw [ex2] at rx2
    refine to_getIv (y := x2) ex2 g_c9_109 (dat dk_X8_take 4 rfl) (hI.atS rfl) (to_iconst (dat dk_X8_take 5 rfl) ?_)
    refine to_iaddA (dat dk_X8_take 6 rfl) (fun x3 rx3 => ?_)
    refine to_cV ca_c9_84 (dat dk_X8_take 7 rfl) (ct_X8_startLevel l h hI x3 rx3) rfl ⟨_, _, rfl, (hI.atS rfl)⟩ rfl (fun h5 p6 => ?_)
    obtain ⟨Ih5, fh5⟩ := p6
    have f7 : Fr [49, 50, 51, 52] h h5 := Fr.sub (Fr.rf _ _) fh5 (sub_self _)
    refine to_goto (dat dk_X8_take 8 rfl) rfl ?_
    exact to_vret rfl (dat dk_X8_take 28 rfl) (rv_mk ⟨Ih5, f7⟩)
  · skip
    refine to_aload_n (dat dk_X8_take 9 rfl) rfl ?_
    refine to_cL ca_c9_112 (dat dk_X8_take 10 rfl) (ct_X8_levelSet l h hI ) rfl ⟨_, _, rfl, (hI.atS rfl)⟩ rfl (fun x8 h9 p10 => ?_)
    subst p10
    refine to_lstore_n (L' := [(2, .inr (.inl x8)), (0, .inr (.inr 49)), (1, .inl n)]) (dat dk_X8_take 11 rfl) (by decide) rfl (to_aload_n (dat dk_X8_take 12 rfl) rfl (to_dup (dat dk_X8_take 13 rfl) rfl ?_))
    obtain ⟨x11, ex11⟩ : ∃ y : Int, h.2.2 49 14 = y := ⟨_, rfl⟩
    have rx11 := hI.atR (a := 49) (j := 14) rfl
    rw [ex11] at rx11
    refine to_getIv (y := x11) ex11 g_c9_109 (dat dk_X8_take 14 rfl) (hI.atS rfl) (to_iconst (dat dk_X8_take 15 rfl) ?_)
    refine to_isubA (dat dk_X8_take 16 rfl) (fun x12 rx12 => ?_)
    refine to_putIw p_c9_109 (dat dk_X8_take 17 rfl) (hI.atS rfl) ?_
    intro h15 wh15
    have I13 : Inv h15 := by rw [wh15]; exact hI.put (a := 49) (j := 14) (x := x12) (-2147483648) (2147483647) rfl rfl (show (-2147483648 : Int) ≤ x12 ∧ x12 ≤ 2147483647 by omega)
    have f14 : Fr [49, 50, 51, 52] h h15 := by rw [wh15]; exact Fr.putF (a := 49) (j := 14) (x := x12) (Fr.rf _ _) rfl
    refine to_aload_n (dat dk_X8_take 18 rfl) rfl (to_lload_n (dat dk_X8_take 19 rfl) rfl ?_)
    refine to_cV ca_c9_102 (dat dk_X8_take 20 rfl) (ct_X8_join l h15 I13 x8) rfl ⟨_, _, rfl, (I13.atS rfl)⟩ rfl (fun h17 p18 => ?_)
    obtain ⟨Ih17, fh17⟩ := p18
    have f19 : Fr [49, 50, 51, 52] h h17 := Fr.sub f14 fh17 rfl
    refine to_goto (dat dk_X8_take 21 rfl) rfl ?_
    exact to_vret rfl (dat dk_X8_take 28 rfl) (rv_mk ⟨Ih17, f19⟩)
  · skip
    refine to_aload_n (dat dk_X8_take 22 rfl) rfl ?_
    refine to_cV ca_c9_115 (dat dk_X8_take 23 rfl) (ct_X8_startNextAll l h hI ) rfl ⟨_, _, rfl, (hI.atS rfl)⟩ rfl (fun h21 p22 => ?_)
    obtain ⟨Ih21, fh21⟩ := p22
    have f23 : Fr [49, 50, 51, 52] h h21 := Fr.sub (Fr.rf _ _) fh21 rfl
    refine to_goto (dat dk_X8_take 24 rfl) rfl ?_
    exact to_vret rfl (dat dk_X8_take 28 rfl) (rv_mk ⟨Ih21, f23⟩)
  · skip
    exact to_vret rfl (dat dk_X8_take 28 rfl) (rv_mk ⟨hI, (Fr.rf _ _)⟩)
  · skip
    refine to_aload_n (dat dk_X8_take 25 rfl) rfl ?_
    refine to_cV ca_c9_118 (dat dk_X8_take 26 rfl) (ct_X8_turn l h hI ) rfl ⟨_, _, rfl, (hI.atS rfl)⟩ rfl (fun h25 p26 => ?_)
    obtain ⟨Ih25, fh25⟩ := p26
    have f27 : Fr [49, 50, 51, 52] h h25 := Fr.sub (Fr.rf _ _) fh25 rfl
    refine to_goto (dat dk_X8_take 27 rfl) rfl ?_
    exact to_vret rfl (dat dk_X8_take 28 rfl) (rv_mk ⟨Ih25, f27⟩)
abbrev Q_X8_standsAt (h : Hp) (m : Nat) (f : Int) (i : Int) : Option V → Hp → Nat → Nat → Prop := RI (fun x H => h = H ∧ (x = 0 ∨ x = 1))
set_option maxRecDepth 100000 in
theorem ct_X8_standsAt (l : Launch) (h : Hp) (hI : Inv h) (m : Nat) (hm : full h m) (f : Int) (hf : I32 f) (i : Int) (hi : I32 i) (g0 : f ≤ 8) (g1 : 0 ≤ i ∧ i ≤ 1250) : Ct l D_X8_standsAt 2 48 [.inr (.inr 49), .inr (.inr m), .inl f, .inl i] h (Q_X8_standsAt h m f i) := by
  refine ct_of pn_X8_standsAt (Nat.le_of_ble_eq_true rfl) ?_
  show To l E_X8_standsAt (0, [(0, .inr (.inr 49)), (1, .inr (.inr m)), (2, .inl f), (3, .inl i)], [], h, 0, 0) _
  refine to_iconst (dat dk_X8_standsAt 0 rfl) (to_istore (L' := [(0, .inr (.inr 49)), (1, .inr (.inr m)), (2, .inl f), (3, .inl i), (4, .inl 0)]) (dat dk_X8_standsAt 1 rfl) (by decide) rfl ?_)
  have lp3_n3 : ∀ (n3 : Nat) (y1 : Int), (I32 y1) → (0 ≤ y1) → (h.2.2 49 12 - y1 ≤ (n3 : Int)) → To l E_X8_standsAt (3, [(0, .inr (.inr 49)), (1, .inr (.inr m)), (2, .inl f), (3, .inl i), (4, .inl y1)], [], h, 0, 0) (Q_X8_standsAt h m f i) := by
    intro n3
    induction n3 using Nat.strongRecOn with
    | _ n3 ihn3 =>
    intro y1 ry1 c2 c4
    refine to_iload (dat dk_X8_standsAt 2 rfl) rfl (to_aload_n (dat dk_X8_standsAt 3 rfl) rfl ?_)
    obtain ⟨x5, ex5⟩ : ∃ y : Int, h.2.2 49 12 = y := ⟨_, rfl⟩
    have rx5 := hI.atR (a := 49) (j := 12) rfl
    rw [ex5] at rx5
    refine to_getIv (y := x5) ex5 g_c9_208 (dat dk_X8_standsAt 4 rfl) (hI.atS rfl) ?_
    refine to_ige 110 (dat dk_X8_standsAt 5 rfl) rfl ry1 (by omega) (fun c6 => ?_) (fun c6 => ?_)
    · skip
      refine to_iconst (dat dk_X8_standsAt 55 rfl) ?_
      exact to_zret rfl (dat dk_X8_standsAt 56 rfl) (by decide) (ri_mk (by decide) ⟨rfl, (by decide)⟩)
    · skip
      refine to_iload (dat dk_X8_standsAt 6 rfl) rfl (to_aload_n (dat dk_X8_standsAt 7 rfl) rfl (to_getR 53 g_c9_22 (dat dk_X8_standsAt 8 rfl) (hI.atS rfl) (hI.atE rfl) (to_alen (dat dk_X8_standsAt 9 rfl) (hI.atS rfl) (by decide) ?_)))
      refine to_ige 110 (dat dk_X8_standsAt 10 rfl) rfl ry1 (by decide) (fun c7 => ?_) (fun c7 => ?_)
      · skip
        refine to_iconst (dat dk_X8_standsAt 55 rfl) ?_
        exact to_zret rfl (dat dk_X8_standsAt 56 rfl) (by decide) (ri_mk (by decide) ⟨rfl, (by decide)⟩)
      · skip
        refine to_aload_np (dat dk_X8_standsAt 11 rfl) (by have := full.big hI hm; omega) rfl (to_iload_n (dat dk_X8_standsAt 12 rfl) rfl (to_iload_n (dat dk_X8_standsAt 13 rfl) rfl (to_iload (dat dk_X8_standsAt 14 rfl) rfl (to_iadd (dat dk_X8_standsAt 15 rfl) ?_))))
        refine to_cI ca_c9_226 (dat dk_X8_standsAt 16 rfl) (ct_X6_wordAt l h hI m hm f hf (i + y1) (by omega) (show f ≤ 8 by omega)) rfl ⟨_, _, rfl, hm.1⟩ rfl (fun x8 h9 rx8 p10 => ?_)
        subst p10
        refine to_istore (L' := [(0, .inr (.inr 49)), (1, .inr (.inr m)), (2, .inl f), (3, .inl i), (4, .inl y1), (5, .inl x8)]) (dat dk_X8_standsAt 17 rfl) (by decide) rfl ?_
        have jn56_n12 : ∀ (y11 : Int), (y11 = 0 ∨ y11 = 1) → To l E_X8_standsAt (56, [(0, .inr (.inr 49)), (1, .inr (.inr m)), (2, .inl f), (3, .inl i), (4, .inl y1), (5, .inl x8)], [.inl y11], h, 0, 0) (Q_X8_standsAt h m f i) := by
          intro y11 ry11
          refine to_istore (L' := [(0, .inr (.inr 49)), (1, .inr (.inr m)), (2, .inl f), (3, .inl i), (4, .inl y1), (5, .inl x8), (6, .inl y11)]) (dat dk_X8_standsAt 30 rfl) (by decide) rfl (to_iload (dat dk_X8_standsAt 31 rfl) rfl ?_)
          refine to_ifeq 90 (dat dk_X8_standsAt 32 rfl) rfl (by omega) (fun c13 => ?_) (fun c13 => ?_)
          · skip
            refine to_iload (dat dk_X8_standsAt 45 rfl) rfl (to_aload_n (dat dk_X8_standsAt 46 rfl) rfl (to_getR 53 g_c9_22 (dat dk_X8_standsAt 47 rfl) (hI.atS rfl) (hI.atE rfl) (to_iload (dat dk_X8_standsAt 48 rfl) rfl ?_)))
            obtain ⟨x14, ex14⟩ : ∃ y : Int, h.2.2 53 (Int.toNat y1) = y := ⟨_, rfl⟩
            have rx14 := hI.atR (a := 53) (j := Int.toNat y1) rfl
            rw [ex14] at rx14
            refine to_ialdv ex14 (dat dk_X8_standsAt 49 rfl) (hI.atS rfl) rfl (by decide) (by omega) ?_
            refine to_ieq 104 (dat dk_X8_standsAt 50 rfl) rfl rx8 (by omega) (fun c15 => ?_) (fun c15 => ?_)
            · skip
              refine to_iinc (L' := [(0, .inr (.inr 49)), (1, .inr (.inr m)), (2, .inl f), (3, .inl i), (4, .inl (y1 + 1)), (5, .inl x8), (6, .inl y11)]) (dat dk_X8_standsAt 53 rfl) rfl (by decide) rfl (to_goto (dat dk_X8_standsAt 54 rfl) rfl ?_)
              refine to_pick [0, 1, 2, 3, 4] rfl ?_
              exact ihn3 (n3 - 1) (by omega) (y1 + 1) (by omega) (show 0 ≤ (y1 + 1) by omega) (show h.2.2 49 12 - (y1 + 1) ≤ ((n3 - 1 : Nat) : Int) by omega)
            · skip
              refine to_iconst (dat dk_X8_standsAt 51 rfl) ?_
              exact to_zret rfl (dat dk_X8_standsAt 52 rfl) (by decide) (ri_mk (by decide) ⟨rfl, (by decide)⟩)
          · skip
            refine to_aload_n (dat dk_X8_standsAt 33 rfl) rfl (to_getR 8 g_c9_48 (dat dk_X8_standsAt 34 rfl) (hI.atS rfl) (hI.atE rfl) (to_iload (dat dk_X8_standsAt 35 rfl) rfl (to_aload_n (dat dk_X8_standsAt 36 rfl) rfl (to_getR 54 g_c9_33 (dat dk_X8_standsAt 37 rfl) (hI.atS rfl) (hI.atE rfl) (to_iconst (dat dk_X8_standsAt 38 rfl) (to_aload_n (dat dk_X8_standsAt 39 rfl) rfl (to_getR 54 g_c9_33 (dat dk_X8_standsAt 40 rfl) (hI.atS rfl) (hI.atE rfl) ?_)))))))
            obtain ⟨x16, ex16⟩ : ∃ y : Int, h.2.2 54 1 = y := ⟨_, rfl⟩
            have rx16 := hI.atR (a := 54) (j := 1) rfl
            rw [ex16] at rx16
            refine to_cI ca_c9_87 (dat dk_X8_standsAt 41 rfl) (ct_X1_size l h hI 54 rfl) rfl ⟨_, _, rfl, (hI.atS rfl)⟩ rfl (fun x17 h18 rx17 p19 => ?_)
            obtain ⟨rfl, p19_0⟩ := p19
            refine to_cI ca_c9_229 (dat dk_X8_standsAt 42 rfl) (ct_X0_begins l h hI 8 60 rfl x8 rx8 54 rfl 0 (by decide) x17 rx17) rfl ⟨_, _, rfl, (hI.atS rfl)⟩ rfl (fun x20 h21 rx20 p22 => ?_)
            obtain ⟨rfl, zx20⟩ := p22
            refine to_ifne 104 (dat dk_X8_standsAt 43 rfl) rfl rx20 (fun c23 => ?_) (fun c23 => ?_)
            · skip
              refine to_iinc (L' := [(0, .inr (.inr 49)), (1, .inr (.inr m)), (2, .inl f), (3, .inl i), (4, .inl (y1 + 1)), (5, .inl x8), (6, .inl y11)]) (dat dk_X8_standsAt 53 rfl) rfl (by decide) rfl (to_goto (dat dk_X8_standsAt 54 rfl) rfl ?_)
              refine to_pick [0, 1, 2, 3, 4] rfl ?_
              exact ihn3 (n3 - 1) (by omega) (y1 + 1) (by omega) (show 0 ≤ (y1 + 1) by omega) (show h.2.2 49 12 - (y1 + 1) ≤ ((n3 - 1 : Nat) : Int) by omega)
            · skip
              refine to_goto (dat dk_X8_standsAt 44 rfl) rfl (to_iconst (dat dk_X8_standsAt 51 rfl) ?_)
              exact to_zret rfl (dat dk_X8_standsAt 52 rfl) (by decide) (ri_mk (by decide) ⟨rfl, (by decide)⟩)
        refine to_aload_n (dat dk_X8_standsAt 18 rfl) rfl ?_
        obtain ⟨x24, ex24⟩ : ∃ y : Int, h.2.2 49 13 = y := ⟨_, rfl⟩
        have rx24 := hI.atR (a := 49) (j := 13) rfl
        rw [ex24] at rx24
        refine to_getIv (y := x24) ex24 g_c9_205 (dat dk_X8_standsAt 19 rfl) (hI.atS rfl) ?_
        refine to_ifeq 55 (dat dk_X8_standsAt 20 rfl) rfl (by omega) (fun c25 => ?_) (fun c25 => ?_)
        · skip
          refine to_iconst (dat dk_X8_standsAt 29 rfl) ?_
          exact jn56_n12 0 (by decide)
        · skip
          refine to_iload (dat dk_X8_standsAt 21 rfl) rfl (to_aload_n (dat dk_X8_standsAt 22 rfl) rfl (to_getIv (y := x5) ex5 g_c9_208 (dat dk_X8_standsAt 23 rfl) (hI.atS rfl) (to_iconst (dat dk_X8_standsAt 24 rfl) (to_isub (dat dk_X8_standsAt 25 rfl) ?_))))
          refine to_ine 55 (dat dk_X8_standsAt 26 rfl) rfl ry1 (by omega) (fun c26 => ?_) (fun c26 => ?_)
          · skip
            refine to_iconst (dat dk_X8_standsAt 29 rfl) ?_
            exact jn56_n12 0 (by decide)
          · skip
            refine to_iconst (dat dk_X8_standsAt 27 rfl) (to_goto (dat dk_X8_standsAt 28 rfl) rfl ?_)
            exact jn56_n12 1 (by decide)
  exact lp3_n3 (h.2.2 49 12 - (0 : Int)).toNat 0 (by decide) (show 0 ≤ (0 : Int) by omega) (by omega)
abbrev Q_X8_hasPhrase (h : Hp) (m : Nat) (f : Int) : Option V → Hp → Nat → Nat → Prop := RI (fun x H => h = H ∧ (x = 0 ∨ x = 1))
set_option maxRecDepth 100000 in
theorem ct_X8_hasPhrase (l : Launch) (h : Hp) (hI : Inv h) (m : Nat) (hm : full h m) (f : Int) (hf : I32 f) (g0 : f ≤ 8) : Ct l D_X8_hasPhrase 3 74 [.inr (.inr 49), .inr (.inr m), .inl f] h (Q_X8_hasPhrase h m f) := by
  refine ct_of pn_X8_hasPhrase (Nat.le_of_ble_eq_true rfl) ?_
  show To l E_X8_hasPhrase (0, [(0, .inr (.inr 49)), (1, .inr (.inr m)), (2, .inl f)], [], h, 0, 0) _
  refine to_aload_n (dat dk_X8_hasPhrase 0 rfl) rfl ?_
  obtain ⟨x1, ex1⟩ : ∃ y : Int, h.2.2 49 12 = y := ⟨_, rfl⟩
  have rx1 := hI.atR (a := 49) (j := 12) rfl
  rw [ex1] at rx1
  refine to_getIv (y := x1) ex1 g_c9_208 (dat dk_X8_hasPhrase 1 rfl) (hI.atS rfl) ?_
  refine to_ifne 9 (dat dk_X8_hasPhrase 2 rfl) rfl (by omega) (fun c2 => ?_) (fun c2 => ?_)
  · skip
    refine to_iconst (dat dk_X8_hasPhrase 5 rfl) (to_istore_n (L' := [(0, .inr (.inr 49)), (1, .inr (.inr m)), (2, .inl f), (3, .inl 0)]) (dat dk_X8_hasPhrase 6 rfl) (by decide) rfl ?_)
    have lp11_n6 : ∀ (n6 : Nat) (y3 : Int), (I32 y3) → (0 ≤ y3) → (y3 ≤ 1250) → (1300 - y3 ≤ (n6 : Int)) → To l E_X8_hasPhrase (11, [(0, .inr (.inr 49)), (1, .inr (.inr m)), (2, .inl f), (3, .inl y3)], [], h, 0, 0) (Q_X8_hasPhrase h m f) := by
      intro n6
      induction n6 using Nat.strongRecOn with
      | _ n6 ihn6 =>
      intro y3 ry3 c4 c5 c7
      refine to_iload_n (dat dk_X8_hasPhrase 7 rfl) rfl (to_aload_n (dat dk_X8_hasPhrase 8 rfl) rfl (to_getIv (y := x1) ex1 g_c9_208 (dat dk_X8_hasPhrase 9 rfl) (hI.atS rfl) (to_iadd (dat dk_X8_hasPhrase 10 rfl) (to_aload_np (dat dk_X8_hasPhrase 11 rfl) (by have := full.big hI hm; omega) rfl (to_iload_n (dat dk_X8_hasPhrase 12 rfl) rfl ?_)))))
      refine to_cI ca_c9_220 (dat dk_X8_hasPhrase 13 rfl) (ct_X6_wordsIn l h hI m hm f hf (show f ≤ 8 by omega)) rfl ⟨_, _, rfl, hm.1⟩ rfl (fun x8 h9 rx8 p10 => ?_)
      obtain ⟨rfl, p10_0⟩ := p10
      refine to_igt 43 (dat dk_X8_hasPhrase 14 rfl) rfl (by omega) rx8 (fun c11 => ?_) (fun c11 => ?_)
      · skip
        refine to_iconst (dat dk_X8_hasPhrase 25 rfl) ?_
        exact to_zret rfl (dat dk_X8_hasPhrase 26 rfl) (by decide) (ri_mk (by decide) ⟨rfl, (by decide)⟩)
      · skip
        refine to_aload_n (dat dk_X8_hasPhrase 15 rfl) rfl (to_aload_np (dat dk_X8_hasPhrase 16 rfl) (by have := full.big hI hm; omega) rfl (to_iload_n (dat dk_X8_hasPhrase 17 rfl) rfl (to_iload_n (dat dk_X8_hasPhrase 18 rfl) rfl ?_)))
        refine to_cI ca_c9_223 (dat dk_X8_hasPhrase 19 rfl) (ct_X8_standsAt l h hI m hm f hf y3 ry3 (show f ≤ 8 by omega) (show 0 ≤ y3 ∧ y3 ≤ 1250 by omega)) rfl ⟨_, _, rfl, (hI.atS rfl)⟩ rfl (fun x12 h13 rx12 p14 => ?_)
        obtain ⟨rfl, zx12⟩ := p14
        refine to_ifeq 37 (dat dk_X8_hasPhrase 20 rfl) rfl rx12 (fun c15 => ?_) (fun c15 => ?_)
        · skip
          refine to_iinc (L' := [(0, .inr (.inr 49)), (1, .inr (.inr m)), (2, .inl f), (3, .inl (y3 + 1))]) (dat dk_X8_hasPhrase 23 rfl) rfl (by decide) rfl (to_goto (dat dk_X8_hasPhrase 24 rfl) rfl ?_)
          exact ihn6 (n6 - 1) (by omega) (y3 + 1) (by omega) (show 0 ≤ (y3 + 1) by omega) (show (y3 + 1) ≤ 1250 by omega) (show 1300 - (y3 + 1) ≤ ((n6 - 1 : Nat) : Int) by omega)
        · skip
          refine to_iconst (dat dk_X8_hasPhrase 21 rfl) ?_
          exact to_zret rfl (dat dk_X8_hasPhrase 22 rfl) (by decide) (ri_mk (by decide) ⟨rfl, (by decide)⟩)
    exact lp11_n6 (1300 - (0 : Int)).toNat 0 (by decide) (show 0 ≤ (0 : Int) by omega) (show (0 : Int) ≤ 1250 by omega) (by omega)
  · skip
    refine to_iconst (dat dk_X8_hasPhrase 3 rfl) ?_
    exact to_zret rfl (dat dk_X8_hasPhrase 4 rfl) (by decide) (ri_mk (by decide) ⟨rfl, (by decide)⟩)
abbrev Q_X8_isMatch (h : Hp) (m : Nat) (p : Int) (n : Int) : Option V → Hp → Nat → Nat → Prop := RI (fun x H => h = H ∧ (x = 0 ∨ x = 1))
set_option maxRecDepth 100000 in
theorem ct_X8_isMatch (l : Launch) (h : Hp) (hI : Inv h) (m : Nat) (hm : full h m) (p : Int) (hp : I32 p) (n : Int) (hn : I32 n) : Ct l D_X8_isMatch 4 97 [.inr (.inr 49), .inr (.inr m), .inl p, .inl n] h (Q_X8_isMatch h m p n) := by
  refine ct_of pn_X8_isMatch (Nat.le_of_ble_eq_true rfl) ?_
  show To l E_X8_isMatch (0, [(0, .inr (.inr 49)), (1, .inr (.inr m)), (2, .inl p), (3, .inl n)], [], h, 0, 0) _
  refine to_aload_n (dat dk_X8_isMatch 0 rfl) rfl (to_getR 56 g_c9_63 (dat dk_X8_isMatch 1 rfl) (hI.atS rfl) (hI.atE rfl) ?_)
  obtain ⟨x1, ex1⟩ : ∃ y : Int, h.2.2 56 3 = y := ⟨_, rfl⟩
  have rx1 := hI.atR (a := 56) (j := 3) rfl
  rw [ex1] at rx1
  refine to_getIv (y := x1) ex1 g_c9_127 (dat dk_X8_isMatch 2 rfl) (hI.atS rfl) ?_
  refine to_table (d := 116) (ts := [40, 46, 65, 83, 92]) (dat dk_X8_isMatch 3 rfl) rfl rfl rfl (by omega) (fun c2 => ?_) ⟨fun c2 => ?_, fun c2 => ?_, fun c2 => ?_, fun c2 => ?_, fun c2 => ?_, trivial⟩
  · skip
    refine to_aload_n (dat dk_X8_isMatch 48 rfl) rfl (to_aload_np (dat dk_X8_isMatch 49 rfl) (by have := full.big hI hm; omega) rfl (to_aload_n (dat dk_X8_isMatch 50 rfl) rfl (to_getR 56 g_c9_63 (dat dk_X8_isMatch 51 rfl) (hI.atS rfl) (hI.atE rfl) (to_getIv (y := x1) ex1 g_c9_127 (dat dk_X8_isMatch 52 rfl) (hI.atS rfl) ?_))))
    refine to_cI ca_c9_181 (dat dk_X8_isMatch 53 rfl) (ct_X8_hasPhrase l h hI m hm x1 (by omega) (show x1 ≤ 8 by omega)) rfl ⟨_, _, rfl, (hI.atS rfl)⟩ rfl (fun x3 h4 rx3 p5 => ?_)
    obtain ⟨rfl, zx3⟩ := p5
    exact to_zret rfl (dat dk_X8_isMatch 54 rfl) (by omega) (ri_mk rx3 ⟨rfl, (by omega)⟩)
  · skip
    refine to_aload_np (dat dk_X8_isMatch 4 rfl) (by have := full.big hI hm; omega) rfl (to_iload_n (dat dk_X8_isMatch 5 rfl) rfl ?_)
    refine to_cI ca_c9_164 (dat dk_X8_isMatch 6 rfl) (ct_X6_hasTag l h hI m hm n hn) rfl ⟨_, _, rfl, hm.1⟩ rfl (fun x6 h7 rx6 p8 => ?_)
    obtain ⟨rfl, zx6⟩ := p8
    exact to_zret rfl (dat dk_X8_isMatch 7 rfl) (by omega) (ri_mk rx6 ⟨rfl, (by omega)⟩)
  · skip
    refine to_iload_n (dat dk_X8_isMatch 8 rfl) rfl (to_iconst (dat dk_X8_isMatch 9 rfl) ?_)
    refine to_ieq 63 (dat dk_X8_isMatch 10 rfl) rfl hn (by decide) (fun c9 => ?_) (fun c9 => ?_)
    · skip
      refine to_iconst (dat dk_X8_isMatch 17 rfl) ?_
      exact to_zret rfl (dat dk_X8_isMatch 18 rfl) (by decide) (ri_mk (by decide) ⟨rfl, (by decide)⟩)
    · skip
      refine to_aload_np (dat dk_X8_isMatch 11 rfl) (by have := full.big hI hm; omega) rfl ?_
      obtain ⟨x10, ex10⟩ : ∃ y : Int, h.2.2 m 4 = y := ⟨_, rfl⟩
      have rx10 := full.f4 hI hm
      rw [ex10] at rx10
      refine to_getIv (y := x10) ex10 g_c9_168 (dat dk_X8_isMatch 12 rfl) hm.1 (to_iload_n (dat dk_X8_isMatch 13 rfl) rfl ?_)
      refine to_ine 63 (dat dk_X8_isMatch 14 rfl) rfl rx10 hn (fun c11 => ?_) (fun c11 => ?_)
      · skip
        refine to_iconst (dat dk_X8_isMatch 17 rfl) ?_
        exact to_zret rfl (dat dk_X8_isMatch 18 rfl) (by decide) (ri_mk (by decide) ⟨rfl, (by decide)⟩)
      · skip
        refine to_iconst (dat dk_X8_isMatch 15 rfl) (to_goto (dat dk_X8_isMatch 16 rfl) rfl ?_)
        exact to_zret rfl (dat dk_X8_isMatch 18 rfl) (by decide) (ri_mk (by decide) ⟨rfl, (by decide)⟩)
  · skip
    refine to_aload_n (dat dk_X8_isMatch 19 rfl) rfl (to_getR 27 g_c9_44 (dat dk_X8_isMatch 20 rfl) (hI.atS rfl) (hI.atE rfl) (to_iload_n (dat dk_X8_isMatch 21 rfl) rfl ?_))
    refine to_cI ca_c9_171 (dat dk_X8_isMatch 22 rfl) (ct_X10_threadOf l h hI p hp) rfl ⟨_, _, rfl, (hI.atS rfl)⟩ rfl (fun x12 h13 rx12 p14 => ?_)
    subst p14
    refine to_iload_n (dat dk_X8_isMatch 23 rfl) rfl ?_
    refine to_ine 81 (dat dk_X8_isMatch 24 rfl) rfl rx12 hn (fun c15 => ?_) (fun c15 => ?_)
    · skip
      refine to_iconst (dat dk_X8_isMatch 27 rfl) ?_
      exact to_zret rfl (dat dk_X8_isMatch 28 rfl) (by decide) (ri_mk (by decide) ⟨rfl, (by decide)⟩)
    · skip
      refine to_iconst (dat dk_X8_isMatch 25 rfl) (to_goto (dat dk_X8_isMatch 26 rfl) rfl ?_)
      exact to_zret rfl (dat dk_X8_isMatch 28 rfl) (by decide) (ri_mk (by decide) ⟨rfl, (by decide)⟩)
  · skip
    refine to_aload_n (dat dk_X8_isMatch 29 rfl) rfl (to_aload_np (dat dk_X8_isMatch 30 rfl) (by have := full.big hI hm; omega) rfl ?_)
    obtain ⟨x16, ex16⟩ : ∃ y : Int, h.2.2 m 3 = y := ⟨_, rfl⟩
    have rx16 := full.f3 hI hm
    rw [ex16] at rx16
    refine to_getIv (y := x16) ex16 g_c9_175 (dat dk_X8_isMatch 31 rfl) hm.1 ?_
    refine to_cI ca_c9_178 (dat dk_X8_isMatch 32 rfl) (ct_X8_isInDays l h hI x16 rx16) rfl ⟨_, _, rfl, (hI.atS rfl)⟩ rfl (fun x17 h18 rx17 p19 => ?_)
    obtain ⟨rfl, zx17⟩ := p19
    exact to_zret rfl (dat dk_X8_isMatch 33 rfl) (by omega) (ri_mk rx17 ⟨rfl, (by omega)⟩)
  · skip
    refine to_aload_n (dat dk_X8_isMatch 34 rfl) rfl (to_aload_np (dat dk_X8_isMatch 35 rfl) (by have := full.big hI hm; omega) rfl (to_iconst (dat dk_X8_isMatch 36 rfl) ?_))
    refine to_cI ca_c9_181 (dat dk_X8_isMatch 37 rfl) (ct_X8_hasPhrase l h hI m hm 2 (by decide) (show (2 : Int) ≤ 8 by omega)) rfl ⟨_, _, rfl, (hI.atS rfl)⟩ rfl (fun x20 h21 rx20 p22 => ?_)
    obtain ⟨rfl, zx20⟩ := p22
    refine to_ifne 110 (dat dk_X8_isMatch 38 rfl) rfl rx20 (fun c23 => ?_) (fun c23 => ?_)
    · skip
      refine to_iconst (dat dk_X8_isMatch 44 rfl) (to_goto (dat dk_X8_isMatch 45 rfl) rfl ?_)
      exact to_zret rfl (dat dk_X8_isMatch 47 rfl) (by decide) (ri_mk (by decide) ⟨rfl, (by decide)⟩)
    · skip
      refine to_aload_n (dat dk_X8_isMatch 39 rfl) rfl (to_aload_np (dat dk_X8_isMatch 40 rfl) (by have := full.big hI hm; omega) rfl (to_iconst (dat dk_X8_isMatch 41 rfl) ?_))
      refine to_cI ca_c9_181 (dat dk_X8_isMatch 42 rfl) (ct_X8_hasPhrase l h hI m hm 3 (by decide) (show (3 : Int) ≤ 8 by omega)) rfl ⟨_, _, rfl, (hI.atS rfl)⟩ rfl (fun x24 h25 rx24 p26 => ?_)
      obtain ⟨rfl, zx24⟩ := p26
      refine to_ifeq 114 (dat dk_X8_isMatch 43 rfl) rfl rx24 (fun c27 => ?_) (fun c27 => ?_)
      · skip
        refine to_iconst (dat dk_X8_isMatch 46 rfl) ?_
        exact to_zret rfl (dat dk_X8_isMatch 47 rfl) (by decide) (ri_mk (by decide) ⟨rfl, (by decide)⟩)
      · skip
        refine to_iconst (dat dk_X8_isMatch 44 rfl) (to_goto (dat dk_X8_isMatch 45 rfl) rfl ?_)
        exact to_zret rfl (dat dk_X8_isMatch 47 rfl) (by decide) (ri_mk (by decide) ⟨rfl, (by decide)⟩)
abbrev Q_X8_readPhrase (h : Hp) : Option V → Hp → Nat → Nat → Prop := RV (fun H => Inv H ∧ Fr [49, 53, 54] h H)
set_option maxRecDepth 100000 in
theorem ct_X8_readPhrase (l : Launch) (h : Hp) (hI : Inv h)  : Ct l D_X8_readPhrase 3 74 [.inr (.inr 49)] h (Q_X8_readPhrase h) := by
  refine ct_of pn_X8_readPhrase (Nat.le_of_ble_eq_true rfl) ?_
  show To l E_X8_readPhrase (0, [(0, .inr (.inr 49))], [], h, 0, 0) _
  obtain ⟨x1, ex1⟩ : ∃ y : Int, h.2.2 49 12 = y := ⟨_, rfl⟩
  have rx1 := hI.atR (a := 49) (j := 12) rfl
  rw [ex1] at rx1
  refine to_aload_n (dat dk_X8_readPhrase 0 rfl) rfl ?_
  have jn37_n3 : ∀ (y2 : Int), (y2 = 0 ∨ y2 = 1) → To l E_X8_readPhrase (37, [(0, .inr (.inr 49))], [.inl y2, .inr (.inr 49)], h, 0, 0) (Q_X8_readPhrase h) := by
    intro y2 ry2
    refine to_putZw p_c9_205 (dat dk_X8_readPhrase 18 rfl) (hI.atS rfl) (by omega) ?_
    intro h6 wh6
    have I4 : Inv h6 := by rw [wh6]; exact hI.put (a := 49) (j := 13) (x := y2) (0) (1) rfl rfl (show (0 : Int) ≤ y2 ∧ y2 ≤ 1 by omega)
    have f5 : Fr [49, 53, 54] h h6 := by rw [wh6]; exact Fr.putF (a := 49) (j := 13) (x := y2) (Fr.rf _ _) rfl
    refine to_aload_n (dat dk_X8_readPhrase 19 rfl) rfl (to_iconst (dat dk_X8_readPhrase 20 rfl) (to_putIw p_c9_208 (dat dk_X8_readPhrase 21 rfl) (I4.atS rfl) ?_))
    intro h9 wh9
    have I7 : Inv h9 := by rw [wh9]; exact I4.put (a := 49) (j := 12) (x := 0) (0) (1200) rfl rfl (show (0 : Int) ≤ 0 ∧ 0 ≤ 1200 by decide)
    have f8 : Fr [49, 53, 54] h h9 := by rw [wh9]; exact Fr.putF (a := 49) (j := 12) (x := 0) f5 rfl
    refine to_aload_n (dat dk_X8_readPhrase 22 rfl) rfl (to_getR 56 g_c9_63 (dat dk_X8_readPhrase 23 rfl) (I7.atS rfl) (I7.atE rfl) ?_)
    obtain ⟨x10, ex10⟩ : ∃ y : Int, h9.2.2 56 5 = y := ⟨_, rfl⟩
    have rx10 := I7.atR (a := 56) (j := 5) rfl
    rw [ex10] at rx10
    refine to_getIv (y := x10) ex10 g_c9_133 (dat dk_X8_readPhrase 24 rfl) (I7.atS rfl) (to_istore_n (L' := [(0, .inr (.inr 49)), (1, .inl x10)]) (dat dk_X8_readPhrase 25 rfl) (by decide) rfl ?_)
    have lp53_n14 : ∀ (n14 : Nat) (y11 : Int), (I32 y11) → (0 ≤ y11) → (y11 ≤ 1201) → (y11 ≤ (n14 : Int)) → To l E_X8_readPhrase (53, [(0, .inr (.inr 49)), (1, .inl y11)], [], h9, 0, 0) (Q_X8_readPhrase h) := by
      intro n14
      induction n14 using Nat.strongRecOn with
      | _ n14 ihn14 =>
      intro y11 ry11 c12 c13 c15
      refine to_iload_n (dat dk_X8_readPhrase 26 rfl) rfl (to_aload_n (dat dk_X8_readPhrase 27 rfl) rfl (to_getR 56 g_c9_63 (dat dk_X8_readPhrase 28 rfl) (I7.atS rfl) (I7.atE rfl) ?_))
      obtain ⟨x16, ex16⟩ : ∃ y : Int, h9.2.2 56 4 = y := ⟨_, rfl⟩
      have rx16 := I7.atR (a := 56) (j := 4) rfl
      rw [ex16] at rx16
      refine to_getIv (y := x16) ex16 g_c9_130 (dat dk_X8_readPhrase 29 rfl) (I7.atS rfl) ?_
      refine to_ile 86 (dat dk_X8_readPhrase 30 rfl) rfl ry11 (by omega) (fun c17 => ?_) (fun c17 => ?_)
      · skip
        refine to_aload_n (dat dk_X8_readPhrase 41 rfl) rfl (to_getR 56 g_c9_63 (dat dk_X8_readPhrase 42 rfl) (I7.atS rfl) (I7.atE rfl) (to_getIv (y := x16) ex16 g_c9_130 (dat dk_X8_readPhrase 43 rfl) (I7.atS rfl) (to_istore_n (L' := [(0, .inr (.inr 49)), (1, .inl y11), (2, .inl x16)]) (dat dk_X8_readPhrase 44 rfl) (by decide) rfl (to_iconst (dat dk_X8_readPhrase 45 rfl) (to_istore_n (L' := [(0, .inr (.inr 49)), (1, .inl y11), (2, .inl x16), (3, .inl 0)]) (dat dk_X8_readPhrase 46 rfl) (by decide) rfl ?_)))))
        have e23 : h9.2.2 49 12 = (0 : Int) := (by rw [wh9]; exact wr_eq)
        have lp96_n25 : ∀ (n25 : Nat) (y18 : Int) (y19 : Int) (h20 : Hp), (I32 y18) → (I32 y19) → (Inv h20) → (Fr [49, 53, 54] h h20) → (0 ≤ y19) → (y19 ≤ 1200) → (h20.2.2 49 12 = y19) → (1201 - y19 ≤ (n25 : Int)) → To l E_X8_readPhrase (96, [(0, .inr (.inr 49)), (1, .inl y11), (2, .inl y18), (3, .inl y19)], [], h20, 0, 0) (Q_X8_readPhrase h) := by
          intro n25
          induction n25 using Nat.strongRecOn with
          | _ n25 ihn25 =>
          intro y18 y19 h20 ry18 ry19 Ih20 fh20 c21 c22 c24 c26
          obtain ⟨x27, ex27⟩ : ∃ y : Int, h20.2.2 49 12 = y := ⟨_, rfl⟩
          have rx27 := Ih20.atR (a := 49) (j := 12) rfl
          rw [ex27] at rx27
          refine to_iload_n (dat dk_X8_readPhrase 47 rfl) rfl (to_aload_n (dat dk_X8_readPhrase 48 rfl) rfl (to_getR 53 g_c9_22 (dat dk_X8_readPhrase 49 rfl) (Ih20.atS rfl) (Ih20.atE rfl) (to_alen (dat dk_X8_readPhrase 50 rfl) (Ih20.atS rfl) (by decide) ?_)))
          refine to_ige 165 (dat dk_X8_readPhrase 51 rfl) rfl ry19 (by decide) (fun c28 => ?_) (fun c28 => ?_)
          · skip
            exact to_vret rfl (dat dk_X8_readPhrase 84 rfl) (rv_mk ⟨Ih20, fh20⟩)
          · skip
            refine to_iload_n (dat dk_X8_readPhrase 52 rfl) rfl (to_iload_n (dat dk_X8_readPhrase 53 rfl) rfl ?_)
            refine to_ige 165 (dat dk_X8_readPhrase 54 rfl) rfl ry18 ry11 (fun c29 => ?_) (fun c29 => ?_)
            · skip
              exact to_vret rfl (dat dk_X8_readPhrase 84 rfl) (rv_mk ⟨Ih20, fh20⟩)
            · skip
              refine to_aload_n (dat dk_X8_readPhrase 55 rfl) rfl (to_getR 6 g_c9_37 (dat dk_X8_readPhrase 56 rfl) (Ih20.atS rfl) (Ih20.atE rfl) (to_iload_n (dat dk_X8_readPhrase 57 rfl) rfl (to_iload_n (dat dk_X8_readPhrase 58 rfl) rfl (to_aload_n (dat dk_X8_readPhrase 59 rfl) rfl (to_getR 54 g_c9_33 (dat dk_X8_readPhrase 60 rfl) (Ih20.atS rfl) (Ih20.atE rfl) ?_)))))
              refine to_cI ca_c9_216 (dat dk_X8_readPhrase 61 rfl) (ct_X1_nextWord l h20 Ih20 6 rfl y18 ry18 y11 ry11 54 rfl) rfl ⟨_, _, rfl, (Ih20.atS rfl)⟩ rfl (fun x30 h31 rx30 p32 => ?_)
              obtain ⟨Ih31, fh31, p32_0, p32_1, p32_2⟩ := p32
              have f33 : Fr [49, 53, 54] h h31 := Fr.sub fh20 fh31 rfl
              obtain ⟨x34, ex34⟩ : ∃ y : Int, h31.2.2 54 1 = y := ⟨_, rfl⟩
              have rx34 := Ih31.atR (a := 54) (j := 1) rfl
              rw [ex34] at rx34
              refine to_istore_n (L' := [(0, .inr (.inr 49)), (1, .inl y11), (2, .inl x30), (3, .inl y19)]) (dat dk_X8_readPhrase 62 rfl) (by decide) rfl (to_aload_n (dat dk_X8_readPhrase 63 rfl) rfl (to_getR 53 g_c9_22 (dat dk_X8_readPhrase 64 rfl) (Ih31.atS rfl) (Ih31.atE rfl) (to_iload_n (dat dk_X8_readPhrase 65 rfl) rfl (to_aload_n (dat dk_X8_readPhrase 66 rfl) rfl (to_getR 8 g_c9_48 (dat dk_X8_readPhrase 67 rfl) (Ih31.atS rfl) (Ih31.atE rfl) (to_aload_n (dat dk_X8_readPhrase 68 rfl) rfl (to_getR 54 g_c9_33 (dat dk_X8_readPhrase 69 rfl) (Ih31.atS rfl) (Ih31.atE rfl) (to_iconst (dat dk_X8_readPhrase 70 rfl) (to_aload_n (dat dk_X8_readPhrase 71 rfl) rfl (to_getR 54 g_c9_33 (dat dk_X8_readPhrase 72 rfl) (Ih31.atS rfl) (Ih31.atE rfl) ?_))))))))))
              refine to_cI ca_c9_87 (dat dk_X8_readPhrase 73 rfl) (ct_X1_size l h31 Ih31 54 rfl) rfl ⟨_, _, rfl, (Ih31.atS rfl)⟩ rfl (fun x35 h36 rx35 p37 => ?_)
              obtain ⟨rfl, p37_0⟩ := p37
              refine to_cI ca_c9_136 (dat dk_X8_readPhrase 74 rfl) (ct_X0_find l h31 Ih31 8 60 rfl 54 rfl 0 (by decide) x35 rx35) rfl ⟨_, _, rfl, (Ih31.atS rfl)⟩ rfl (fun x38 h39 rx38 p40 => ?_)
              obtain ⟨rfl, p40_0⟩ := p40
              refine to_iastw (dat dk_X8_readPhrase 75 rfl) (Ih31.atS rfl) rfl (by decide) (by omega) ?_
              intro h43 wh43
              have I41 : Inv h43 := by rw [wh43]; exact Ih31.put (a := 53) (j := (Int.toNat y19)) (x := x38) (-2147483648) (2147483647) rfl rfl (show (-2147483648 : Int) ≤ x38 ∧ x38 ≤ 2147483647 by omega)
              have f42 : Fr [49, 53, 54] h h43 := by rw [wh43]; exact Fr.putF (a := 53) (j := (Int.toNat y19)) (x := x38) f33 rfl
              refine to_aload_n (dat dk_X8_readPhrase 76 rfl) rfl (to_dup (dat dk_X8_readPhrase 77 rfl) rfl (to_getIv (y := x27) (by rw [wh43]; exact (show h31.2.2 49 12 = x27 from ((Fr.get fh31 (by have := Ih20.1.1; omega) rfl).trans ex27))) g_c9_208 (dat dk_X8_readPhrase 78 rfl) (I41.atS rfl) (to_iconst (dat dk_X8_readPhrase 79 rfl) (to_iadd (dat dk_X8_readPhrase 80 rfl) (to_putIw p_c9_208 (dat dk_X8_readPhrase 81 rfl) (I41.atS rfl) ?_)))))
              intro h46 wh46
              have I44 : Inv h46 := by rw [wh46]; exact I41.put (a := 49) (j := 12) (x := (x27 + 1)) (0) (1200) rfl rfl (show (0 : Int) ≤ (x27 + 1) ∧ (x27 + 1) ≤ 1200 by omega)
              have f45 : Fr [49, 53, 54] h h46 := by rw [wh46]; exact Fr.putF (a := 49) (j := 12) (x := (x27 + 1)) f42 rfl
              refine to_iinc (L' := [(0, .inr (.inr 49)), (1, .inl y11), (2, .inl x30), (3, .inl (y19 + 1))]) (dat dk_X8_readPhrase 82 rfl) rfl (by decide) rfl (to_goto (dat dk_X8_readPhrase 83 rfl) rfl ?_)
              have e47 : h46.2.2 49 12 = (x27 + 1) := (by rw [wh46]; exact wr_eq)
              exact ihn25 (n25 - 1) (by omega) x30 (y19 + 1) h46 rx30 (by omega) I44 f45 (show 0 ≤ (y19 + 1) by omega) (show (y19 + 1) ≤ 1200 by omega) (show h46.2.2 49 12 = (y19 + 1) by omega) (show 1201 - (y19 + 1) ≤ ((n25 - 1 : Nat) : Int) by omega)
        exact lp96_n25 (1201 - (0 : Int)).toNat x16 0 h9 (by omega) (by decide) I7 f8 (show 0 ≤ (0 : Int) by omega) (show (0 : Int) ≤ 1200 by omega) (show h9.2.2 49 12 = (0 : Int) by omega) (by omega)
      · skip
        refine to_aload_n (dat dk_X8_readPhrase 31 rfl) rfl (to_getR 6 g_c9_37 (dat dk_X8_readPhrase 32 rfl) (I7.atS rfl) (I7.atE rfl) (to_iload_n (dat dk_X8_readPhrase 33 rfl) rfl (to_iconst (dat dk_X8_readPhrase 34 rfl) (to_isub (dat dk_X8_readPhrase 35 rfl) ?_))))
        obtain ⟨x48, ex48⟩ : ∃ y : Int, h9.2.2 6 1 = y := ⟨_, rfl⟩
        have rx48 := I7.atR (a := 6) (j := 1) rfl
        rw [ex48] at rx48
        refine to_cI ca_c9_202 (dat dk_X8_readPhrase 36 rfl) (ct_X1_byteAt l h9 I7 6 rfl (y11 - 1) (by omega)) rfl ⟨_, _, rfl, (I7.atS rfl)⟩ rfl (fun x49 h50 rx49 p51 => ?_)
        obtain ⟨rfl, p51_0⟩ := p51
        refine to_cI ca_c9_211 (dat dk_X8_readPhrase 37 rfl) (ct_X9_isOfWord l h9 I7 x49 rx49) rfl trivial rfl (fun x52 h53 rx52 p54 => ?_)
        obtain ⟨rfl, zx52⟩ := p54
        refine to_ifne 86 (dat dk_X8_readPhrase 38 rfl) rfl rx52 (fun c55 => ?_) (fun c55 => ?_)
        · skip
          refine to_aload_n (dat dk_X8_readPhrase 41 rfl) rfl (to_getR 56 g_c9_63 (dat dk_X8_readPhrase 42 rfl) (I7.atS rfl) (I7.atE rfl) (to_getIv (y := x16) ex16 g_c9_130 (dat dk_X8_readPhrase 43 rfl) (I7.atS rfl) (to_istore_n (L' := [(0, .inr (.inr 49)), (1, .inl y11), (2, .inl x16)]) (dat dk_X8_readPhrase 44 rfl) (by decide) rfl (to_iconst (dat dk_X8_readPhrase 45 rfl) (to_istore_n (L' := [(0, .inr (.inr 49)), (1, .inl y11), (2, .inl x16), (3, .inl 0)]) (dat dk_X8_readPhrase 46 rfl) (by decide) rfl ?_)))))
          have e61 : h9.2.2 49 12 = (0 : Int) := (by rw [wh9]; exact wr_eq)
          have lp96_n63 : ∀ (n63 : Nat) (y56 : Int) (y57 : Int) (h58 : Hp), (I32 y56) → (I32 y57) → (Inv h58) → (Fr [49, 53, 54] h h58) → (0 ≤ y57) → (y57 ≤ 1200) → (h58.2.2 49 12 = y57) → (1201 - y57 ≤ (n63 : Int)) → To l E_X8_readPhrase (96, [(0, .inr (.inr 49)), (1, .inl y11), (2, .inl y56), (3, .inl y57)], [], h58, 0, 0) (Q_X8_readPhrase h) := by
            intro n63
            induction n63 using Nat.strongRecOn with
            | _ n63 ihn63 =>
            intro y56 y57 h58 ry56 ry57 Ih58 fh58 c59 c60 c62 c64
            obtain ⟨x65, ex65⟩ : ∃ y : Int, h58.2.2 49 12 = y := ⟨_, rfl⟩
            have rx65 := Ih58.atR (a := 49) (j := 12) rfl
            rw [ex65] at rx65
            refine to_iload_n (dat dk_X8_readPhrase 47 rfl) rfl (to_aload_n (dat dk_X8_readPhrase 48 rfl) rfl (to_getR 53 g_c9_22 (dat dk_X8_readPhrase 49 rfl) (Ih58.atS rfl) (Ih58.atE rfl) (to_alen (dat dk_X8_readPhrase 50 rfl) (Ih58.atS rfl) (by decide) ?_)))
            refine to_ige 165 (dat dk_X8_readPhrase 51 rfl) rfl ry57 (by decide) (fun c66 => ?_) (fun c66 => ?_)
            · skip
              exact to_vret rfl (dat dk_X8_readPhrase 84 rfl) (rv_mk ⟨Ih58, fh58⟩)
            · skip
              refine to_iload_n (dat dk_X8_readPhrase 52 rfl) rfl (to_iload_n (dat dk_X8_readPhrase 53 rfl) rfl ?_)
              refine to_ige 165 (dat dk_X8_readPhrase 54 rfl) rfl ry56 ry11 (fun c67 => ?_) (fun c67 => ?_)
              · skip
                exact to_vret rfl (dat dk_X8_readPhrase 84 rfl) (rv_mk ⟨Ih58, fh58⟩)
              · skip
                refine to_aload_n (dat dk_X8_readPhrase 55 rfl) rfl (to_getR 6 g_c9_37 (dat dk_X8_readPhrase 56 rfl) (Ih58.atS rfl) (Ih58.atE rfl) (to_iload_n (dat dk_X8_readPhrase 57 rfl) rfl (to_iload_n (dat dk_X8_readPhrase 58 rfl) rfl (to_aload_n (dat dk_X8_readPhrase 59 rfl) rfl (to_getR 54 g_c9_33 (dat dk_X8_readPhrase 60 rfl) (Ih58.atS rfl) (Ih58.atE rfl) ?_)))))
                refine to_cI ca_c9_216 (dat dk_X8_readPhrase 61 rfl) (ct_X1_nextWord l h58 Ih58 6 rfl y56 ry56 y11 ry11 54 rfl) rfl ⟨_, _, rfl, (Ih58.atS rfl)⟩ rfl (fun x68 h69 rx68 p70 => ?_)
                obtain ⟨Ih69, fh69, p70_0, p70_1, p70_2⟩ := p70
                have f71 : Fr [49, 53, 54] h h69 := Fr.sub fh58 fh69 rfl
                obtain ⟨x72, ex72⟩ : ∃ y : Int, h69.2.2 54 1 = y := ⟨_, rfl⟩
                have rx72 := Ih69.atR (a := 54) (j := 1) rfl
                rw [ex72] at rx72
                refine to_istore_n (L' := [(0, .inr (.inr 49)), (1, .inl y11), (2, .inl x68), (3, .inl y57)]) (dat dk_X8_readPhrase 62 rfl) (by decide) rfl (to_aload_n (dat dk_X8_readPhrase 63 rfl) rfl (to_getR 53 g_c9_22 (dat dk_X8_readPhrase 64 rfl) (Ih69.atS rfl) (Ih69.atE rfl) (to_iload_n (dat dk_X8_readPhrase 65 rfl) rfl (to_aload_n (dat dk_X8_readPhrase 66 rfl) rfl (to_getR 8 g_c9_48 (dat dk_X8_readPhrase 67 rfl) (Ih69.atS rfl) (Ih69.atE rfl) (to_aload_n (dat dk_X8_readPhrase 68 rfl) rfl (to_getR 54 g_c9_33 (dat dk_X8_readPhrase 69 rfl) (Ih69.atS rfl) (Ih69.atE rfl) (to_iconst (dat dk_X8_readPhrase 70 rfl) (to_aload_n (dat dk_X8_readPhrase 71 rfl) rfl (to_getR 54 g_c9_33 (dat dk_X8_readPhrase 72 rfl) (Ih69.atS rfl) (Ih69.atE rfl) ?_))))))))))
                refine to_cI ca_c9_87 (dat dk_X8_readPhrase 73 rfl) (ct_X1_size l h69 Ih69 54 rfl) rfl ⟨_, _, rfl, (Ih69.atS rfl)⟩ rfl (fun x73 h74 rx73 p75 => ?_)
                obtain ⟨rfl, p75_0⟩ := p75
                refine to_cI ca_c9_136 (dat dk_X8_readPhrase 74 rfl) (ct_X0_find l h69 Ih69 8 60 rfl 54 rfl 0 (by decide) x73 rx73) rfl ⟨_, _, rfl, (Ih69.atS rfl)⟩ rfl (fun x76 h77 rx76 p78 => ?_)
                obtain ⟨rfl, p78_0⟩ := p78
                refine to_iastw (dat dk_X8_readPhrase 75 rfl) (Ih69.atS rfl) rfl (by decide) (by omega) ?_
                intro h81 wh81
                have I79 : Inv h81 := by rw [wh81]; exact Ih69.put (a := 53) (j := (Int.toNat y57)) (x := x76) (-2147483648) (2147483647) rfl rfl (show (-2147483648 : Int) ≤ x76 ∧ x76 ≤ 2147483647 by omega)
                have f80 : Fr [49, 53, 54] h h81 := by rw [wh81]; exact Fr.putF (a := 53) (j := (Int.toNat y57)) (x := x76) f71 rfl
                refine to_aload_n (dat dk_X8_readPhrase 76 rfl) rfl (to_dup (dat dk_X8_readPhrase 77 rfl) rfl (to_getIv (y := x65) (by rw [wh81]; exact (show h69.2.2 49 12 = x65 from ((Fr.get fh69 (by have := Ih58.1.1; omega) rfl).trans ex65))) g_c9_208 (dat dk_X8_readPhrase 78 rfl) (I79.atS rfl) (to_iconst (dat dk_X8_readPhrase 79 rfl) (to_iadd (dat dk_X8_readPhrase 80 rfl) (to_putIw p_c9_208 (dat dk_X8_readPhrase 81 rfl) (I79.atS rfl) ?_)))))
                intro h84 wh84
                have I82 : Inv h84 := by rw [wh84]; exact I79.put (a := 49) (j := 12) (x := (x65 + 1)) (0) (1200) rfl rfl (show (0 : Int) ≤ (x65 + 1) ∧ (x65 + 1) ≤ 1200 by omega)
                have f83 : Fr [49, 53, 54] h h84 := by rw [wh84]; exact Fr.putF (a := 49) (j := 12) (x := (x65 + 1)) f80 rfl
                refine to_iinc (L' := [(0, .inr (.inr 49)), (1, .inl y11), (2, .inl x68), (3, .inl (y57 + 1))]) (dat dk_X8_readPhrase 82 rfl) rfl (by decide) rfl (to_goto (dat dk_X8_readPhrase 83 rfl) rfl ?_)
                have e85 : h84.2.2 49 12 = (x65 + 1) := (by rw [wh84]; exact wr_eq)
                exact ihn63 (n63 - 1) (by omega) x68 (y57 + 1) h84 rx68 (by omega) I82 f83 (show 0 ≤ (y57 + 1) by omega) (show (y57 + 1) ≤ 1200 by omega) (show h84.2.2 49 12 = (y57 + 1) by omega) (show 1201 - (y57 + 1) ≤ ((n63 - 1 : Nat) : Int) by omega)
          exact lp96_n63 (1201 - (0 : Int)).toNat x16 0 h9 (by omega) (by decide) I7 f8 (show 0 ≤ (0 : Int) by omega) (show (0 : Int) ≤ 1200 by omega) (show h9.2.2 49 12 = (0 : Int) by omega) (by omega)
        · skip
          refine to_iinc (L' := [(0, .inr (.inr 49)), (1, .inl (y11 + (-1)))]) (dat dk_X8_readPhrase 39 rfl) rfl (by decide) rfl (to_goto (dat dk_X8_readPhrase 40 rfl) rfl ?_)
          exact ihn14 (n14 - 1) (by omega) (y11 + (-1)) (by omega) (show 0 ≤ (y11 + (-1)) by omega) (show (y11 + (-1)) ≤ 1201 by omega) (show (y11 + (-1)) ≤ ((n14 - 1 : Nat) : Int) by omega)
    exact lp53_n14 (x10).toNat x10 (by omega) (show 0 ≤ x10 by omega) (show x10 ≤ 1201 by omega) (by omega)
  refine to_aload_n (dat dk_X8_readPhrase 1 rfl) rfl (to_getR 56 g_c9_63 (dat dk_X8_readPhrase 2 rfl) (hI.atS rfl) (hI.atE rfl) ?_)
  obtain ⟨x86, ex86⟩ : ∃ y : Int, h.2.2 56 6 = y := ⟨_, rfl⟩
  have rx86 := hI.atR (a := 56) (j := 6) rfl
  rw [ex86] at rx86
  refine to_getIv (y := x86) ex86 g_c9_198 (dat dk_X8_readPhrase 3 rfl) (hI.atS rfl) ?_
  refine to_ifne 36 (dat dk_X8_readPhrase 4 rfl) rfl (by omega) (fun c87 => ?_) (fun c87 => ?_)
  · skip
    refine to_iconst (dat dk_X8_readPhrase 17 rfl) ?_
    exact jn37_n3 0 (by decide)
  · skip
    refine to_aload_n (dat dk_X8_readPhrase 5 rfl) rfl (to_getR 6 g_c9_37 (dat dk_X8_readPhrase 6 rfl) (hI.atS rfl) (hI.atE rfl) (to_aload_n (dat dk_X8_readPhrase 7 rfl) rfl (to_getR 56 g_c9_63 (dat dk_X8_readPhrase 8 rfl) (hI.atS rfl) (hI.atE rfl) ?_)))
    obtain ⟨x88, ex88⟩ : ∃ y : Int, h.2.2 56 5 = y := ⟨_, rfl⟩
    have rx88 := hI.atR (a := 56) (j := 5) rfl
    rw [ex88] at rx88
    refine to_getIv (y := x88) ex88 g_c9_133 (dat dk_X8_readPhrase 9 rfl) (hI.atS rfl) (to_iconst (dat dk_X8_readPhrase 10 rfl) ?_)
    refine to_isubA (dat dk_X8_readPhrase 11 rfl) (fun x89 rx89 => ?_)
    obtain ⟨x90, ex90⟩ : ∃ y : Int, h.2.2 6 1 = y := ⟨_, rfl⟩
    have rx90 := hI.atR (a := 6) (j := 1) rfl
    rw [ex90] at rx90
    refine to_cI ca_c9_202 (dat dk_X8_readPhrase 12 rfl) (ct_X1_byteAt l h hI 6 rfl x89 rx89) rfl ⟨_, _, rfl, (hI.atS rfl)⟩ rfl (fun x91 h92 rx91 p93 => ?_)
    obtain ⟨rfl, p93_0⟩ := p93
    refine to_bipush (dat dk_X8_readPhrase 13 rfl) (by decide) ?_
    refine to_ine 36 (dat dk_X8_readPhrase 14 rfl) rfl rx91 (by decide) (fun c94 => ?_) (fun c94 => ?_)
    · skip
      refine to_iconst (dat dk_X8_readPhrase 17 rfl) ?_
      exact jn37_n3 0 (by decide)
    · skip
      refine to_iconst (dat dk_X8_readPhrase 15 rfl) (to_goto (dat dk_X8_readPhrase 16 rfl) rfl ?_)
      exact jn37_n3 1 (by decide)
abbrev Q_X8_termSet (h : Hp) : Option V → Hp → Nat → Nat → Prop := RLo (fun x H => Inv H ∧ Fr [27, 28, 29, 30, 31, 49, 53, 54] h H)
set_option maxRecDepth 100000 in
theorem ct_X8_termSet (l : Launch) (h : Hp) (hI : Inv h)  : Ct l D_X8_termSet 5 120 [.inr (.inr 49)] h (Q_X8_termSet h) := by
  refine ct_of pn_X8_termSet (Nat.le_of_ble_eq_true rfl) ?_
  show To l E_X8_termSet (0, [(0, .inr (.inr 49))], [], h, 0, 0) _
  have jn137_n3 : ∀ (y1 : Int) (h2 : Hp), (I32 y1) → (Inv h2) → (Fr [27, 28, 29, 30, 31, 49, 53, 54] h h2) → To l E_X8_termSet (137, [(0, .inr (.inr 49)), (1, .inl y1)], [], h2, 0, 0) (Q_X8_termSet h) := by
    intro y1 h2 ry1 Ih2 fh2
    refine to_lconst (v := 0) (dat dk_X8_termSet 49 rfl) rfl (to_lstore_n (L' := [(2, .inr (.inl 0)), (0, .inr (.inr 49)), (1, .inl y1)]) (dat dk_X8_termSet 50 rfl) (by decide) rfl (to_iconst (dat dk_X8_termSet 51 rfl) (to_istore (L' := [(2, .inr (.inl 0)), (0, .inr (.inr 49)), (1, .inl y1), (4, .inl 0)]) (dat dk_X8_termSet 52 rfl) (by decide) rfl ?_)))
    have lp142_n7 : ∀ (n7 : Nat) (w4 : Int) (y5 : Int), (I32 y5) → (0 ≤ y5) → (61 - y5 ≤ (n7 : Int)) → To l E_X8_termSet (142, [(2, .inr (.inl w4)), (0, .inr (.inr 49)), (1, .inl y1), (4, .inl y5)], [], h2, 0, 0) (Q_X8_termSet h) := by
      intro n7
      induction n7 using Nat.strongRecOn with
      | _ n7 ihn7 =>
      intro w4 y5 ry5 c6 c8
      refine to_iload (dat dk_X8_termSet 53 rfl) rfl (to_aload_n (dat dk_X8_termSet 54 rfl) rfl (to_getR 26 g_c9_40 (dat dk_X8_termSet 55 rfl) (Ih2.atS rfl) (Ih2.atE rfl) ?_))
      obtain ⟨x9, ex9⟩ : ∃ y : Int, h2.2.2 26 2 = y := ⟨_, rfl⟩
      have rx9 := Ih2.atR (a := 26) (j := 2) rfl
      rw [ex9] at rx9
      refine to_cI ca_c9_67 (dat dk_X8_termSet 56 rfl) (ct_Jx4a65c_size_8abf5 l h2 Ih2 ) rfl ⟨_, _, rfl, (Ih2.atS rfl)⟩ rfl (fun x10 h11 rx10 p12 => ?_)
      obtain ⟨rfl, p12_0, p12_1⟩ := p12
      refine to_ige 189 (dat dk_X8_termSet 57 rfl) rfl ry5 rx10 (fun c13 => ?_) (fun c13 => ?_)
      · skip
        refine to_lload_n (dat dk_X8_termSet 76 rfl) rfl ?_
        exact to_lret rfl (dat dk_X8_termSet 77 rfl) (rl_mk ⟨Ih2, fh2⟩)
      · skip
        refine to_aload_n (dat dk_X8_termSet 58 rfl) rfl (to_aload_n (dat dk_X8_termSet 59 rfl) rfl (to_getR 26 g_c9_40 (dat dk_X8_termSet 60 rfl) (Ih2.atS rfl) (Ih2.atE rfl) (to_iload (dat dk_X8_termSet 61 rfl) rfl ?_)))
        refine to_cR ca_c9_154 (dat dk_X8_termSet 62 rfl) (ct_Jx4a65c_get_915e3 l h2 Ih2 y5 ry5 (show 0 ≤ y5 ∧ y5 < h2.2.2 26 2 by omega)) rfl ⟨_, _, rfl, (Ih2.atS rfl)⟩ rfl (fun x14 h15 p16 => ?_)
        obtain ⟨rfl, p16_0⟩ := p16
        refine to_castM (C := RX6) (T := TX6) (N := 8) (ci := 5) rfl (tin 6 96 (by decide +kernel) rfl) (dat dk_X8_termSet 63 rfl) p16_0.1 (to_iload (dat dk_X8_termSet 64 rfl) rfl (to_iload_n (dat dk_X8_termSet 65 rfl) rfl ?_))
        refine to_cI ca_c9_160 (dat dk_X8_termSet 66 rfl) (ct_X8_isMatch l h2 Ih2 x14 p16_0 y5 ry5 y1 ry1) rfl ⟨_, _, rfl, (Ih2.atS rfl)⟩ rfl (fun x17 h18 rx17 p19 => ?_)
        obtain ⟨rfl, zx17⟩ := p19
        refine to_ifeq 183 (dat dk_X8_termSet 67 rfl) rfl rx17 (fun c20 => ?_) (fun c20 => ?_)
        · skip
          refine to_iinc (L' := [(2, .inr (.inl w4)), (0, .inr (.inr 49)), (1, .inl y1), (4, .inl (y5 + 1))]) (dat dk_X8_termSet 74 rfl) rfl (by decide) rfl (to_goto (dat dk_X8_termSet 75 rfl) rfl ?_)
          exact ihn7 (n7 - 1) (by omega) w4 (y5 + 1) (by omega) (show 0 ≤ (y5 + 1) by omega) (show 61 - (y5 + 1) ≤ ((n7 - 1 : Nat) : Int) by omega)
        · skip
          refine to_lload_n (dat dk_X8_termSet 68 rfl) rfl (to_lconst (v := 1) (dat dk_X8_termSet 69 rfl) rfl (to_iload (dat dk_X8_termSet 70 rfl) rfl ?_))
          refine to_lshl (dat dk_X8_termSet 71 rfl) (fun w21 => ?_)
          refine to_lor (dat dk_X8_termSet 72 rfl) (fun w22 => ?_)
          refine to_lstore_n (L' := [(2, .inr (.inl w22)), (0, .inr (.inr 49)), (1, .inl y1), (4, .inl y5)]) (dat dk_X8_termSet 73 rfl) (by decide) rfl (to_iinc (L' := [(2, .inr (.inl w22)), (0, .inr (.inr 49)), (1, .inl y1), (4, .inl (y5 + 1))]) (dat dk_X8_termSet 74 rfl) rfl (by decide) rfl (to_goto (dat dk_X8_termSet 75 rfl) rfl ?_))
          exact ihn7 (n7 - 1) (by omega) w22 (y5 + 1) (by omega) (show 0 ≤ (y5 + 1) by omega) (show 61 - (y5 + 1) ≤ ((n7 - 1 : Nat) : Int) by omega)
    exact lp142_n7 (61 - (0 : Int)).toNat 0 0 (by decide) (show 0 ≤ (0 : Int) by omega) (by omega)
  refine to_iconst (dat dk_X8_termSet 0 rfl) (to_istore_n (L' := [(0, .inr (.inr 49)), (1, .inl (-1))]) (dat dk_X8_termSet 1 rfl) (by decide) rfl (to_aload_n (dat dk_X8_termSet 2 rfl) rfl (to_getR 56 g_c9_63 (dat dk_X8_termSet 3 rfl) (hI.atS rfl) (hI.atE rfl) ?_)))
  obtain ⟨x23, ex23⟩ : ∃ y : Int, h.2.2 56 3 = y := ⟨_, rfl⟩
  have rx23 := hI.atR (a := 56) (j := 3) rfl
  rw [ex23] at rx23
  refine to_getIv (y := x23) ex23 g_c9_127 (dat dk_X8_termSet 4 rfl) (hI.atS rfl) ?_
  refine to_table (d := 133) (ts := [40, 69, 98, 130]) (dat dk_X8_termSet 5 rfl) rfl rfl rfl (by omega) (fun c24 => ?_) ⟨fun c24 => ?_, fun c24 => ?_, fun c24 => ?_, fun c24 => ?_, trivial⟩
  · skip
    refine to_aload_n (dat dk_X8_termSet 47 rfl) rfl ?_
    refine to_cV ca_c9_151 (dat dk_X8_termSet 48 rfl) (ct_X8_readPhrase l h hI ) rfl ⟨_, _, rfl, (hI.atS rfl)⟩ rfl (fun h26 p27 => ?_)
    obtain ⟨Ih26, fh26⟩ := p27
    have f28 : Fr [27, 28, 29, 30, 31, 49, 53, 54] h h26 := Fr.sub (Fr.rf _ _) fh26 rfl
    exact jn137_n3 (-1) h26 (by decide) Ih26 f28
  · skip
    refine to_aload_n (dat dk_X8_termSet 6 rfl) rfl (to_getR 20 g_c9_55 (dat dk_X8_termSet 7 rfl) (hI.atS rfl) (hI.atE rfl) (to_aload_n (dat dk_X8_termSet 8 rfl) rfl (to_getR 6 g_c9_37 (dat dk_X8_termSet 9 rfl) (hI.atS rfl) (hI.atE rfl) (to_aload_n (dat dk_X8_termSet 10 rfl) rfl (to_getR 56 g_c9_63 (dat dk_X8_termSet 11 rfl) (hI.atS rfl) (hI.atE rfl) ?_)))))
    obtain ⟨x29, ex29⟩ : ∃ y : Int, h.2.2 56 4 = y := ⟨_, rfl⟩
    have rx29 := hI.atR (a := 56) (j := 4) rfl
    rw [ex29] at rx29
    refine to_getIv (y := x29) ex29 g_c9_130 (dat dk_X8_termSet 12 rfl) (hI.atS rfl) (to_aload_n (dat dk_X8_termSet 13 rfl) rfl (to_getR 56 g_c9_63 (dat dk_X8_termSet 14 rfl) (hI.atS rfl) (hI.atE rfl) ?_))
    obtain ⟨x30, ex30⟩ : ∃ y : Int, h.2.2 56 5 = y := ⟨_, rfl⟩
    have rx30 := hI.atR (a := 56) (j := 5) rfl
    rw [ex30] at rx30
    refine to_getIv (y := x30) ex30 g_c9_133 (dat dk_X8_termSet 15 rfl) (hI.atS rfl) ?_
    refine to_cI ca_c9_136 (dat dk_X8_termSet 16 rfl) (ct_X0_find l h hI 20 80 rfl 6 rfl x29 (by omega) x30 (by omega)) rfl ⟨_, _, rfl, (hI.atS rfl)⟩ rfl (fun x31 h32 rx31 p33 => ?_)
    obtain ⟨rfl, p33_0⟩ := p33
    refine to_istore_n (L' := [(0, .inr (.inr 49)), (1, .inl x31)]) (dat dk_X8_termSet 17 rfl) (by decide) rfl (to_goto (dat dk_X8_termSet 18 rfl) rfl ?_)
    exact jn137_n3 x31 h rx31 hI (Fr.rf _ _)
  · skip
    refine to_aload_n (dat dk_X8_termSet 19 rfl) rfl (to_getR 14 g_c9_52 (dat dk_X8_termSet 20 rfl) (hI.atS rfl) (hI.atE rfl) (to_aload_n (dat dk_X8_termSet 21 rfl) rfl (to_getR 6 g_c9_37 (dat dk_X8_termSet 22 rfl) (hI.atS rfl) (hI.atE rfl) (to_aload_n (dat dk_X8_termSet 23 rfl) rfl (to_getR 56 g_c9_63 (dat dk_X8_termSet 24 rfl) (hI.atS rfl) (hI.atE rfl) ?_)))))
    obtain ⟨x34, ex34⟩ : ∃ y : Int, h.2.2 56 4 = y := ⟨_, rfl⟩
    have rx34 := hI.atR (a := 56) (j := 4) rfl
    rw [ex34] at rx34
    refine to_getIv (y := x34) ex34 g_c9_130 (dat dk_X8_termSet 25 rfl) (hI.atS rfl) (to_aload_n (dat dk_X8_termSet 26 rfl) rfl (to_getR 56 g_c9_63 (dat dk_X8_termSet 27 rfl) (hI.atS rfl) (hI.atE rfl) ?_))
    obtain ⟨x35, ex35⟩ : ∃ y : Int, h.2.2 56 5 = y := ⟨_, rfl⟩
    have rx35 := hI.atR (a := 56) (j := 5) rfl
    rw [ex35] at rx35
    refine to_getIv (y := x35) ex35 g_c9_133 (dat dk_X8_termSet 28 rfl) (hI.atS rfl) ?_
    refine to_cI ca_c9_136 (dat dk_X8_termSet 29 rfl) (ct_X0_find l h hI 14 70 rfl 6 rfl x34 (by omega) x35 (by omega)) rfl ⟨_, _, rfl, (hI.atS rfl)⟩ rfl (fun x36 h37 rx36 p38 => ?_)
    obtain ⟨rfl, p38_0⟩ := p38
    refine to_istore_n (L' := [(0, .inr (.inr 49)), (1, .inl x36)]) (dat dk_X8_termSet 30 rfl) (by decide) rfl (to_goto (dat dk_X8_termSet 31 rfl) rfl ?_)
    exact jn137_n3 x36 h rx36 hI (Fr.rf _ _)
  · skip
    refine to_aload_n (dat dk_X8_termSet 32 rfl) rfl (to_getR 6 g_c9_37 (dat dk_X8_termSet 33 rfl) (hI.atS rfl) (hI.atE rfl) (to_aload_n (dat dk_X8_termSet 34 rfl) rfl (to_getR 56 g_c9_63 (dat dk_X8_termSet 35 rfl) (hI.atS rfl) (hI.atE rfl) ?_)))
    obtain ⟨x39, ex39⟩ : ∃ y : Int, h.2.2 56 4 = y := ⟨_, rfl⟩
    have rx39 := hI.atR (a := 56) (j := 4) rfl
    rw [ex39] at rx39
    refine to_getIv (y := x39) ex39 g_c9_130 (dat dk_X8_termSet 36 rfl) (hI.atS rfl) (to_aload_n (dat dk_X8_termSet 37 rfl) rfl (to_getR 56 g_c9_63 (dat dk_X8_termSet 38 rfl) (hI.atS rfl) (hI.atE rfl) ?_))
    obtain ⟨x40, ex40⟩ : ∃ y : Int, h.2.2 56 5 = y := ⟨_, rfl⟩
    have rx40 := hI.atR (a := 56) (j := 5) rfl
    rw [ex40] at rx40
    refine to_getIv (y := x40) ex40 g_c9_133 (dat dk_X8_termSet 39 rfl) (hI.atS rfl) ?_
    refine to_cI ca_c9_142 (dat dk_X8_termSet 40 rfl) (ct_X1_numberIn l h hI 6 rfl x39 (by omega) x40 (by omega)) rfl ⟨_, _, rfl, (hI.atS rfl)⟩ rfl (fun x41 h42 rx41 p43 => ?_)
    subst p43
    refine to_istore_n (L' := [(0, .inr (.inr 49)), (1, .inl x41)]) (dat dk_X8_termSet 41 rfl) (by decide) rfl (to_aload_n (dat dk_X8_termSet 42 rfl) rfl (to_getR 27 g_c9_44 (dat dk_X8_termSet 43 rfl) (hI.atS rfl) (hI.atE rfl) ?_))
    refine to_cV ca_c9_146 (dat dk_X8_termSet 44 rfl) (ct_X10_freshen l h hI ) rfl ⟨_, _, rfl, (hI.atS rfl)⟩ rfl (fun h45 p46 => ?_)
    obtain ⟨Ih45, fh45⟩ := p46
    have f47 : Fr [27, 28, 29, 30, 31, 49, 53, 54] h h45 := Fr.sub (Fr.rf _ _) fh45 rfl
    refine to_goto (dat dk_X8_termSet 45 rfl) rfl ?_
    exact jn137_n3 x41 h45 rx41 Ih45 f47
  · skip
    refine to_goto (dat dk_X8_termSet 46 rfl) rfl ?_
    exact jn137_n3 (-1) h (by decide) hI (Fr.rf _ _)
abbrev Q_X8_matches (h : Hp) : Option V → Hp → Nat → Nat → Prop := RLo (fun x H => Inv H ∧ Fr [27, 28, 29, 30, 31, 49, 50, 51, 52, 53, 54, 56] h H)
set_option maxRecDepth 100000 in
theorem ct_X8_matches (l : Launch) (h : Hp) (hI : Inv h)  : Ct l D_X8_matches 9 197 [.inr (.inr 49)] h (Q_X8_matches h) := by
  refine ct_of pn_X8_matches (Nat.le_of_ble_eq_true rfl) ?_
  show To l E_X8_matches (0, [(0, .inr (.inr 49))], [], h, 0, 0) _
  obtain ⟨x1, ex1⟩ : ∃ y : Int, h.2.2 56 2 = y := ⟨_, rfl⟩
  have rx1 := hI.atR (a := 56) (j := 2) rfl
  rw [ex1] at rx1
  obtain ⟨x2, ex2⟩ : ∃ y : Int, h.2.2 6 1 = y := ⟨_, rfl⟩
  have rx2 := hI.atR (a := 6) (j := 1) rfl
  rw [ex2] at rx2
  refine to_aload_n (dat dk_X8_matches 0 rfl) rfl (to_lconst (v := 1) (dat dk_X8_matches 1 rfl) rfl (to_aload_n (dat dk_X8_matches 2 rfl) rfl (to_getR 26 g_c9_40 (dat dk_X8_matches 3 rfl) (hI.atS rfl) (hI.atE rfl) ?_)))
  obtain ⟨x3, ex3⟩ : ∃ y : Int, h.2.2 26 2 = y := ⟨_, rfl⟩
  have rx3 := hI.atR (a := 26) (j := 2) rfl
  rw [ex3] at rx3
  refine to_cI ca_c9_67 (dat dk_X8_matches 4 rfl) (ct_Jx4a65c_size_8abf5 l h hI ) rfl ⟨_, _, rfl, (hI.atS rfl)⟩ rfl (fun x4 h5 rx4 p6 => ?_)
  obtain ⟨rfl, p6_0, p6_1⟩ := p6
  refine to_lshl (dat dk_X8_matches 5 rfl) (fun w7 => ?_)
  refine to_lconst (v := 1) (dat dk_X8_matches 6 rfl) rfl ?_
  refine to_lsub (dat dk_X8_matches 7 rfl) (fun w8 => ?_)
  refine to_putLw p_c9_73 (dat dk_X8_matches 8 rfl) (hI.atS rfl) ?_
  intro h11 wh11
  have I9 : Inv h11 := by rw [wh11]; exact hI.putL (x := w8) (a := 49) (j := 15) rfl
  have f10 : Fr [27, 28, 29, 30, 31, 49, 50, 51, 52, 53, 54, 56] h h11 := by rw [wh11]; exact Fr.putF (a := 49) (j := 15) (x := w8) (Fr.rf _ _) rfl
  refine to_aload_n (dat dk_X8_matches 9 rfl) rfl (to_iconst (dat dk_X8_matches 10 rfl) (to_putIw p_c9_77 (dat dk_X8_matches 11 rfl) (I9.atS rfl) ?_))
  intro h14 wh14
  have I12 : Inv h14 := by rw [wh14]; exact I9.put (a := 49) (j := 16) (x := (-1)) (-2147483648) (2147483647) rfl rfl (show (-2147483648 : Int) ≤ (-1) ∧ (-1) ≤ 2147483647 by decide)
  have f13 : Fr [27, 28, 29, 30, 31, 49, 50, 51, 52, 53, 54, 56] h h14 := by rw [wh14]; exact Fr.putF (a := 49) (j := 16) (x := (-1)) f10 rfl
  refine to_aload_n (dat dk_X8_matches 12 rfl) rfl (to_getR 56 g_c9_63 (dat dk_X8_matches 13 rfl) (I12.atS rfl) (I12.atE rfl) ?_)
  refine to_cV ca_c9_81 (dat dk_X8_matches 14 rfl) (ct_X5_restart l h14 I12 ) rfl ⟨_, _, rfl, (I12.atS rfl)⟩ rfl (fun h16 p17 => ?_)
  obtain ⟨Ih16, fh16, p17_0⟩ := p17
  have f18 : Fr [27, 28, 29, 30, 31, 49, 50, 51, 52, 53, 54, 56] h h16 := Fr.sub f13 fh16 rfl
  obtain ⟨x19, ex19⟩ : ∃ y : Int, h16.2.2 56 2 = y := ⟨_, rfl⟩
  have rx19 := Ih16.atR (a := 56) (j := 2) rfl
  rw [ex19] at rx19
  refine to_aload_n (dat dk_X8_matches 15 rfl) rfl (to_iconst (dat dk_X8_matches 16 rfl) ?_)
  refine to_cV ca_c9_84 (dat dk_X8_matches 17 rfl) (ct_X8_startLevel l h16 Ih16 0 (by decide)) rfl ⟨_, _, rfl, (Ih16.atS rfl)⟩ rfl (fun h21 p22 => ?_)
  obtain ⟨Ih21, fh21⟩ := p22
  have f23 : Fr [27, 28, 29, 30, 31, 49, 50, 51, 52, 53, 54, 56] h h21 := Fr.sub f18 fh21 rfl
  refine to_iconst (dat dk_X8_matches 18 rfl) (to_istore_n (L' := [(0, .inr (.inr 49)), (1, .inl 0)]) (dat dk_X8_matches 19 rfl) (by decide) rfl (to_iconst (dat dk_X8_matches 20 rfl) (to_istore_n (L' := [(0, .inr (.inr 49)), (1, .inl 0), (2, .inl 0)]) (dat dk_X8_matches 21 rfl) (by decide) rfl ?_)))
  have e28 : h21.2.2 56 2 = x19 := ((Fr.get fh21 (by have := Ih16.1.1; omega) rfl).trans ex19)
  have e29 : h21.2.2 6 1 = x2 := ((Fr.get fh21 (by have := Ih16.1.1; omega) rfl).trans ((Fr.get fh16 (by have := I12.1.1; omega) rfl).trans (by rw [wh14]; exact (show h11.2.2 6 1 = x2 from (by rw [wh11]; exact ex2)))))
  have lp36_n31 : ∀ (n31 : Nat) (y24 : Int) (y25 : Int) (h26 : Hp), (y24 = 0 ∨ y24 = 1) → (I32 y25) → (Inv h26) → (Fr [27, 28, 29, 30, 31, 49, 50, 51, 52, 53, 54, 56] h h26) → (0 ≤ y25) → (h26.2.2 56 2 ≤ h26.2.2 6 1) → (h26.2.2 6 1 - y25 + 1 ≤ (n31 : Int)) → To l E_X8_matches (36, [(0, .inr (.inr 49)), (1, .inl y24), (2, .inl y25)], [], h26, 0, 0) (Q_X8_matches h) := by
    intro n31
    induction n31 using Nat.strongRecOn with
    | _ n31 ihn31 =>
    intro y24 y25 h26 ry24 ry25 Ih26 fh26 c27 c30 c32
    obtain ⟨x33, ex33⟩ : ∃ y : Int, h26.2.2 56 2 = y := ⟨_, rfl⟩
    have rx33 := Ih26.atR (a := 56) (j := 2) rfl
    rw [ex33] at rx33
    have e34 : h26.2.2 6 1 = x2 := ((Fr.get fh26 (by have := hI.1.1; omega) rfl).trans ex2)
    refine to_iload_n (dat dk_X8_matches 22 rfl) rfl (to_aload_n (dat dk_X8_matches 23 rfl) rfl (to_getR 6 g_c9_37 (dat dk_X8_matches 24 rfl) (Ih26.atS rfl) (Ih26.atE rfl) ?_))
    refine to_cI ca_c9_87 (dat dk_X8_matches 25 rfl) (ct_X1_size l h26 Ih26 6 rfl) rfl ⟨_, _, rfl, (Ih26.atS rfl)⟩ rfl (fun x35 h36 rx35 p37 => ?_)
    obtain ⟨rfl, p37_0⟩ := p37
    refine to_igt 138 (dat dk_X8_matches 26 rfl) rfl ry25 rx35 (fun c38 => ?_) (fun c38 => ?_)
    · skip
      refine to_aload_n (dat dk_X8_matches 74 rfl) rfl (to_getR 50 g_c9_11 (dat dk_X8_matches 75 rfl) (Ih26.atS rfl) (Ih26.atE rfl) (to_iconst (dat dk_X8_matches 76 rfl) ?_))
      refine to_lald (dat dk_X8_matches 77 rfl) (Ih26.atS rfl) rfl (by decide) (by decide) ?_
      generalize h26.2.2 50 (Int.toNat 0) = w39
      refine to_aload_n (dat dk_X8_matches 78 rfl) rfl (to_getR 51 g_c9_15 (dat dk_X8_matches 79 rfl) (Ih26.atS rfl) (Ih26.atE rfl) (to_iconst (dat dk_X8_matches 80 rfl) ?_))
      refine to_lald (dat dk_X8_matches 81 rfl) (Ih26.atS rfl) rfl (by decide) (by decide) ?_
      generalize h26.2.2 51 (Int.toNat 0) = w40
      refine to_lor (dat dk_X8_matches 82 rfl) (fun w41 => ?_)
      exact to_lret rfl (dat dk_X8_matches 83 rfl) (rl_mk ⟨Ih26, fh26⟩)
    · skip
      refine to_aload_n (dat dk_X8_matches 27 rfl) rfl (to_getR 56 g_c9_63 (dat dk_X8_matches 28 rfl) (Ih26.atS rfl) (Ih26.atE rfl) ?_)
      refine to_cI ca_c9_88 (dat dk_X8_matches 29 rfl) (ct_X5_next l h26 Ih26 (show h26.2.2 56 2 ≤ h26.2.2 6 1 by omega)) rfl ⟨_, _, rfl, (Ih26.atS rfl)⟩ rfl (fun x42 h43 rx42 p44 => ?_)
      obtain ⟨Ih43, fh43, p44_0, p44_1⟩ := p44
      have f45 : Fr [27, 28, 29, 30, 31, 49, 50, 51, 52, 53, 54, 56] h h43 := Fr.sub fh26 fh43 rfl
      obtain ⟨x46, ex46⟩ : ∃ y : Int, h43.2.2 56 2 = y := ⟨_, rfl⟩
      have rx46 := Ih43.atR (a := 56) (j := 2) rfl
      rw [ex46] at rx46
      have e47 : h43.2.2 6 1 = x2 := ((Fr.get fh43 (by have := Ih26.1.1; omega) rfl).trans e34)
      refine to_istore_n (L' := [(0, .inr (.inr 49)), (1, .inl y24), (2, .inl y25), (3, .inl x42)]) (dat dk_X8_matches 30 rfl) (by decide) rfl (to_aload_n (dat dk_X8_matches 31 rfl) rfl (to_iload_n (dat dk_X8_matches 32 rfl) rfl (to_iload_n (dat dk_X8_matches 33 rfl) rfl ?_)))
      have jn67_n49 : ∀ (y48 : Int), (y48 = 0 ∨ y48 = 1) → To l E_X8_matches (67, [(0, .inr (.inr 49)), (1, .inl y24), (2, .inl y25), (3, .inl x42)], [.inl y48, .inl y24, .inl x42, .inr (.inr 49)], h43, 0, 0) (Q_X8_matches h) := by
        intro y48 ry48
        refine to_cI ca_c9_91 (dat dk_X8_matches 39 rfl) (ct_X8_canStand l h43 Ih43 x42 rx42 y24 (by omega) y48 (by omega)) rfl ⟨_, _, rfl, (Ih43.atS rfl)⟩ rfl (fun x50 h51 rx50 p52 => ?_)
        obtain ⟨rfl, zx50⟩ := p52
        refine to_ifne 86 (dat dk_X8_matches 40 rfl) rfl rx50 (fun c53 => ?_) (fun c53 => ?_)
        · skip
          refine to_iload_n (dat dk_X8_matches 48 rfl) rfl ?_
          refine to_ifne 93 (dat dk_X8_matches 49 rfl) rfl rx42 (fun c54 => ?_) (fun c54 => ?_)
          · skip
            have jn115_n57 : ∀ (h55 : Hp), (Inv h55) → (Fr [27, 28, 29, 30, 31, 49, 50, 51, 52, 53, 54, 56] h h55) → (h55.2.2 56 2 ≤ h55.2.2 6 1) → To l E_X8_matches (115, [(0, .inr (.inr 49)), (1, .inl y24), (2, .inl y25), (3, .inl x42)], [], h55, 0, 0) (Q_X8_matches h) := by
              intro h55 Ih55 fh55 c56
              obtain ⟨x58, ex58⟩ : ∃ y : Int, h55.2.2 56 2 = y := ⟨_, rfl⟩
              have rx58 := Ih55.atR (a := 56) (j := 2) rfl
              rw [ex58] at rx58
              have e59 : h55.2.2 6 1 = x2 := ((Fr.get fh55 (by have := hI.1.1; omega) rfl).trans ex2)
              have jn131_n61 : ∀ (y60 : Int), (y60 = 0 ∨ y60 = 1) → To l E_X8_matches (131, [(0, .inr (.inr 49)), (1, .inl y24), (2, .inl y25), (3, .inl x42)], [.inl y60], h55, 0, 0) (Q_X8_matches h) := by
                intro y60 ry60
                refine to_istore_n (L' := [(0, .inr (.inr 49)), (1, .inl y60), (2, .inl y25), (3, .inl x42)]) (dat dk_X8_matches 71 rfl) (by decide) rfl (to_iinc (L' := [(0, .inr (.inr 49)), (1, .inl y60), (2, .inl (y25 + 1)), (3, .inl x42)]) (dat dk_X8_matches 72 rfl) rfl (by decide) rfl (to_goto (dat dk_X8_matches 73 rfl) rfl ?_))
                refine to_pick [0, 1, 2] rfl ?_
                exact ihn31 (n31 - 1) (by omega) y60 (y25 + 1) h55 (by omega) (by omega) Ih55 fh55 (show 0 ≤ (y25 + 1) by omega) (show h55.2.2 56 2 ≤ h55.2.2 6 1 by omega) (show h55.2.2 6 1 - (y25 + 1) + 1 ≤ ((n31 - 1 : Nat) : Int) by omega)
              refine to_iload_n (dat dk_X8_matches 62 rfl) rfl (to_bipush (dat dk_X8_matches 63 rfl) (by decide) ?_)
              refine to_ieq 130 (dat dk_X8_matches 64 rfl) rfl rx42 (by decide) (fun c62 => ?_) (fun c62 => ?_)
              · skip
                refine to_iconst (dat dk_X8_matches 70 rfl) ?_
                exact jn131_n61 0 (by decide)
              · skip
                refine to_iload_n (dat dk_X8_matches 65 rfl) rfl (to_iconst (dat dk_X8_matches 66 rfl) ?_)
                refine to_ieq 130 (dat dk_X8_matches 67 rfl) rfl rx42 (by decide) (fun c63 => ?_) (fun c63 => ?_)
                · skip
                  refine to_iconst (dat dk_X8_matches 70 rfl) ?_
                  exact jn131_n61 0 (by decide)
                · skip
                  refine to_iconst (dat dk_X8_matches 68 rfl) (to_goto (dat dk_X8_matches 69 rfl) rfl ?_)
                  exact jn131_n61 1 (by decide)
            refine to_iload_n (dat dk_X8_matches 51 rfl) rfl (to_bipush (dat dk_X8_matches 52 rfl) (by decide) ?_)
            refine to_ine 110 (dat dk_X8_matches 53 rfl) rfl rx42 (by decide) (fun c64 => ?_) (fun c64 => ?_)
            · skip
              refine to_aload_n (dat dk_X8_matches 59 rfl) rfl (to_iload_n (dat dk_X8_matches 60 rfl) rfl ?_)
              refine to_cV ca_c9_106 (dat dk_X8_matches 61 rfl) (ct_X8_take l h43 Ih43 x42 rx42) rfl ⟨_, _, rfl, (Ih43.atS rfl)⟩ rfl (fun h66 p67 => ?_)
              obtain ⟨Ih66, fh66⟩ := p67
              have f68 : Fr [27, 28, 29, 30, 31, 49, 50, 51, 52, 53, 54, 56] h h66 := Fr.sub f45 fh66 rfl
              have e69 : h66.2.2 56 2 = x46 := ((Fr.get fh66 (by have := Ih43.1.1; omega) rfl).trans ex46)
              have e70 : h66.2.2 6 1 = x2 := ((Fr.get fh66 (by have := Ih43.1.1; omega) rfl).trans e47)
              exact jn115_n57 h66 Ih66 f68 (show h66.2.2 56 2 ≤ h66.2.2 6 1 by omega)
            · skip
              refine to_aload_n (dat dk_X8_matches 54 rfl) rfl (to_aload_n (dat dk_X8_matches 55 rfl) rfl ?_)
              refine to_cL ca_c9_98 (dat dk_X8_matches 56 rfl) (ct_X8_termSet l h43 Ih43 ) rfl ⟨_, _, rfl, (Ih43.atS rfl)⟩ rfl (fun x71 h72 p73 => ?_)
              obtain ⟨Ih72, fh72⟩ := p73
              have f74 : Fr [27, 28, 29, 30, 31, 49, 50, 51, 52, 53, 54, 56] h h72 := Fr.sub f45 fh72 rfl
              refine to_cV ca_c9_102 (dat dk_X8_matches 57 rfl) (ct_X8_join l h72 Ih72 x71) rfl ⟨_, _, rfl, (Ih72.atS rfl)⟩ rfl (fun h76 p77 => ?_)
              obtain ⟨Ih76, fh76⟩ := p77
              have f78 : Fr [27, 28, 29, 30, 31, 49, 50, 51, 52, 53, 54, 56] h h76 := Fr.sub f74 fh76 rfl
              refine to_goto (dat dk_X8_matches 58 rfl) rfl ?_
              have e79 : h76.2.2 56 2 = x46 := ((Fr.get fh76 (by have := Ih72.1.1; omega) rfl).trans ((Fr.get fh72 (by have := Ih43.1.1; omega) rfl).trans ex46))
              have e80 : h76.2.2 6 1 = x2 := ((Fr.get fh76 (by have := Ih72.1.1; omega) rfl).trans ((Fr.get fh72 (by have := Ih43.1.1; omega) rfl).trans e47))
              exact jn115_n57 h76 Ih76 f78 (show h76.2.2 56 2 ≤ h76.2.2 6 1 by omega)
          · skip
            refine to_goto (dat dk_X8_matches 50 rfl) rfl (to_aload_n (dat dk_X8_matches 74 rfl) rfl (to_getR 50 g_c9_11 (dat dk_X8_matches 75 rfl) (Ih43.atS rfl) (Ih43.atE rfl) (to_iconst (dat dk_X8_matches 76 rfl) ?_)))
            refine to_lald (dat dk_X8_matches 77 rfl) (Ih43.atS rfl) rfl (by decide) (by decide) ?_
            generalize h43.2.2 50 (Int.toNat 0) = w81
            refine to_aload_n (dat dk_X8_matches 78 rfl) rfl (to_getR 51 g_c9_15 (dat dk_X8_matches 79 rfl) (Ih43.atS rfl) (Ih43.atE rfl) (to_iconst (dat dk_X8_matches 80 rfl) ?_))
            refine to_lald (dat dk_X8_matches 81 rfl) (Ih43.atS rfl) rfl (by decide) (by decide) ?_
            generalize h43.2.2 51 (Int.toNat 0) = w82
            refine to_lor (dat dk_X8_matches 82 rfl) (fun w83 => ?_)
            exact to_lret rfl (dat dk_X8_matches 83 rfl) (rl_mk ⟨Ih43, f45⟩)
        · skip
          refine to_aload_n (dat dk_X8_matches 41 rfl) rfl (to_aload_n (dat dk_X8_matches 42 rfl) rfl (to_getR 56 g_c9_63 (dat dk_X8_matches 43 rfl) (Ih43.atS rfl) (Ih43.atE rfl) ?_))
          obtain ⟨x84, ex84⟩ : ∃ y : Int, h43.2.2 56 1 = y := ⟨_, rfl⟩
          have rx84 := Ih43.atR (a := 56) (j := 1) rfl
          rw [ex84] at rx84
          refine to_getIv (y := x84) ex84 g_c9_95 (dat dk_X8_matches 44 rfl) (Ih43.atS rfl) (to_putIw p_c9_77 (dat dk_X8_matches 45 rfl) (Ih43.atS rfl) ?_)
          intro h87 wh87
          have I85 : Inv h87 := by rw [wh87]; exact Ih43.put (a := 49) (j := 16) (x := x84) (-2147483648) (2147483647) rfl rfl (show (-2147483648 : Int) ≤ x84 ∧ x84 ≤ 2147483647 by omega)
          have f86 : Fr [27, 28, 29, 30, 31, 49, 50, 51, 52, 53, 54, 56] h h87 := by rw [wh87]; exact Fr.putF (a := 49) (j := 16) (x := x84) f45 rfl
          refine to_lconst (v := 0) (dat dk_X8_matches 46 rfl) rfl ?_
          exact to_lret rfl (dat dk_X8_matches 47 rfl) (rl_mk ⟨I85, f86⟩)
      refine to_iload_n (dat dk_X8_matches 34 rfl) rfl ?_
      refine to_ifne 66 (dat dk_X8_matches 35 rfl) rfl ry25 (fun c88 => ?_) (fun c88 => ?_)
      · skip
        refine to_iconst (dat dk_X8_matches 38 rfl) ?_
        exact jn67_n49 0 (by decide)
      · skip
        refine to_iconst (dat dk_X8_matches 36 rfl) (to_goto (dat dk_X8_matches 37 rfl) rfl ?_)
        exact jn67_n49 1 (by decide)
  exact lp36_n31 (h21.2.2 6 1 - (0 : Int) + 1).toNat 0 0 h21 (by decide) (by decide) Ih21 f23 (show 0 ≤ (0 : Int) by omega) (show h21.2.2 56 2 ≤ h21.2.2 6 1 by omega) (by omega)
