/-! Contracts, by program. -/
abbrev Q_X5_fieldText_vx (h : Hp) (f : Int) : Option V → Hp → Nat → Nat → Prop := RR (fun x H => h = H ∧ (∃ n : Nat, (x, n) ∈ strL ∧ n ≤ 9) ∧ (cod x = FN (Int.toNat f)))
set_option maxRecDepth 100000 in
theorem ct_X5_fieldText_vx (l : Launch) (h : Hp) (hI : Inv h) (f : Int) (hf : I32 f) (g0 : 0 ≤ f ∧ f ≤ 7) : Ct l D_X5_fieldText 0 0 [.inl f] h (Q_X5_fieldText_vx h f) := by
  refine ct_of pn_X5_fieldText (Nat.le_of_ble_eq_true rfl) ?_
  show To l E_X5_fieldText (0, [(0, .inl f)], [], h, 0, 0) _
  refine to_iload_n (dat dk_X5_fieldText 0 rfl) rfl ?_
  refine to_table (d := 65) (ts := [44, 47, 50, 53, 56, 59, 62]) (dat dk_X5_fieldText 1 rfl) rfl rfl rfl hf (fun c1 => ?_) ⟨fun c1 => ?_, fun c1 => ?_, fun c1 => ?_, fun c1 => ?_, fun c1 => ?_, fun c1 => ?_, fun c1 => ?_, trivial⟩
  · skip
    refine to_ldcS (q := 159) (tx := "date:") (List.mem_of_getElem? (i := 29) rfl) (dat dk_X5_fieldText 16 rfl) ?_
    exact to_aret rfl (Or.inl ⟨_, rfl⟩) (dat dk_X5_fieldText 17 rfl) (rr_mk ⟨rfl, ⟨5, (List.mem_of_getElem? (i := 29) rfl), by decide⟩, (by rw [show Int.toNat f = 7 by omega, cod_eq]; decide +kernel)⟩)
  · skip
    refine to_ldcS (q := 145) (tx := "from:") (List.mem_of_getElem? (i := 22) rfl) (dat dk_X5_fieldText 2 rfl) ?_
    exact to_aret rfl (Or.inl ⟨_, rfl⟩) (dat dk_X5_fieldText 3 rfl) (rr_mk ⟨rfl, ⟨5, (List.mem_of_getElem? (i := 22) rfl), by decide⟩, (by rw [show Int.toNat f = 0 by omega, cod_eq]; decide +kernel)⟩)
  · skip
    refine to_ldcS (q := 147) (tx := "to:") (List.mem_of_getElem? (i := 23) rfl) (dat dk_X5_fieldText 4 rfl) ?_
    exact to_aret rfl (Or.inl ⟨_, rfl⟩) (dat dk_X5_fieldText 5 rfl) (rr_mk ⟨rfl, ⟨3, (List.mem_of_getElem? (i := 23) rfl), by decide⟩, (by rw [show Int.toNat f = 1 by omega, cod_eq]; decide +kernel)⟩)
  · skip
    refine to_ldcS (q := 149) (tx := "subject:") (List.mem_of_getElem? (i := 24) rfl) (dat dk_X5_fieldText 6 rfl) ?_
    exact to_aret rfl (Or.inl ⟨_, rfl⟩) (dat dk_X5_fieldText 7 rfl) (rr_mk ⟨rfl, ⟨8, (List.mem_of_getElem? (i := 24) rfl), by decide⟩, (by rw [show Int.toNat f = 2 by omega, cod_eq]; decide +kernel)⟩)
  · skip
    refine to_ldcS (q := 151) (tx := "body:") (List.mem_of_getElem? (i := 25) rfl) (dat dk_X5_fieldText 8 rfl) ?_
    exact to_aret rfl (Or.inl ⟨_, rfl⟩) (dat dk_X5_fieldText 9 rfl) (rr_mk ⟨rfl, ⟨5, (List.mem_of_getElem? (i := 25) rfl), by decide⟩, (by rw [show Int.toNat f = 3 by omega, cod_eq]; decide +kernel)⟩)
  · skip
    refine to_ldcS (q := 153) (tx := "tag:") (List.mem_of_getElem? (i := 26) rfl) (dat dk_X5_fieldText 10 rfl) ?_
    exact to_aret rfl (Or.inl ⟨_, rfl⟩) (dat dk_X5_fieldText 11 rfl) (rr_mk ⟨rfl, ⟨4, (List.mem_of_getElem? (i := 26) rfl), by decide⟩, (by rw [show Int.toNat f = 4 by omega, cod_eq]; decide +kernel)⟩)
  · skip
    refine to_ldcS (q := 155) (tx := "id:") (List.mem_of_getElem? (i := 27) rfl) (dat dk_X5_fieldText 12 rfl) ?_
    exact to_aret rfl (Or.inl ⟨_, rfl⟩) (dat dk_X5_fieldText 13 rfl) (rr_mk ⟨rfl, ⟨3, (List.mem_of_getElem? (i := 27) rfl), by decide⟩, (by rw [show Int.toNat f = 5 by omega, cod_eq]; decide +kernel)⟩)
  · skip
    refine to_ldcS (q := 157) (tx := "thread:") (List.mem_of_getElem? (i := 28) rfl) (dat dk_X5_fieldText 14 rfl) ?_
    exact to_aret rfl (Or.inl ⟨_, rfl⟩) (dat dk_X5_fieldText 15 rfl) (rr_mk ⟨rfl, ⟨7, (List.mem_of_getElem? (i := 28) rfl), by decide⟩, (by rw [show Int.toNat f = 6 by omega, cod_eq]; decide +kernel)⟩)
abbrev Q_X5_wordStop_vx (h : Hp) : Option V → Hp → Nat → Nat → Prop := RI (fun x H => h = H ∧ (x = (skp noSg (qr H) (qn H) (Int.toNat (H.2.2 56 1)) : Nat)))
set_option maxRecDepth 100000 in
theorem ct_X5_wordStop_vx (l : Launch) (h : Hp) (hI : Inv h) (g0 : h.2.2 56 1 ≤ h.2.2 6 1) : Ct l D_X5_wordStop 2 40 [.inr (.inr 56)] h (Q_X5_wordStop_vx h) := by
  refine ct_of pn_X5_wordStop (Nat.le_of_ble_eq_true rfl) ?_
  show To l E_X5_wordStop (0, [(0, .inr (.inr 56))], [], h, 0, 0) _
  have zq := qn_is hI
  refine to_aload_n (dat dk_X5_wordStop 0 rfl) rfl ?_
  obtain ⟨x1, ex1⟩ : ∃ y : Int, h.2.2 56 1 = y := ⟨_, rfl⟩
  have rx1 := hI.atR (a := 56) (j := 1) rfl
  rw [ex1] at rx1
  refine to_getIv (y := x1) ex1 g_c6_29 (dat dk_X5_wordStop 1 rfl) (hI.atS rfl) (to_istore_n (L' := [(0, .inr (.inr 56)), (1, .inl x1)]) (dat dk_X5_wordStop 2 rfl) (by decide) rfl ?_)
  have lp5_n5 : ∀ (n5 : Nat) (y2 : Int), (I32 y2) → (h.2.2 56 1 ≤ y2 ∧ y2 ≤ h.2.2 6 1) → (skp noSg (qr h) (qn h) (Int.toNat (h.2.2 56 1)) = skp noSg (qr h) (qn h) (Int.toNat y2)) → (h.2.2 6 1 - y2 ≤ (n5 : Int)) → To l E_X5_wordStop (5, [(0, .inr (.inr 56)), (1, .inl y2)], [], h, 0, 0) (Q_X5_wordStop_vx h) := by
    intro n5
    induction n5 using Nat.strongRecOn with
    | _ n5 ihn5 =>
    intro y2 ry2 c3 c4 c6
    refine to_iload_n (dat dk_X5_wordStop 3 rfl) rfl (to_aload_n (dat dk_X5_wordStop 4 rfl) rfl (to_getR 6 g_c6_9 (dat dk_X5_wordStop 5 rfl) (hI.atS rfl) (hI.atE rfl) ?_))
    obtain ⟨x7, ex7⟩ : ∃ y : Int, h.2.2 6 1 = y := ⟨_, rfl⟩
    have rx7 := hI.atR (a := 6) (j := 1) rfl
    rw [ex7] at rx7
    refine to_cI ca_c6_19 (dat dk_X5_wordStop 6 rfl) (ct_X1_size l h hI 6 rfl) rfl ⟨_, _, rfl, (hI.atS rfl)⟩ rfl (fun x8 h9 rx8 p10 => ?_)
    obtain ⟨rfl, p10_0⟩ := p10
    refine to_ige 36 (dat dk_X5_wordStop 7 rfl) rfl ry2 rx8 (fun c11 => ?_) (fun c11 => ?_)
    · skip
      refine to_iload_n (dat dk_X5_wordStop 16 rfl) rfl ?_
      exact to_iret rfl (dat dk_X5_wordStop 17 rfl) (ri_mk ry2 ⟨rfl, (by rw [c4, skp_end (P := noSg) (r := qr h) (n := qn h) (p := Int.toNat y2) (Or.inl (by omega))]; omega)⟩)
    · skip
      refine to_aload_n (dat dk_X5_wordStop 8 rfl) rfl (to_getR 6 g_c6_9 (dat dk_X5_wordStop 9 rfl) (hI.atS rfl) (hI.atE rfl) (to_iload_n (dat dk_X5_wordStop 10 rfl) rfl ?_))
      refine to_cI ca_c6_32 (dat dk_X5_wordStop 11 rfl) (ct_X1_byteAt_v6x l h hI y2 ry2) rfl ⟨_, _, rfl, (hI.atS rfl)⟩ rfl (fun x12 h13 rx12 p14 => ?_)
      obtain ⟨rfl, p14_0⟩ := p14
      refine to_cI ca_c6_82 (dat dk_X5_wordStop 12 rfl) (ct_X5_isSign_vx l h hI x12 rx12) rfl trivial rfl (fun x15 h16 rx15 p17 => ?_)
      obtain ⟨rfl, zx15, p17_0⟩ := p17
      refine to_ifne 36 (dat dk_X5_wordStop 13 rfl) rfl rx15 (fun c18 => ?_) (fun c18 => ?_)
      · skip
        refine to_iload_n (dat dk_X5_wordStop 16 rfl) rfl ?_
        exact to_iret rfl (dat dk_X5_wordStop 17 rfl) (ri_mk ry2 ⟨rfl, (by rw [c4, skp_end (P := noSg) (r := qr h) (n := qn h) (p := Int.toNat y2) (Or.inr (noSg_no (b := x12) (qr_in hI (Int.toNat y2)) (by omega) (by omega)))]; omega)⟩)
      · skip
        refine to_iinc (L' := [(0, .inr (.inr 56)), (1, .inl (y2 + 1))]) (dat dk_X5_wordStop 14 rfl) rfl (by decide) rfl (to_goto (dat dk_X5_wordStop 15 rfl) rfl ?_)
        exact ihn5 (n5 - 1) (by omega) (y2 + 1) (by omega) (show h.2.2 56 1 ≤ (y2 + 1) ∧ (y2 + 1) ≤ h.2.2 6 1 by omega) (by rw [c4, skp_more (P := noSg) (r := qr h) (n := qn h) (p := Int.toNat y2) (by omega) (noSg_is (b := x12) (qr_in hI (Int.toNat y2)) (by omega) (by omega))]; exact congrArg (skp noSg (qr h) (qn h)) (by omega)) (show h.2.2 6 1 - (y2 + 1) ≤ ((n5 - 1 : Nat) : Int) by omega)
  exact lp5_n5 (h.2.2 6 1 - x1).toNat x1 (by omega) (show h.2.2 56 1 ≤ x1 ∧ x1 ≤ h.2.2 6 1 by omega) (by rw [ex1]) (by omega)
abbrev Q_X5_readPhrase_vx (h : Hp) (p : Int) : Option V → Hp → Nat → Nat → Prop := RI (fun x H => Inv H ∧ Fr [56] h H ∧ ((x = 7 ∧ phE (qr h) (qn h) (Int.toNat (p + 1)) = -1) ∨ (x = 6 ∧ phE (qr h) (qn h) (Int.toNat (p + 1)) ≠ -1 ∧ H.2.2 56 2 = phE (qr h) (qn h) (Int.toNat (p + 1)) + 1)) ∧ (H.2.2 56 1 = h.2.2 56 1) ∧ (x = 7 ∨ (p + 1 < H.2.2 56 2 ∧ H.2.2 56 2 ≤ H.2.2 6 1)))
set_option maxRecDepth 100000 in
theorem ct_X5_readPhrase_vx (l : Launch) (h : Hp) (hI : Inv h) (p : Int) (hp : I32 p) (g0 : 0 ≤ p ∧ p < h.2.2 6 1) : Ct l D_X5_readPhrase 2 45 [.inr (.inr 56), .inl p] h (Q_X5_readPhrase_vx h p) := by
  refine ct_of pn_X5_readPhrase (Nat.le_of_ble_eq_true rfl) ?_
  show To l E_X5_readPhrase (0, [(0, .inr (.inr 56)), (1, .inl p)], [], h, 0, 0) _
  have zq := qn_is hI
  obtain ⟨x1, ex1⟩ : ∃ y : Int, h.2.2 56 2 = y := ⟨_, rfl⟩
  have rx1 := hI.atR (a := 56) (j := 2) rfl
  rw [ex1] at rx1
  obtain ⟨x2, ex2⟩ : ∃ y : Int, h.2.2 56 1 = y := ⟨_, rfl⟩
  have rx2 := hI.atR (a := 56) (j := 1) rfl
  rw [ex2] at rx2
  obtain ⟨x3, ex3⟩ : ∃ y : Int, h.2.2 6 1 = y := ⟨_, rfl⟩
  have rx3 := hI.atR (a := 6) (j := 1) rfl
  rw [ex3] at rx3
  refine to_aload_n (dat dk_X5_readPhrase 0 rfl) rfl (to_getR 6 g_c6_9 (dat dk_X5_readPhrase 1 rfl) (hI.atS rfl) (hI.atE rfl) (to_bipush (dat dk_X5_readPhrase 2 rfl) (by decide) (to_iload_n (dat dk_X5_readPhrase 3 rfl) rfl (to_iconst (dat dk_X5_readPhrase 4 rfl) (to_iadd (dat dk_X5_readPhrase 5 rfl) (to_aload_n (dat dk_X5_readPhrase 6 rfl) rfl (to_getR 6 g_c6_9 (dat dk_X5_readPhrase 7 rfl) (hI.atS rfl) (hI.atE rfl) ?_)))))))
  refine to_cI ca_c6_19 (dat dk_X5_readPhrase 8 rfl) (ct_X1_size l h hI 6 rfl) rfl ⟨_, _, rfl, (hI.atS rfl)⟩ rfl (fun x4 h5 rx4 p6 => ?_)
  obtain ⟨rfl, p6_0⟩ := p6
  refine to_cI ca_c6_49 (dat dk_X5_readPhrase 9 rfl) (ct_X1_seek_vx l h hI 34 (by decide) (p + 1) (by omega) x4 rx4 (show (34 : Int) = 34 by omega) (show 0 ≤ (p + 1) ∧ (p + 1) ≤ x4 by omega) (show x4 = h.2.2 6 1 by omega)) rfl ⟨_, _, rfl, (hI.atS rfl)⟩ rfl (fun x7 h8 rx7 p9 => ?_)
  obtain ⟨rfl, p9_0⟩ := p9
  have zp := phE_in (qr h) (qn h) (Int.toNat (p + 1))
  refine to_istore_n (L' := [(0, .inr (.inr 56)), (1, .inl p), (2, .inl x7)]) (dat dk_X5_readPhrase 10 rfl) (by decide) rfl (to_iload_n (dat dk_X5_readPhrase 11 rfl) rfl (to_iconst (dat dk_X5_readPhrase 12 rfl) ?_))
  refine to_ine 28 (dat dk_X5_readPhrase 13 rfl) rfl rx7 (by decide) (fun c10 => ?_) (fun c10 => ?_)
  · skip
    refine to_aload_n (dat dk_X5_readPhrase 16 rfl) rfl (to_iconst (dat dk_X5_readPhrase 17 rfl) (to_putZw p_c6_39 (dat dk_X5_readPhrase 18 rfl) (hI.atS rfl) (by decide) ?_))
    intro h13 wh13
    have I11 : Inv h13 := by rw [wh13]; exact hI.put (a := 56) (j := 6) (x := 1) (0) (1) rfl rfl (show (0 : Int) ≤ 1 ∧ 1 ≤ 1 by decide)
    have f12 : Fr [56] h h13 := by rw [wh13]; exact Fr.putF (a := 56) (j := 6) (x := 1) (Fr.rf _ _) rfl
    refine to_aload_n (dat dk_X5_readPhrase 19 rfl) rfl (to_iload_n (dat dk_X5_readPhrase 20 rfl) rfl (to_iconst (dat dk_X5_readPhrase 21 rfl) (to_iadd (dat dk_X5_readPhrase 22 rfl) (to_putIw p_c6_53 (dat dk_X5_readPhrase 23 rfl) (I11.atS rfl) ?_))))
    intro h16 wh16
    have I14 : Inv h16 := by rw [wh16]; exact I11.put (a := 56) (j := 4) (x := (p + 1)) (0) (1210) rfl rfl (show (0 : Int) ≤ (p + 1) ∧ (p + 1) ≤ 1210 by omega)
    have f15 : Fr [56] h h16 := by rw [wh16]; exact Fr.putF (a := 56) (j := 4) (x := (p + 1)) f12 rfl
    refine to_aload_n (dat dk_X5_readPhrase 24 rfl) rfl (to_iload_n (dat dk_X5_readPhrase 25 rfl) rfl (to_putIw p_c6_56 (dat dk_X5_readPhrase 26 rfl) (I14.atS rfl) ?_))
    intro h19 wh19
    have I17 : Inv h19 := by rw [wh19]; exact I14.put (a := 56) (j := 5) (x := x7) (0) (1201) rfl rfl (show (0 : Int) ≤ x7 ∧ x7 ≤ 1201 by omega)
    have f18 : Fr [56] h h19 := by rw [wh19]; exact Fr.putF (a := 56) (j := 5) (x := x7) f15 rfl
    refine to_aload_n (dat dk_X5_readPhrase 27 rfl) rfl (to_iload_n (dat dk_X5_readPhrase 28 rfl) rfl (to_iconst (dat dk_X5_readPhrase 29 rfl) (to_iadd (dat dk_X5_readPhrase 30 rfl) (to_putIw p_c6_15 (dat dk_X5_readPhrase 31 rfl) (I17.atS rfl) ?_))))
    intro h22 wh22
    have I20 : Inv h22 := by rw [wh22]; exact I17.put (a := 56) (j := 2) (x := (x7 + 1)) (0) (1202) rfl rfl (show (0 : Int) ≤ (x7 + 1) ∧ (x7 + 1) ≤ 1202 by omega)
    have f21 : Fr [56] h h22 := by rw [wh22]; exact Fr.putF (a := 56) (j := 2) (x := (x7 + 1)) f18 rfl
    refine to_bipush (dat dk_X5_readPhrase 32 rfl) (by decide) ?_
    have e23 : h22.2.2 56 2 = (x7 + 1) := (by rw [wh22]; exact wr_eq)
    have e24 : h22.2.2 56 1 = x2 := (by rw [wh22]; exact (show h19.2.2 56 1 = x2 from (by rw [wh19]; exact (show h16.2.2 56 1 = x2 from (by rw [wh16]; exact (show h13.2.2 56 1 = x2 from (by rw [wh13]; exact ex2)))))))
    have e25 : h22.2.2 6 1 = x3 := (by rw [wh22]; exact (show h19.2.2 6 1 = x3 from (by rw [wh19]; exact (show h16.2.2 6 1 = x3 from (by rw [wh16]; exact (show h13.2.2 6 1 = x3 from (by rw [wh13]; exact ex3)))))))
    exact to_iret rfl (dat dk_X5_readPhrase 33 rfl) (ri_mk (by decide) ⟨I20, f21, (show ((6 : Int) = 7 ∧ phE (qr h) (qn h) (Int.toNat (p + 1)) = -1) ∨ ((6 : Int) = 6 ∧ phE (qr h) (qn h) (Int.toNat (p + 1)) ≠ -1 ∧ h22.2.2 56 2 = phE (qr h) (qn h) (Int.toNat (p + 1)) + 1) by omega), (show h22.2.2 56 1 = h.2.2 56 1 by omega), (show (6 : Int) = 7 ∨ (p + 1 < h22.2.2 56 2 ∧ h22.2.2 56 2 ≤ h22.2.2 6 1) by omega)⟩)
  · skip
    refine to_bipush (dat dk_X5_readPhrase 14 rfl) (by decide) ?_
    exact to_iret rfl (dat dk_X5_readPhrase 15 rfl) (ri_mk (by decide) ⟨hI, (Fr.rf _ _), (show ((7 : Int) = 7 ∧ phE (qr h) (qn h) (Int.toNat (p + 1)) = -1) ∨ ((7 : Int) = 6 ∧ phE (qr h) (qn h) (Int.toNat (p + 1)) ≠ -1 ∧ h.2.2 56 2 = phE (qr h) (qn h) (Int.toNat (p + 1)) + 1) by omega), (show h.2.2 56 1 = h.2.2 56 1 by omega), (show (7 : Int) = 7 ∨ (p + 1 < h.2.2 56 2 ∧ h.2.2 56 2 ≤ h.2.2 6 1) by omega)⟩)
abbrev Q_X5_readField_vx (h : Hp) : Option V → Hp → Nat → Nat → Prop := RV (fun H => Inv H ∧ Fr [56] h H ∧ (H.2.2 56 3 = (fld (qr h) (Int.toNat (h.2.2 56 1)) (skp noSg (qr h) (qn h) (Int.toNat (h.2.2 56 1))) : Nat)) ∧ (H.2.2 56 4 = h.2.2 56 1 + ((FN (fld (qr h) (Int.toNat (h.2.2 56 1)) (skp noSg (qr h) (qn h) (Int.toNat (h.2.2 56 1))))).length : Nat)) ∧ (H.2.2 56 1 = h.2.2 56 1) ∧ (H.2.2 56 2 = h.2.2 56 2) ∧ (H.2.2 56 5 = h.2.2 56 5))
set_option maxRecDepth 100000 in
theorem ct_X5_readField_vx (l : Launch) (h : Hp) (hI : Inv h) (g0 : 0 ≤ h.2.2 56 1 ∧ h.2.2 56 1 < h.2.2 6 1) (g1 : h.2.2 56 3 = 8) : Ct l D_X5_readField 6 131 [.inr (.inr 56)] h (Q_X5_readField_vx h) := by
  refine ct_of pn_X5_readField (Nat.le_of_ble_eq_true rfl) ?_
  show To l E_X5_readField (0, [(0, .inr (.inr 56))], [], h, 0, 0) _
  have zq := qn_is hI
  obtain ⟨x1, ex1⟩ : ∃ y : Int, h.2.2 56 3 = y := ⟨_, rfl⟩
  have rx1 := hI.atR (a := 56) (j := 3) rfl
  rw [ex1] at rx1
  obtain ⟨x2, ex2⟩ : ∃ y : Int, h.2.2 56 4 = y := ⟨_, rfl⟩
  have rx2 := hI.atR (a := 56) (j := 4) rfl
  rw [ex2] at rx2
  obtain ⟨x3, ex3⟩ : ∃ y : Int, h.2.2 56 1 = y := ⟨_, rfl⟩
  have rx3 := hI.atR (a := 56) (j := 1) rfl
  rw [ex3] at rx3
  obtain ⟨x4, ex4⟩ : ∃ y : Int, h.2.2 56 2 = y := ⟨_, rfl⟩
  have rx4 := hI.atR (a := 56) (j := 2) rfl
  rw [ex4] at rx4
  obtain ⟨x5, ex5⟩ : ∃ y : Int, h.2.2 56 5 = y := ⟨_, rfl⟩
  have rx5 := hI.atR (a := 56) (j := 5) rfl
  rw [ex5] at rx5
  obtain ⟨x6, ex6⟩ : ∃ y : Int, h.2.2 6 1 = y := ⟨_, rfl⟩
  have rx6 := hI.atR (a := 6) (j := 1) rfl
  rw [ex6] at rx6
  refine to_aload_n (dat dk_X5_readField 0 rfl) rfl (to_aload_n (dat dk_X5_readField 1 rfl) rfl (to_getIv (y := x3) ex3 g_c6_29 (dat dk_X5_readField 2 rfl) (hI.atS rfl) (to_putIw p_c6_53 (dat dk_X5_readField 3 rfl) (hI.atS rfl) ?_)))
  intro h9 wh9
  have I7 : Inv h9 := by rw [wh9]; exact hI.put (a := 56) (j := 4) (x := x3) (0) (1210) rfl rfl (show (0 : Int) ≤ x3 ∧ x3 ≤ 1210 by omega)
  have f8 : Fr [56] h h9 := by rw [wh9]; exact Fr.putF (a := 56) (j := 4) (x := x3) (Fr.rf _ _) rfl
  have t10 : qr h9 = qr h := by rw [wh9]; exact qr_wr rfl
  have t11 : qn h9 = qn h := by rw [wh9]; exact qn_wr rfl
  refine to_iconst (dat dk_X5_readField 4 rfl) (to_istore_n (L' := [(0, .inr (.inr 56)), (1, .inl 0)]) (dat dk_X5_readField 5 rfl) (by decide) rfl ?_)
  have lp10_n15 : ∀ (n15 : Nat) (y12 : Int), (I32 y12) → (fld (qr h) (Int.toNat (h.2.2 56 1)) (skp noSg (qr h) (qn h) (Int.toNat (h.2.2 56 1))) = fdF (qr h) (Int.toNat (h.2.2 56 1)) (skp noSg (qr h) (qn h) (Int.toNat (h.2.2 56 1))) (Int.toNat (8 - y12)) (Int.toNat y12)) → (0 ≤ y12 ∧ y12 ≤ 8) → (8 - y12 ≤ (n15 : Int)) → To l E_X5_readField (10, [(0, .inr (.inr 56)), (1, .inl y12)], [], h9, 0, 0) (Q_X5_readField_vx h) := by
    intro n15
    induction n15 using Nat.strongRecOn with
    | _ n15 ihn15 =>
    intro y12 ry12 c13 c14 c16
    refine to_iload_n (dat dk_X5_readField 6 rfl) rfl (to_bipush (dat dk_X5_readField 7 rfl) (by decide) ?_)
    refine to_ige 62 (dat dk_X5_readField 8 rfl) rfl ry12 (by decide) (fun c17 => ?_) (fun c17 => ?_)
    · skip
      have e18 : h9.2.2 56 3 = x1 := (by rw [wh9]; exact ex1)
      have e19 : h9.2.2 56 4 = x3 := (by rw [wh9]; exact wr_eq)
      have e20 : h9.2.2 56 1 = x3 := (by rw [wh9]; exact ex3)
      have e21 : h9.2.2 56 2 = x4 := (by rw [wh9]; exact ex4)
      have e22 : h9.2.2 56 5 = x5 := (by rw [wh9]; exact ex5)
      exact to_vret rfl (dat dk_X5_readField 33 rfl) (rv_mk ⟨I7, f8, (by have ze : fld (qr h) (Int.toNat (h.2.2 56 1)) (skp noSg (qr h) (qn h) (Int.toNat (h.2.2 56 1))) = 8 := (by rw [c13, show Int.toNat (8 - y12) = 0 by omega]; rfl); rw [ze]; omega), (by have ze : fld (qr h) (Int.toNat (h.2.2 56 1)) (skp noSg (qr h) (qn h) (Int.toNat (h.2.2 56 1))) = 8 := (by rw [c13, show Int.toNat (8 - y12) = 0 by omega]; rfl); rw [ze]; have z0 := (FN_len 8).2.2 rfl; omega), (show h9.2.2 56 1 = h.2.2 56 1 by omega), (show h9.2.2 56 2 = h.2.2 56 2 by omega), (show h9.2.2 56 5 = h.2.2 56 5 by omega)⟩)
    · skip
      refine to_iload_n (dat dk_X5_readField 9 rfl) rfl ?_
      refine to_cR ca_c6_91 (dat dk_X5_readField 10 rfl) (ct_X5_fieldText_vx l h9 I7 y12 ry12 (show 0 ≤ y12 ∧ y12 ≤ 7 by omega)) rfl trivial rfl (fun x23 h24 p25 => ?_)
      obtain ⟨rfl, p25_0, p25_1⟩ := p25
      obtain ⟨nx23, mx23, bx23⟩ := p25_0
      have lx23 := str_n mx23
      refine to_astore_n (L' := [(0, .inr (.inr 56)), (1, .inl y12), (2, .inr (.inr x23))]) (dat dk_X5_readField 11 rfl) (str_pos mx23) (by decide) rfl (to_aload_n (dat dk_X5_readField 12 rfl) rfl (to_getR 6 g_c6_9 (dat dk_X5_readField 13 rfl) (I7.atS rfl) (I7.atE rfl) (to_aload_n (dat dk_X5_readField 14 rfl) rfl (to_getIv (y := x3) (by rw [wh9]; exact ex3) g_c6_29 (dat dk_X5_readField 15 rfl) (I7.atS rfl) (to_aload_np (dat dk_X5_readField 16 rfl) (str_pos mx23) rfl (to_iconst (dat dk_X5_readField 17 rfl) ?_))))))
      have e26 : h9.2.2 6 1 = x6 := (by rw [wh9]; exact ex6)
      refine to_cI ca_c6_95 (dat dk_X5_readField 18 rfl) (ct_X1_hasAt_vx l h9 I7 x3 (by omega) x23 nx23 mx23 0 (by decide) (show (0 : Int) = 0 by omega) (show 0 ≤ x3 ∧ x3 ≤ h9.2.2 6 1 by omega)) rfl ⟨_, _, rfl, (I7.atS rfl)⟩ rfl (fun x27 h28 rx27 p29 => ?_)
      obtain ⟨rfl, zx27, p29_0⟩ := p29
      rw [t10, t11, ← ex3, p25_1] at p29_0
      rw [fB (by omega) (by omega)] at p29_0
      have zl := congrArg List.length p25_1
      have zm := cod_len mx23
      have zb := bi_in (Nat.ble ((Int.toNat (h.2.2 56 1)) + (FN (Int.toNat y12)).length) (skp noSg (qr h) (qn h) (Int.toNat (h.2.2 56 1))) && mtA (qr h) (Int.toNat (h.2.2 56 1)) (FN (Int.toNat y12)))
      refine to_ifeq 56 (dat dk_X5_readField 19 rfl) rfl rx27 (fun c30 => ?_) (fun c30 => ?_)
      · skip
        refine to_iinc (L' := [(0, .inr (.inr 56)), (1, .inl (y12 + 1)), (2, .inr (.inr x23))]) (dat dk_X5_readField 31 rfl) rfl (by decide) rfl (to_goto (dat dk_X5_readField 32 rfl) rfl ?_)
        refine to_pick [0, 1] rfl ?_
        exact ihn15 (n15 - 1) (by omega) (y12 + 1) (by omega) (by rw [c13, show Int.toNat (8 - y12) = Int.toNat (8 - (y12 + 1)) + 1 by omega, fd_no (bi_f (by omega))]; exact congrArg (fdF (qr h) (Int.toNat (h.2.2 56 1)) (skp noSg (qr h) (qn h) (Int.toNat (h.2.2 56 1))) (Int.toNat (8 - (y12 + 1)))) (by omega)) (show 0 ≤ (y12 + 1) ∧ (y12 + 1) ≤ 8 by omega) (show 8 - (y12 + 1) ≤ ((n15 - 1 : Nat) : Int) by omega)
      · skip
        refine to_aload_n (dat dk_X5_readField 20 rfl) rfl (to_iload_n (dat dk_X5_readField 21 rfl) rfl (to_putIw p_c6_36 (dat dk_X5_readField 22 rfl) (I7.atS rfl) ?_))
        intro h33 wh33
        have I31 : Inv h33 := by rw [wh33]; exact I7.put (a := 56) (j := 3) (x := y12) (0) (8) rfl rfl (show (0 : Int) ≤ y12 ∧ y12 ≤ 8 by omega)
        have f32 : Fr [56] h h33 := by rw [wh33]; exact Fr.putF (a := 56) (j := 3) (x := y12) f8 rfl
        have t34 : qr h33 = qr h9 := by rw [wh33]; exact qr_wr rfl
        have t35 : qn h33 = qn h9 := by rw [wh33]; exact qn_wr rfl
        refine to_aload_n (dat dk_X5_readField 23 rfl) rfl (to_aload_n (dat dk_X5_readField 24 rfl) rfl (to_getIv (y := x3) (by rw [wh33]; exact (show h9.2.2 56 1 = x3 from (by rw [wh9]; exact ex3))) g_c6_29 (dat dk_X5_readField 25 rfl) (I31.atS rfl) (to_aload_np (dat dk_X5_readField 26 rfl) (str_pos mx23) rfl ?_)))
        refine to_cI ca_c6_99 (dat dk_X5_readField 27 rfl) (ct_J0_length_8abf5 l h33 I31 x23 nx23 mx23) rfl (recvS mx23) rfl (fun x36 h37 rx36 p38 => ?_)
        obtain ⟨rfl, p38_0⟩ := p38
        refine to_iadd (dat dk_X5_readField 28 rfl) (to_putIw p_c6_53 (dat dk_X5_readField 29 rfl) (I31.atS rfl) ?_)
        intro h41 wh41
        have I39 : Inv h41 := by rw [wh41]; exact I31.put (a := 56) (j := 4) (x := (x3 + x36)) (0) (1210) rfl rfl (show (0 : Int) ≤ (x3 + x36) ∧ (x3 + x36) ≤ 1210 by omega)
        have f40 : Fr [56] h h41 := by rw [wh41]; exact Fr.putF (a := 56) (j := 4) (x := (x3 + x36)) f32 rfl
        have t42 : qr h41 = qr h33 := by rw [wh41]; exact qr_wr rfl
        have t43 : qn h41 = qn h33 := by rw [wh41]; exact qn_wr rfl
        have e44 : h41.2.2 56 3 = y12 := (by rw [wh41]; exact (show h33.2.2 56 3 = y12 from (by rw [wh33]; exact wr_eq)))
        have e45 : h41.2.2 56 4 = (x3 + x36) := (by rw [wh41]; exact wr_eq)
        have e46 : h41.2.2 56 1 = x3 := (by rw [wh41]; exact (show h33.2.2 56 1 = x3 from (by rw [wh33]; exact (show h9.2.2 56 1 = x3 from (by rw [wh9]; exact ex3)))))
        have e47 : h41.2.2 56 2 = x4 := (by rw [wh41]; exact (show h33.2.2 56 2 = x4 from (by rw [wh33]; exact (show h9.2.2 56 2 = x4 from (by rw [wh9]; exact ex4)))))
        have e48 : h41.2.2 56 5 = x5 := (by rw [wh41]; exact (show h33.2.2 56 5 = x5 from (by rw [wh33]; exact (show h9.2.2 56 5 = x5 from (by rw [wh9]; exact ex5)))))
        exact to_vret rfl (dat dk_X5_readField 30 rfl) (rv_mk ⟨I39, f40, (by have ze : fld (qr h) (Int.toNat (h.2.2 56 1)) (skp noSg (qr h) (qn h) (Int.toNat (h.2.2 56 1))) = Int.toNat y12 := (by rw [c13, show Int.toNat (8 - y12) = Int.toNat (8 - (y12 + 1)) + 1 by omega, fd_hit (bi_t (by omega))]); rw [ze]; omega), (by have ze : fld (qr h) (Int.toNat (h.2.2 56 1)) (skp noSg (qr h) (qn h) (Int.toNat (h.2.2 56 1))) = Int.toNat y12 := (by rw [c13, show Int.toNat (8 - y12) = Int.toNat (8 - (y12 + 1)) + 1 by omega, fd_hit (bi_t (by omega))]); rw [ze]; omega), (show h41.2.2 56 1 = h.2.2 56 1 by omega), (show h41.2.2 56 2 = h.2.2 56 2 by omega), (show h41.2.2 56 5 = h.2.2 56 5 by omega)⟩)
  exact lp10_n15 (8 - (0 : Int)).toNat 0 (by decide) (by rw [fld_eq]; rfl) (show 0 ≤ (0 : Int) ∧ (0 : Int) ≤ 8 by omega) (by omega)
abbrev Q_X5_readDays_vx (h : Hp) : Option V → Hp → Nat → Nat → Prop := RI (fun x H => Inv H ∧ Fr [56] h H ∧ (x = 0 ∨ x = 1) ∧ (x = bi (datOK (qr h) (Int.toNat (h.2.2 56 4)) (Int.toNat (h.2.2 56 5)))) ∧ (H.2.2 56 1 = h.2.2 56 1) ∧ (H.2.2 56 2 = h.2.2 56 2))
set_option maxRecDepth 100000 in
theorem ct_X5_readDays_vx (l : Launch) (h : Hp) (hI : Inv h) (g0 : h.2.2 56 4 ≤ h.2.2 56 5 ∧ h.2.2 56 5 ≤ h.2.2 6 1) : Ct l D_X5_readDays 6 131 [.inr (.inr 56)] h (Q_X5_readDays_vx h) := by
  refine ct_of pn_X5_readDays (Nat.le_of_ble_eq_true rfl) ?_
  show To l E_X5_readDays (0, [(0, .inr (.inr 56))], [], h, 0, 0) _
  have zq := qn_is hI
  obtain ⟨x1, ex1⟩ : ∃ y : Int, h.2.2 56 1 = y := ⟨_, rfl⟩
  have rx1 := hI.atR (a := 56) (j := 1) rfl
  rw [ex1] at rx1
  obtain ⟨x2, ex2⟩ : ∃ y : Int, h.2.2 56 2 = y := ⟨_, rfl⟩
  have rx2 := hI.atR (a := 56) (j := 2) rfl
  rw [ex2] at rx2
  obtain ⟨x3, ex3⟩ : ∃ y : Int, h.2.2 56 4 = y := ⟨_, rfl⟩
  have rx3 := hI.atR (a := 56) (j := 4) rfl
  rw [ex3] at rx3
  obtain ⟨x4, ex4⟩ : ∃ y : Int, h.2.2 56 5 = y := ⟨_, rfl⟩
  have rx4 := hI.atR (a := 56) (j := 5) rfl
  rw [ex4] at rx4
  obtain ⟨x5, ex5⟩ : ∃ y : Int, h.2.2 6 1 = y := ⟨_, rfl⟩
  have rx5 := hI.atR (a := 6) (j := 1) rfl
  rw [ex5] at rx5
  have jn36_n8 : ∀ (y6 : Int), (y6 = 0 ∨ y6 = 1) → (y6 = bi (q1 (qr h) (qn h) (Int.toNat (h.2.2 56 4)) (Int.toNat (h.2.2 56 5)))) → To l E_X5_readDays (36, [(0, .inr (.inr 56))], [.inl y6], h, 0, 0) (Q_X5_readDays_vx h) := by
    intro y6 ry6 c7
    refine to_istore_n (L' := [(0, .inr (.inr 56)), (1, .inl y6)]) (dat dk_X5_readDays 18 rfl) (by decide) rfl ?_
    have jn80_n11 : ∀ (y9 : Int), (y9 = 0 ∨ y9 = 1) → (y9 = bi (q2 (qr h) (qn h) (Int.toNat (h.2.2 56 4)) (Int.toNat (h.2.2 56 5)))) → To l E_X5_readDays (80, [(0, .inr (.inr 56)), (1, .inl y6)], [.inl y9], h, 0, 0) (Q_X5_readDays_vx h) := by
      intro y9 ry9 c10
      refine to_istore_n (L' := [(0, .inr (.inr 56)), (1, .inl y6), (2, .inl y9)]) (dat dk_X5_readDays 41 rfl) (by decide) rfl ?_
      have jn120_n14 : ∀ (y12 : Int), (y12 = 0 ∨ y12 = 1) → (y12 = bi (q3 (qr h) (qn h) (Int.toNat (h.2.2 56 4)) (Int.toNat (h.2.2 56 5)))) → To l E_X5_readDays (120, [(0, .inr (.inr 56)), (1, .inl y6), (2, .inl y9)], [.inl y12], h, 0, 0) (Q_X5_readDays_vx h) := by
        intro y12 ry12 c13
        refine to_istore_n (L' := [(0, .inr (.inr 56)), (1, .inl y6), (2, .inl y9), (3, .inl y12)]) (dat dk_X5_readDays 62 rfl) (by decide) rfl ?_
        have jn135_n16 : ((q1 (qr h) (qn h) (Int.toNat (h.2.2 56 4)) (Int.toNat (h.2.2 56 5)) || (q2 (qr h) (qn h) (Int.toNat (h.2.2 56 4)) (Int.toNat (h.2.2 56 5)) || q3 (qr h) (qn h) (Int.toNat (h.2.2 56 4)) (Int.toNat (h.2.2 56 5)))) = true) → To l E_X5_readDays (135, [(0, .inr (.inr 56)), (1, .inl y6), (2, .inl y9), (3, .inl y12)], [], h, 0, 0) (Q_X5_readDays_vx h) := by
          intro  c15
          have zq3 := qq_len c15
          refine to_aload_n (dat dk_X5_readDays 71 rfl) rfl ?_
          have jn156_n19 : ∀ (y17 : Int), (I32 y17) → ((y17 = -1000000 ∧ bi (q1 (qr h) (qn h) (Int.toNat (h.2.2 56 4)) (Int.toNat (h.2.2 56 5)) || dayOK (qr h) (Int.toNat (h.2.2 56 4))) = 0) ∨ (y17 ≠ -1000000 ∧ bi (q1 (qr h) (qn h) (Int.toNat (h.2.2 56 4)) (Int.toNat (h.2.2 56 5)) || dayOK (qr h) (Int.toNat (h.2.2 56 4))) = 1)) → To l E_X5_readDays (156, [(0, .inr (.inr 56)), (1, .inl y6), (2, .inl y9), (3, .inl y12)], [.inl y17, .inr (.inr 56)], h, 0, 0) (Q_X5_readDays_vx h) := by
            intro y17 ry17 c18
            refine to_putIw p_c6_113 (dat dk_X5_readDays 81 rfl) (hI.atS rfl) ?_
            intro h22 wh22
            have I20 : Inv h22 := by rw [wh22]; exact hI.put (a := 56) (j := 7) (x := y17) (-2147483648) (2147483647) rfl rfl (show (-2147483648 : Int) ≤ y17 ∧ y17 ≤ 2147483647 by omega)
            have f21 : Fr [56] h h22 := by rw [wh22]; exact Fr.putF (a := 56) (j := 7) (x := y17) (Fr.rf _ _) rfl
            have t23 : qr h22 = qr h := by rw [wh22]; exact qr_wr rfl
            have t24 : qn h22 = qn h := by rw [wh22]; exact qn_wr rfl
            refine to_aload_n (dat dk_X5_readDays 82 rfl) rfl ?_
            have jn183_n27 : ∀ (y25 : Int), (I32 y25) → ((y25 = -1000000 ∧ bi (q2 (qr h) (qn h) (Int.toNat (h.2.2 56 4)) (Int.toNat (h.2.2 56 5)) || dayOK (qr h) ((Int.toNat (h.2.2 56 5)) - 8)) = 0) ∨ (y25 ≠ -1000000 ∧ bi (q2 (qr h) (qn h) (Int.toNat (h.2.2 56 4)) (Int.toNat (h.2.2 56 5)) || dayOK (qr h) ((Int.toNat (h.2.2 56 5)) - 8)) = 1)) → To l E_X5_readDays (183, [(0, .inr (.inr 56)), (1, .inl y6), (2, .inl y9), (3, .inl y12)], [.inl y25, .inr (.inr 56)], h22, 0, 0) (Q_X5_readDays_vx h) := by
              intro y25 ry25 c26
              refine to_putIw p_c6_117 (dat dk_X5_readDays 94 rfl) (I20.atS rfl) ?_
              intro h30 wh30
              have I28 : Inv h30 := by rw [wh30]; exact I20.put (a := 56) (j := 8) (x := y25) (-2147483648) (2147483647) rfl rfl (show (-2147483648 : Int) ≤ y25 ∧ y25 ≤ 2147483647 by omega)
              have f29 : Fr [56] h h30 := by rw [wh30]; exact Fr.putF (a := 56) (j := 8) (x := y25) f21 rfl
              have t31 : qr h30 = qr h22 := by rw [wh30]; exact qr_wr rfl
              have t32 : qn h30 = qn h22 := by rw [wh30]; exact qn_wr rfl
              refine to_aload_n (dat dk_X5_readDays 95 rfl) rfl (to_getIv (y := y17) (by rw [wh30]; exact (show h22.2.2 56 7 = y17 from (by rw [wh22]; exact wr_eq))) g_c6_113 (dat dk_X5_readDays 96 rfl) (I28.atS rfl) (to_ldc (v := (-1000000)) (x := -1000000) (tin 6 76 (by decide +kernel) rfl) (by decide +kernel) (dat dk_X5_readDays 97 rfl) ?_))
              refine to_ieq 208 (dat dk_X5_readDays 98 rfl) rfl ry17 (by decide) (fun c33 => ?_) (fun c33 => ?_)
              · skip
                refine to_iconst (dat dk_X5_readDays 105 rfl) ?_
                have e34 : h30.2.2 56 1 = x1 := (by rw [wh30]; exact (show h22.2.2 56 1 = x1 from (by rw [wh22]; exact ex1)))
                have e35 : h30.2.2 56 2 = x2 := (by rw [wh30]; exact (show h22.2.2 56 2 = x2 from (by rw [wh22]; exact ex2)))
                exact to_zret rfl (dat dk_X5_readDays 106 rfl) (by decide) (ri_mk (by decide) ⟨I28, f29, (by decide), (by rw [dat_q (n := qn h) (by omega), c15]; exact (if z : bi (q1 (qr h) (qn h) (Int.toNat (h.2.2 56 4)) (Int.toNat (h.2.2 56 5)) || dayOK (qr h) (Int.toNat (h.2.2 56 4))) = 0 then (by rw [bi_f z]; rfl) else (by rw [bi_f (b := (q2 (qr h) (qn h) (Int.toNat (h.2.2 56 4)) (Int.toNat (h.2.2 56 5)) || dayOK (qr h) ((Int.toNat (h.2.2 56 5)) - 8))) (by omega), Bool.and_false]; rfl))), (show h30.2.2 56 1 = h.2.2 56 1 by omega), (show h30.2.2 56 2 = h.2.2 56 2 by omega)⟩)
              · skip
                refine to_aload_n (dat dk_X5_readDays 99 rfl) rfl (to_getIv (y := y25) (by rw [wh30]; exact wr_eq) g_c6_117 (dat dk_X5_readDays 100 rfl) (I28.atS rfl) (to_ldc (v := (-1000000)) (x := -1000000) (tin 6 76 (by decide +kernel) rfl) (by decide +kernel) (dat dk_X5_readDays 101 rfl) ?_))
                refine to_ieq 208 (dat dk_X5_readDays 102 rfl) rfl ry25 (by decide) (fun c36 => ?_) (fun c36 => ?_)
                · skip
                  refine to_iconst (dat dk_X5_readDays 105 rfl) ?_
                  have e37 : h30.2.2 56 1 = x1 := (by rw [wh30]; exact (show h22.2.2 56 1 = x1 from (by rw [wh22]; exact ex1)))
                  have e38 : h30.2.2 56 2 = x2 := (by rw [wh30]; exact (show h22.2.2 56 2 = x2 from (by rw [wh22]; exact ex2)))
                  exact to_zret rfl (dat dk_X5_readDays 106 rfl) (by decide) (ri_mk (by decide) ⟨I28, f29, (by decide), (by rw [dat_q (n := qn h) (by omega), c15]; exact (if z : bi (q1 (qr h) (qn h) (Int.toNat (h.2.2 56 4)) (Int.toNat (h.2.2 56 5)) || dayOK (qr h) (Int.toNat (h.2.2 56 4))) = 0 then (by rw [bi_f z]; rfl) else (by rw [bi_f (b := (q2 (qr h) (qn h) (Int.toNat (h.2.2 56 4)) (Int.toNat (h.2.2 56 5)) || dayOK (qr h) ((Int.toNat (h.2.2 56 5)) - 8))) (by omega), Bool.and_false]; rfl))), (show h30.2.2 56 1 = h.2.2 56 1 by omega), (show h30.2.2 56 2 = h.2.2 56 2 by omega)⟩)
                · skip
                  refine to_iconst (dat dk_X5_readDays 103 rfl) (to_goto (dat dk_X5_readDays 104 rfl) rfl ?_)
                  have e39 : h30.2.2 56 1 = x1 := (by rw [wh30]; exact (show h22.2.2 56 1 = x1 from (by rw [wh22]; exact ex1)))
                  have e40 : h30.2.2 56 2 = x2 := (by rw [wh30]; exact (show h22.2.2 56 2 = x2 from (by rw [wh22]; exact ex2)))
                  exact to_zret rfl (dat dk_X5_readDays 106 rfl) (by decide) (ri_mk (by decide) ⟨I28, f29, (by decide), (by rw [dat_q (n := qn h) (by omega), c15, bi_t (b := (q1 (qr h) (qn h) (Int.toNat (h.2.2 56 4)) (Int.toNat (h.2.2 56 5)) || dayOK (qr h) (Int.toNat (h.2.2 56 4)))) (by omega), bi_t (b := (q2 (qr h) (qn h) (Int.toNat (h.2.2 56 4)) (Int.toNat (h.2.2 56 5)) || dayOK (qr h) ((Int.toNat (h.2.2 56 5)) - 8))) (by omega)]; rfl), (show h30.2.2 56 1 = h.2.2 56 1 by omega), (show h30.2.2 56 2 = h.2.2 56 2 by omega)⟩)
            refine to_iload_n (dat dk_X5_readDays 83 rfl) rfl ?_
            refine to_ifeq 169 (dat dk_X5_readDays 84 rfl) rfl (by omega) (fun c41 => ?_) (fun c41 => ?_)
            · skip
              refine to_aload_n (dat dk_X5_readDays 87 rfl) rfl (to_getR 6 g_c6_9 (dat dk_X5_readDays 88 rfl) (I20.atS rfl) (I20.atE rfl) (to_aload_n (dat dk_X5_readDays 89 rfl) rfl (to_getIv (y := x4) (by rw [wh22]; exact ex4) g_c6_56 (dat dk_X5_readDays 90 rfl) (I20.atS rfl) (to_bipush (dat dk_X5_readDays 91 rfl) (by decide) (to_isub (dat dk_X5_readDays 92 rfl) ?_)))))
              have e42 : h22.2.2 6 1 = x5 := (by rw [wh22]; exact ex5)
              refine to_cI ca_c6_109 (dat dk_X5_readDays 93 rfl) (ct_X3_dayAt_vx l h22 I20 (x4 - 8) (by omega) (show 0 ≤ (x4 - 8) ∧ (x4 - 8) + 8 ≤ h22.2.2 6 1 by omega)) rfl trivial rfl (fun x43 h44 rx43 p45 => ?_)
              obtain ⟨rfl, p45_0⟩ := p45
              exact jn183_n27 x43 rx43 (by have zz := p45_0; rw [t23, ← ex4, show Int.toNat (h.2.2 56 5 - 8) = (Int.toNat (h.2.2 56 5)) - 8 by omega] at zz; rw [bi_f (b := q2 (qr h) (qn h) (Int.toNat (h.2.2 56 4)) (Int.toNat (h.2.2 56 5))) (by omega), Bool.false_or]; omega)
            · skip
              refine to_ldc (v := 9999999) (x := 9999999) (tin 6 75 (by decide +kernel) rfl) (by decide +kernel) (dat dk_X5_readDays 85 rfl) (to_goto (dat dk_X5_readDays 86 rfl) rfl ?_)
              exact jn183_n27 9999999 (by decide) (Or.inr ⟨by omega, bi_1 (by rw [bi_t (b := q2 (qr h) (qn h) (Int.toNat (h.2.2 56 4)) (Int.toNat (h.2.2 56 5))) (by omega), Bool.true_or])⟩)
          refine to_iload_n (dat dk_X5_readDays 72 rfl) rfl ?_
          refine to_ifeq 145 (dat dk_X5_readDays 73 rfl) rfl (by omega) (fun c46 => ?_) (fun c46 => ?_)
          · skip
            refine to_aload_n (dat dk_X5_readDays 76 rfl) rfl (to_getR 6 g_c6_9 (dat dk_X5_readDays 77 rfl) (hI.atS rfl) (hI.atE rfl) (to_aload_n (dat dk_X5_readDays 78 rfl) rfl (to_getIv (y := x3) ex3 g_c6_53 (dat dk_X5_readDays 79 rfl) (hI.atS rfl) ?_)))
            refine to_cI ca_c6_109 (dat dk_X5_readDays 80 rfl) (ct_X3_dayAt_vx l h hI x3 (by omega) (show 0 ≤ x3 ∧ x3 + 8 ≤ h.2.2 6 1 by omega)) rfl trivial rfl (fun x47 h48 rx47 p49 => ?_)
            obtain ⟨rfl, p49_0⟩ := p49
            exact jn156_n19 x47 rx47 (by have zz := p49_0; rw [← ex3] at zz; rw [bi_f (b := q1 (qr h) (qn h) (Int.toNat (h.2.2 56 4)) (Int.toNat (h.2.2 56 5))) (by omega), Bool.false_or]; omega)
          · skip
            refine to_ldc (v := (-999999)) (x := -999999) (tin 6 71 (by decide +kernel) rfl) (by decide +kernel) (dat dk_X5_readDays 74 rfl) (to_goto (dat dk_X5_readDays 75 rfl) rfl ?_)
            exact jn156_n19 (-999999) (by decide) (Or.inr ⟨by omega, bi_1 (by rw [bi_t (b := q1 (qr h) (qn h) (Int.toNat (h.2.2 56 4)) (Int.toNat (h.2.2 56 5))) (by omega), Bool.true_or])⟩)
        refine to_iload_n (dat dk_X5_readDays 63 rfl) rfl ?_
        refine to_ifne 135 (dat dk_X5_readDays 64 rfl) rfl (by omega) (fun c50 => ?_) (fun c50 => ?_)
        · skip
          exact jn135_n16  (by first | rw [bi_t (b := q1 (qr h) (qn h) (Int.toNat (h.2.2 56 4)) (Int.toNat (h.2.2 56 5))) (by omega)]; rfl | rw [bi_t (b := q2 (qr h) (qn h) (Int.toNat (h.2.2 56 4)) (Int.toNat (h.2.2 56 5))) (by omega), Bool.true_or, Bool.or_true] | rw [bi_t (b := q3 (qr h) (qn h) (Int.toNat (h.2.2 56 4)) (Int.toNat (h.2.2 56 5))) (by omega), Bool.or_true, Bool.or_true])
        · skip
          refine to_iload_n (dat dk_X5_readDays 65 rfl) rfl ?_
          refine to_ifne 135 (dat dk_X5_readDays 66 rfl) rfl (by omega) (fun c51 => ?_) (fun c51 => ?_)
          · skip
            exact jn135_n16  (by first | rw [bi_t (b := q1 (qr h) (qn h) (Int.toNat (h.2.2 56 4)) (Int.toNat (h.2.2 56 5))) (by omega)]; rfl | rw [bi_t (b := q2 (qr h) (qn h) (Int.toNat (h.2.2 56 4)) (Int.toNat (h.2.2 56 5))) (by omega), Bool.true_or, Bool.or_true] | rw [bi_t (b := q3 (qr h) (qn h) (Int.toNat (h.2.2 56 4)) (Int.toNat (h.2.2 56 5))) (by omega), Bool.or_true, Bool.or_true])
          · skip
            refine to_iload_n (dat dk_X5_readDays 67 rfl) rfl ?_
            refine to_ifne 135 (dat dk_X5_readDays 68 rfl) rfl (by omega) (fun c52 => ?_) (fun c52 => ?_)
            · skip
              exact jn135_n16  (by first | rw [bi_t (b := q1 (qr h) (qn h) (Int.toNat (h.2.2 56 4)) (Int.toNat (h.2.2 56 5))) (by omega)]; rfl | rw [bi_t (b := q2 (qr h) (qn h) (Int.toNat (h.2.2 56 4)) (Int.toNat (h.2.2 56 5))) (by omega), Bool.true_or, Bool.or_true] | rw [bi_t (b := q3 (qr h) (qn h) (Int.toNat (h.2.2 56 4)) (Int.toNat (h.2.2 56 5))) (by omega), Bool.or_true, Bool.or_true])
            · skip
              refine to_iconst (dat dk_X5_readDays 69 rfl) ?_
              exact to_zret rfl (dat dk_X5_readDays 70 rfl) (by decide) (ri_mk (by decide) ⟨hI, (Fr.rf _ _), (by decide), (by rw [dat_q (n := qn h) (by omega), bi_f (b := q1 (qr h) (qn h) (Int.toNat (h.2.2 56 4)) (Int.toNat (h.2.2 56 5))) (by omega), bi_f (b := q2 (qr h) (qn h) (Int.toNat (h.2.2 56 4)) (Int.toNat (h.2.2 56 5))) (by omega), bi_f (b := q3 (qr h) (qn h) (Int.toNat (h.2.2 56 4)) (Int.toNat (h.2.2 56 5))) (by omega)]; rfl), (show h.2.2 56 1 = h.2.2 56 1 by omega), (show h.2.2 56 2 = h.2.2 56 2 by omega)⟩)
      refine to_aload_n (dat dk_X5_readDays 42 rfl) rfl (to_getIv (y := x4) ex4 g_c6_56 (dat dk_X5_readDays 43 rfl) (hI.atS rfl) (to_aload_n (dat dk_X5_readDays 44 rfl) rfl (to_getIv (y := x3) ex3 g_c6_53 (dat dk_X5_readDays 45 rfl) (hI.atS rfl) (to_isub (dat dk_X5_readDays 46 rfl) (to_bipush (dat dk_X5_readDays 47 rfl) (by decide) ?_)))))
      refine to_ine 119 (dat dk_X5_readDays 48 rfl) rfl (by omega) (by decide) (fun c53 => ?_) (fun c53 => ?_)
      · skip
        refine to_iconst (dat dk_X5_readDays 61 rfl) ?_
        exact jn120_n14 0 (by decide) (bi_0 (show q3 (qr h) (qn h) (Int.toNat (h.2.2 56 4)) (Int.toNat (h.2.2 56 5)) = false from (by first | exact q3_no1 (by omega) | exact q3_no2 (bi_f (by omega))))).symm
      · skip
        refine to_aload_n (dat dk_X5_readDays 49 rfl) rfl (to_getR 6 g_c6_9 (dat dk_X5_readDays 50 rfl) (hI.atS rfl) (hI.atE rfl) (to_aload_n (dat dk_X5_readDays 51 rfl) rfl (to_getIv (y := x3) ex3 g_c6_53 (dat dk_X5_readDays 52 rfl) (hI.atS rfl) (to_bipush (dat dk_X5_readDays 53 rfl) (by decide) (to_iadd (dat dk_X5_readDays 54 rfl) (to_ldcS (q := 143) (tx := "..") (List.mem_of_getElem? (i := 21) rfl) (dat dk_X5_readDays 55 rfl) (to_iconst (dat dk_X5_readDays 56 rfl) ?_)))))))
        refine to_cI ca_c6_95 (dat dk_X5_readDays 57 rfl) (ct_X1_hasAt_vx l h hI (x3 + 8) (by omega) 1000143 2 (List.mem_of_getElem? (i := 21) rfl) 0 (by decide) (show (0 : Int) = 0 by omega) (show 0 ≤ (x3 + 8) ∧ (x3 + 8) ≤ h.2.2 6 1 by omega)) rfl ⟨_, _, rfl, (hI.atS rfl)⟩ rfl (fun x54 h55 rx54 p56 => ?_)
        obtain ⟨rfl, zx54, p56_0⟩ := p56
        rw [← ex3, (show cod 1000143 = wDD by rw [cod_eq]; decide +kernel)] at p56_0
        rw [show Int.toNat (h.2.2 56 4 + 8) = (Int.toNat (h.2.2 56 4)) + 8 by omega] at p56_0
        refine to_ifeq 119 (dat dk_X5_readDays 58 rfl) rfl rx54 (fun c57 => ?_) (fun c57 => ?_)
        · skip
          refine to_iconst (dat dk_X5_readDays 61 rfl) ?_
          exact jn120_n14 0 (by decide) (bi_0 (show q3 (qr h) (qn h) (Int.toNat (h.2.2 56 4)) (Int.toNat (h.2.2 56 5)) = false from (by first | exact q3_no1 (by omega) | exact q3_no2 (bi_f (by omega))))).symm
        · skip
          refine to_iconst (dat dk_X5_readDays 59 rfl) (to_goto (dat dk_X5_readDays 60 rfl) rfl ?_)
          exact jn120_n14 1 (by decide) (bi_1 (show q3 (qr h) (qn h) (Int.toNat (h.2.2 56 4)) (Int.toNat (h.2.2 56 5)) = true from q3_yes (by omega) (bi_t (by omega)))).symm
    refine to_aload_n (dat dk_X5_readDays 19 rfl) rfl (to_getIv (y := x4) ex4 g_c6_56 (dat dk_X5_readDays 20 rfl) (hI.atS rfl) (to_aload_n (dat dk_X5_readDays 21 rfl) rfl (to_getIv (y := x3) ex3 g_c6_53 (dat dk_X5_readDays 22 rfl) (hI.atS rfl) (to_isub (dat dk_X5_readDays 23 rfl) (to_bipush (dat dk_X5_readDays 24 rfl) (by decide) ?_)))))
    refine to_ine 79 (dat dk_X5_readDays 25 rfl) rfl (by omega) (by decide) (fun c58 => ?_) (fun c58 => ?_)
    · skip
      refine to_iconst (dat dk_X5_readDays 40 rfl) ?_
      exact jn80_n11 0 (by decide) (bi_0 (show q2 (qr h) (qn h) (Int.toNat (h.2.2 56 4)) (Int.toNat (h.2.2 56 5)) = false from (by first | exact q2_no1 (by omega) | exact q2_no3 (bi_f (by omega)) | exact q2_no2 (bi_t (by omega))))).symm
    · skip
      refine to_iload_n (dat dk_X5_readDays 26 rfl) rfl ?_
      refine to_ifne 79 (dat dk_X5_readDays 27 rfl) rfl (by omega) (fun c59 => ?_) (fun c59 => ?_)
      · skip
        refine to_iconst (dat dk_X5_readDays 40 rfl) ?_
        exact jn80_n11 0 (by decide) (bi_0 (show q2 (qr h) (qn h) (Int.toNat (h.2.2 56 4)) (Int.toNat (h.2.2 56 5)) = false from (by first | exact q2_no1 (by omega) | exact q2_no3 (bi_f (by omega)) | exact q2_no2 (bi_t (by omega))))).symm
      · skip
        refine to_aload_n (dat dk_X5_readDays 28 rfl) rfl (to_getR 6 g_c6_9 (dat dk_X5_readDays 29 rfl) (hI.atS rfl) (hI.atE rfl) (to_aload_n (dat dk_X5_readDays 30 rfl) rfl (to_getIv (y := x3) ex3 g_c6_53 (dat dk_X5_readDays 31 rfl) (hI.atS rfl) (to_bipush (dat dk_X5_readDays 32 rfl) (by decide) (to_iadd (dat dk_X5_readDays 33 rfl) (to_ldcS (q := 143) (tx := "..") (List.mem_of_getElem? (i := 21) rfl) (dat dk_X5_readDays 34 rfl) (to_iconst (dat dk_X5_readDays 35 rfl) ?_)))))))
        refine to_cI ca_c6_95 (dat dk_X5_readDays 36 rfl) (ct_X1_hasAt_vx l h hI (x3 + 8) (by omega) 1000143 2 (List.mem_of_getElem? (i := 21) rfl) 0 (by decide) (show (0 : Int) = 0 by omega) (show 0 ≤ (x3 + 8) ∧ (x3 + 8) ≤ h.2.2 6 1 by omega)) rfl ⟨_, _, rfl, (hI.atS rfl)⟩ rfl (fun x60 h61 rx60 p62 => ?_)
        obtain ⟨rfl, zx60, p62_0⟩ := p62
        rw [← ex3, (show cod 1000143 = wDD by rw [cod_eq]; decide +kernel)] at p62_0
        rw [show Int.toNat (h.2.2 56 4 + 8) = (Int.toNat (h.2.2 56 4)) + 8 by omega] at p62_0
        refine to_ifeq 79 (dat dk_X5_readDays 37 rfl) rfl rx60 (fun c63 => ?_) (fun c63 => ?_)
        · skip
          refine to_iconst (dat dk_X5_readDays 40 rfl) ?_
          exact jn80_n11 0 (by decide) (bi_0 (show q2 (qr h) (qn h) (Int.toNat (h.2.2 56 4)) (Int.toNat (h.2.2 56 5)) = false from (by first | exact q2_no1 (by omega) | exact q2_no3 (bi_f (by omega)) | exact q2_no2 (bi_t (by omega))))).symm
        · skip
          refine to_iconst (dat dk_X5_readDays 38 rfl) (to_goto (dat dk_X5_readDays 39 rfl) rfl ?_)
          exact jn80_n11 1 (by decide) (bi_1 (show q2 (qr h) (qn h) (Int.toNat (h.2.2 56 4)) (Int.toNat (h.2.2 56 5)) = true from q2_yes (by omega) (bi_f (by omega)) (bi_t (by omega)))).symm
  refine to_aload_n (dat dk_X5_readDays 0 rfl) rfl (to_getIv (y := x4) ex4 g_c6_56 (dat dk_X5_readDays 1 rfl) (hI.atS rfl) (to_aload_n (dat dk_X5_readDays 2 rfl) rfl (to_getIv (y := x3) ex3 g_c6_53 (dat dk_X5_readDays 3 rfl) (hI.atS rfl) (to_isub (dat dk_X5_readDays 4 rfl) (to_bipush (dat dk_X5_readDays 5 rfl) (by decide) ?_)))))
  refine to_ine 35 (dat dk_X5_readDays 6 rfl) rfl (by omega) (by decide) (fun c64 => ?_) (fun c64 => ?_)
  · skip
    refine to_iconst (dat dk_X5_readDays 17 rfl) ?_
    exact jn36_n8 0 (by decide) (bi_0 (show q1 (qr h) (qn h) (Int.toNat (h.2.2 56 4)) (Int.toNat (h.2.2 56 5)) = false from (by first | exact q1_no1 (by omega) | exact q1_no2 (bi_f (by omega))))).symm
  · skip
    refine to_aload_n (dat dk_X5_readDays 7 rfl) rfl (to_getR 6 g_c6_9 (dat dk_X5_readDays 8 rfl) (hI.atS rfl) (hI.atE rfl) (to_aload_n (dat dk_X5_readDays 9 rfl) rfl (to_getIv (y := x3) ex3 g_c6_53 (dat dk_X5_readDays 10 rfl) (hI.atS rfl) (to_ldcS (q := 143) (tx := "..") (List.mem_of_getElem? (i := 21) rfl) (dat dk_X5_readDays 11 rfl) (to_iconst (dat dk_X5_readDays 12 rfl) ?_)))))
    refine to_cI ca_c6_95 (dat dk_X5_readDays 13 rfl) (ct_X1_hasAt_vx l h hI x3 (by omega) 1000143 2 (List.mem_of_getElem? (i := 21) rfl) 0 (by decide) (show (0 : Int) = 0 by omega) (show 0 ≤ x3 ∧ x3 ≤ h.2.2 6 1 by omega)) rfl ⟨_, _, rfl, (hI.atS rfl)⟩ rfl (fun x65 h66 rx65 p67 => ?_)
    obtain ⟨rfl, zx65, p67_0⟩ := p67
    rw [← ex3, (show cod 1000143 = wDD by rw [cod_eq]; decide +kernel)] at p67_0
    refine to_ifeq 35 (dat dk_X5_readDays 14 rfl) rfl rx65 (fun c68 => ?_) (fun c68 => ?_)
    · skip
      refine to_iconst (dat dk_X5_readDays 17 rfl) ?_
      exact jn36_n8 0 (by decide) (bi_0 (show q1 (qr h) (qn h) (Int.toNat (h.2.2 56 4)) (Int.toNat (h.2.2 56 5)) = false from (by first | exact q1_no1 (by omega) | exact q1_no2 (bi_f (by omega))))).symm
    · skip
      refine to_iconst (dat dk_X5_readDays 15 rfl) (to_goto (dat dk_X5_readDays 16 rfl) rfl ?_)
      exact jn36_n8 1 (by decide) (bi_1 (show q1 (qr h) (qn h) (Int.toNat (h.2.2 56 4)) (Int.toNat (h.2.2 56 5)) = true from q1_yes (by omega) (bi_t (by omega)))).symm
