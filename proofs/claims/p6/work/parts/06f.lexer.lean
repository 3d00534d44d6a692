/-! Contracts, by program. -/
abbrev Q_X5_isSign (h : Hp) (b : Int) : Option V → Hp → Nat → Nat → Prop := RI (fun x H => h = H ∧ (x = 0 ∨ x = 1))
set_option maxRecDepth 100000 in
theorem ct_X5_isSign (l : Launch) (h : Hp) (hI : Inv h) (b : Int) (hb : I32 b) : Ct l D_X5_isSign 1 20 [.inl b] h (Q_X5_isSign h b) := by
  refine ct_of pn_X5_isSign (Nat.le_of_ble_eq_true rfl) ?_
  show To l E_X5_isSign (0, [(0, .inl b)], [], h, 0, 0) _
  refine to_iload_n (dat dk_X5_isSign 0 rfl) rfl ?_
  refine to_cI ca_c6_86 (dat dk_X5_isSign 1 rfl) (ct_X9_isBlank l h hI b hb) rfl trivial rfl (fun x1 h2 rx1 p3 => ?_)
  obtain ⟨rfl, zx1⟩ := p3
  refine to_ifne 25 (dat dk_X5_isSign 2 rfl) rfl rx1 (fun c4 => ?_) (fun c4 => ?_)
  · skip
    refine to_iconst (dat dk_X5_isSign 12 rfl) (to_goto (dat dk_X5_isSign 13 rfl) rfl ?_)
    exact to_zret rfl (dat dk_X5_isSign 15 rfl) (by decide) (ri_mk (by decide) ⟨rfl, (by decide)⟩)
  · skip
    refine to_iload_n (dat dk_X5_isSign 3 rfl) rfl (to_bipush (dat dk_X5_isSign 4 rfl) (by decide) ?_)
    refine to_ieq 25 (dat dk_X5_isSign 5 rfl) rfl hb (by decide) (fun c5 => ?_) (fun c5 => ?_)
    · skip
      refine to_iconst (dat dk_X5_isSign 12 rfl) (to_goto (dat dk_X5_isSign 13 rfl) rfl ?_)
      exact to_zret rfl (dat dk_X5_isSign 15 rfl) (by decide) (ri_mk (by decide) ⟨rfl, (by decide)⟩)
    · skip
      refine to_iload_n (dat dk_X5_isSign 6 rfl) rfl (to_bipush (dat dk_X5_isSign 7 rfl) (by decide) ?_)
      refine to_ieq 25 (dat dk_X5_isSign 8 rfl) rfl hb (by decide) (fun c6 => ?_) (fun c6 => ?_)
      · skip
        refine to_iconst (dat dk_X5_isSign 12 rfl) (to_goto (dat dk_X5_isSign 13 rfl) rfl ?_)
        exact to_zret rfl (dat dk_X5_isSign 15 rfl) (by decide) (ri_mk (by decide) ⟨rfl, (by decide)⟩)
      · skip
        refine to_iload_n (dat dk_X5_isSign 9 rfl) rfl (to_bipush (dat dk_X5_isSign 10 rfl) (by decide) ?_)
        refine to_ine 29 (dat dk_X5_isSign 11 rfl) rfl hb (by decide) (fun c7 => ?_) (fun c7 => ?_)
        · skip
          refine to_iconst (dat dk_X5_isSign 14 rfl) ?_
          exact to_zret rfl (dat dk_X5_isSign 15 rfl) (by decide) (ri_mk (by decide) ⟨rfl, (by decide)⟩)
        · skip
          refine to_iconst (dat dk_X5_isSign 12 rfl) (to_goto (dat dk_X5_isSign 13 rfl) rfl ?_)
          exact to_zret rfl (dat dk_X5_isSign 15 rfl) (by decide) (ri_mk (by decide) ⟨rfl, (by decide)⟩)
abbrev Q_X5_fieldText (h : Hp) (f : Int) : Option V → Hp → Nat → Nat → Prop := RR (fun x H => h = H ∧ (∃ n : Nat, (x, n) ∈ strL ∧ n ≤ 9))
set_option maxRecDepth 100000 in
theorem ct_X5_fieldText (l : Launch) (h : Hp) (hI : Inv h) (f : Int) (hf : I32 f) : Ct l D_X5_fieldText 0 0 [.inl f] h (Q_X5_fieldText h f) := by
  refine ct_of pn_X5_fieldText (Nat.le_of_ble_eq_true rfl) ?_
  show To l E_X5_fieldText (0, [(0, .inl f)], [], h, 0, 0) _
  refine to_iload_n (dat dk_X5_fieldText 0 rfl) rfl ?_
  refine to_table (d := 65) (ts := [44, 47, 50, 53, 56, 59, 62]) (dat dk_X5_fieldText 1 rfl) rfl rfl rfl hf (fun c1 => ?_) ⟨fun c1 => ?_, fun c1 => ?_, fun c1 => ?_, fun c1 => ?_, fun c1 => ?_, fun c1 => ?_, fun c1 => ?_, trivial⟩
  · skip
    refine to_ldcS (q := 159) (tx := "date:") (List.mem_of_getElem? (i := 29) rfl) (dat dk_X5_fieldText 16 rfl) ?_
    exact to_aret rfl (Or.inl ⟨_, rfl⟩) (dat dk_X5_fieldText 17 rfl) (rr_mk ⟨rfl, ⟨5, (List.mem_of_getElem? (i := 29) rfl), by decide⟩⟩)
  · skip
    refine to_ldcS (q := 145) (tx := "from:") (List.mem_of_getElem? (i := 22) rfl) (dat dk_X5_fieldText 2 rfl) ?_
    exact to_aret rfl (Or.inl ⟨_, rfl⟩) (dat dk_X5_fieldText 3 rfl) (rr_mk ⟨rfl, ⟨5, (List.mem_of_getElem? (i := 22) rfl), by decide⟩⟩)
  · skip
    refine to_ldcS (q := 147) (tx := "to:") (List.mem_of_getElem? (i := 23) rfl) (dat dk_X5_fieldText 4 rfl) ?_
    exact to_aret rfl (Or.inl ⟨_, rfl⟩) (dat dk_X5_fieldText 5 rfl) (rr_mk ⟨rfl, ⟨3, (List.mem_of_getElem? (i := 23) rfl), by decide⟩⟩)
  · skip
    refine to_ldcS (q := 149) (tx := "subject:") (List.mem_of_getElem? (i := 24) rfl) (dat dk_X5_fieldText 6 rfl) ?_
    exact to_aret rfl (Or.inl ⟨_, rfl⟩) (dat dk_X5_fieldText 7 rfl) (rr_mk ⟨rfl, ⟨8, (List.mem_of_getElem? (i := 24) rfl), by decide⟩⟩)
  · skip
    refine to_ldcS (q := 151) (tx := "body:") (List.mem_of_getElem? (i := 25) rfl) (dat dk_X5_fieldText 8 rfl) ?_
    exact to_aret rfl (Or.inl ⟨_, rfl⟩) (dat dk_X5_fieldText 9 rfl) (rr_mk ⟨rfl, ⟨5, (List.mem_of_getElem? (i := 25) rfl), by decide⟩⟩)
  · skip
    refine to_ldcS (q := 153) (tx := "tag:") (List.mem_of_getElem? (i := 26) rfl) (dat dk_X5_fieldText 10 rfl) ?_
    exact to_aret rfl (Or.inl ⟨_, rfl⟩) (dat dk_X5_fieldText 11 rfl) (rr_mk ⟨rfl, ⟨4, (List.mem_of_getElem? (i := 26) rfl), by decide⟩⟩)
  · skip
    refine to_ldcS (q := 155) (tx := "id:") (List.mem_of_getElem? (i := 27) rfl) (dat dk_X5_fieldText 12 rfl) ?_
    exact to_aret rfl (Or.inl ⟨_, rfl⟩) (dat dk_X5_fieldText 13 rfl) (rr_mk ⟨rfl, ⟨3, (List.mem_of_getElem? (i := 27) rfl), by decide⟩⟩)
  · skip
    refine to_ldcS (q := 157) (tx := "thread:") (List.mem_of_getElem? (i := 28) rfl) (dat dk_X5_fieldText 14 rfl) ?_
    exact to_aret rfl (Or.inl ⟨_, rfl⟩) (dat dk_X5_fieldText 15 rfl) (rr_mk ⟨rfl, ⟨7, (List.mem_of_getElem? (i := 28) rfl), by decide⟩⟩)
abbrev Q_X5_restart (h : Hp) : Option V → Hp → Nat → Nat → Prop := RV (fun H => Inv H ∧ Fr [56] h H ∧ (H.2.2 56 2 = 0))
set_option maxRecDepth 100000 in
theorem ct_X5_restart (l : Launch) (h : Hp) (hI : Inv h)  : Ct l D_X5_restart 0 0 [.inr (.inr 56)] h (Q_X5_restart h) := by
  refine ct_of pn_X5_restart (Nat.le_of_ble_eq_true rfl) ?_
  show To l E_X5_restart (0, [(0, .inr (.inr 56))], [], h, 0, 0) _
  obtain ⟨x1, ex1⟩ : ∃ y : Int, h.2.2 56 2 = y := ⟨_, rfl⟩
  have rx1 := hI.atR (a := 56) (j := 2) rfl
  rw [ex1] at rx1
  refine to_aload_n (dat dk_X5_restart 0 rfl) rfl (to_iconst (dat dk_X5_restart 1 rfl) (to_putIw p_c6_15 (dat dk_X5_restart 2 rfl) (hI.atS rfl) ?_))
  intro h4 wh4
  have I2 : Inv h4 := by rw [wh4]; exact hI.put (a := 56) (j := 2) (x := 0) (0) (1202) rfl rfl (show (0 : Int) ≤ 0 ∧ 0 ≤ 1202 by decide)
  have f3 : Fr [56] h h4 := by rw [wh4]; exact Fr.putF (a := 56) (j := 2) (x := 0) (Fr.rf _ _) rfl
  have e5 : h4.2.2 56 2 = (0 : Int) := (by rw [wh4]; exact wr_eq)
  exact to_vret rfl (dat dk_X5_restart 3 rfl) (rv_mk ⟨I2, f3, (show h4.2.2 56 2 = 0 by omega)⟩)
abbrev Q_X5_wordStop (h : Hp) : Option V → Hp → Nat → Nat → Prop := RI (fun x H => h = H ∧ (H.2.2 56 1 ≤ x) ∧ (x = H.2.2 56 1 ∨ x ≤ H.2.2 6 1))
set_option maxRecDepth 100000 in
theorem ct_X5_wordStop (l : Launch) (h : Hp) (hI : Inv h)  : Ct l D_X5_wordStop 2 40 [.inr (.inr 56)] h (Q_X5_wordStop h) := by
  refine ct_of pn_X5_wordStop (Nat.le_of_ble_eq_true rfl) ?_
  show To l E_X5_wordStop (0, [(0, .inr (.inr 56))], [], h, 0, 0) _
  refine to_aload_n (dat dk_X5_wordStop 0 rfl) rfl ?_
  obtain ⟨x1, ex1⟩ : ∃ y : Int, h.2.2 56 1 = y := ⟨_, rfl⟩
  have rx1 := hI.atR (a := 56) (j := 1) rfl
  rw [ex1] at rx1
  refine to_getIv (y := x1) ex1 g_c6_29 (dat dk_X5_wordStop 1 rfl) (hI.atS rfl) (to_istore_n (L' := [(0, .inr (.inr 56)), (1, .inl x1)]) (dat dk_X5_wordStop 2 rfl) (by decide) rfl ?_)
  have lp5_n5 : ∀ (n5 : Nat) (y2 : Int), (I32 y2) → (h.2.2 56 1 ≤ y2) → (y2 = h.2.2 56 1 ∨ y2 ≤ h.2.2 6 1) → (h.2.2 6 1 - y2 ≤ (n5 : Int)) → To l E_X5_wordStop (5, [(0, .inr (.inr 56)), (1, .inl y2)], [], h, 0, 0) (Q_X5_wordStop h) := by
    intro n5
    induction n5 using Nat.strongRecOn with
    | _ n5 ihn5 =>
    intro y2 ry2 c3 c4 c6
    refine to_iload_n (dat dk_X5_wordStop 3 rfl) rfl (to_aload_n (dat dk_X5_wordStop 4 rfl) rfl (to_getR 6 g_c6_9 (dat dk_X5_wordStop 5 rfl) (hI.atS rfl) (hI.atE rfl) ?_))
    obtain ⟨x7, ex7⟩ : ∃ y : Int, h.2.2 6 1 = y := ⟨_, rfl⟩
    have rx7 := hI.atR (a := 6) (j := 1) rfl
    rw [ex7] at rx7
    refine to_cI ca_c6_19 (dat dk_X5_wordStop 6 rfl) (ct_X1_size l h hI 6 rfl) rfl ⟨_, _, rfl, (hI.atS rfl)⟩ rfl (fun x8 h9 rx8 p10 => ?_)
    obtain ⟨rfl, p10_0⟩ := p10
    refine to_ige 36 (dat dk_X5_wordStop 7 rfl) rfl ry2 rx8 (fun c11 => ?_) (fun c11 => ?_)
    · skip
      refine to_iload_n (dat dk_X5_wordStop 16 rfl) rfl ?_
      exact to_iret rfl (dat dk_X5_wordStop 17 rfl) (ri_mk ry2 ⟨rfl, (show h.2.2 56 1 ≤ y2 by omega), (show y2 = h.2.2 56 1 ∨ y2 ≤ h.2.2 6 1 by omega)⟩)
    · skip
      refine to_aload_n (dat dk_X5_wordStop 8 rfl) rfl (to_getR 6 g_c6_9 (dat dk_X5_wordStop 9 rfl) (hI.atS rfl) (hI.atE rfl) (to_iload_n (dat dk_X5_wordStop 10 rfl) rfl ?_))
      refine to_cI ca_c6_32 (dat dk_X5_wordStop 11 rfl) (ct_X1_byteAt l h hI 6 rfl y2 ry2) rfl ⟨_, _, rfl, (hI.atS rfl)⟩ rfl (fun x12 h13 rx12 p14 => ?_)
      obtain ⟨rfl, p14_0⟩ := p14
      refine to_cI ca_c6_82 (dat dk_X5_wordStop 12 rfl) (ct_X5_isSign l h hI x12 rx12) rfl trivial rfl (fun x15 h16 rx15 p17 => ?_)
      obtain ⟨rfl, zx15⟩ := p17
      refine to_ifne 36 (dat dk_X5_wordStop 13 rfl) rfl rx15 (fun c18 => ?_) (fun c18 => ?_)
      · skip
        refine to_iload_n (dat dk_X5_wordStop 16 rfl) rfl ?_
        exact to_iret rfl (dat dk_X5_wordStop 17 rfl) (ri_mk ry2 ⟨rfl, (show h.2.2 56 1 ≤ y2 by omega), (show y2 = h.2.2 56 1 ∨ y2 ≤ h.2.2 6 1 by omega)⟩)
      · skip
        refine to_iinc (L' := [(0, .inr (.inr 56)), (1, .inl (y2 + 1))]) (dat dk_X5_wordStop 14 rfl) rfl (by decide) rfl (to_goto (dat dk_X5_wordStop 15 rfl) rfl ?_)
        exact ihn5 (n5 - 1) (by omega) (y2 + 1) (by omega) (show h.2.2 56 1 ≤ (y2 + 1) by omega) (show (y2 + 1) = h.2.2 56 1 ∨ (y2 + 1) ≤ h.2.2 6 1 by omega) (show h.2.2 6 1 - (y2 + 1) ≤ ((n5 - 1 : Nat) : Int) by omega)
  exact lp5_n5 (h.2.2 6 1 - x1).toNat x1 (by omega) (show h.2.2 56 1 ≤ x1 by omega) (show x1 = h.2.2 56 1 ∨ x1 ≤ h.2.2 6 1 by omega) (by omega)
abbrev Q_X5_readPhrase (h : Hp) (p : Int) : Option V → Hp → Nat → Nat → Prop := RI (fun x H => Inv H ∧ Fr [56] h H ∧ (6 ≤ x ∧ x ≤ 7) ∧ (H.2.2 56 2 ≤ H.2.2 6 1))
set_option maxRecDepth 100000 in
theorem ct_X5_readPhrase (l : Launch) (h : Hp) (hI : Inv h) (p : Int) (hp : I32 p) (g0 : 0 ≤ p ∧ p ≤ 1201) (g1 : h.2.2 56 2 ≤ h.2.2 6 1) : Ct l D_X5_readPhrase 2 45 [.inr (.inr 56), .inl p] h (Q_X5_readPhrase h p) := by
  refine ct_of pn_X5_readPhrase (Nat.le_of_ble_eq_true rfl) ?_
  show To l E_X5_readPhrase (0, [(0, .inr (.inr 56)), (1, .inl p)], [], h, 0, 0) _
  obtain ⟨x1, ex1⟩ : ∃ y : Int, h.2.2 56 2 = y := ⟨_, rfl⟩
  have rx1 := hI.atR (a := 56) (j := 2) rfl
  rw [ex1] at rx1
  obtain ⟨x2, ex2⟩ : ∃ y : Int, h.2.2 6 1 = y := ⟨_, rfl⟩
  have rx2 := hI.atR (a := 6) (j := 1) rfl
  rw [ex2] at rx2
  refine to_aload_n (dat dk_X5_readPhrase 0 rfl) rfl (to_getR 6 g_c6_9 (dat dk_X5_readPhrase 1 rfl) (hI.atS rfl) (hI.atE rfl) (to_bipush (dat dk_X5_readPhrase 2 rfl) (by decide) (to_iload_n (dat dk_X5_readPhrase 3 rfl) rfl (to_iconst (dat dk_X5_readPhrase 4 rfl) (to_iadd (dat dk_X5_readPhrase 5 rfl) (to_aload_n (dat dk_X5_readPhrase 6 rfl) rfl (to_getR 6 g_c6_9 (dat dk_X5_readPhrase 7 rfl) (hI.atS rfl) (hI.atE rfl) ?_)))))))
  refine to_cI ca_c6_19 (dat dk_X5_readPhrase 8 rfl) (ct_X1_size l h hI 6 rfl) rfl ⟨_, _, rfl, (hI.atS rfl)⟩ rfl (fun x3 h4 rx3 p5 => ?_)
  obtain ⟨rfl, p5_0⟩ := p5
  refine to_cI ca_c6_49 (dat dk_X5_readPhrase 9 rfl) (ct_X1_seek l h hI 6 rfl 34 (by decide) (p + 1) (by omega) x3 rx3) rfl ⟨_, _, rfl, (hI.atS rfl)⟩ rfl (fun x6 h7 rx6 p8 => ?_)
  obtain ⟨rfl, p8_0⟩ := p8
  refine to_istore_n (L' := [(0, .inr (.inr 56)), (1, .inl p), (2, .inl x6)]) (dat dk_X5_readPhrase 10 rfl) (by decide) rfl (to_iload_n (dat dk_X5_readPhrase 11 rfl) rfl (to_iconst (dat dk_X5_readPhrase 12 rfl) ?_))
  refine to_ine 28 (dat dk_X5_readPhrase 13 rfl) rfl rx6 (by decide) (fun c9 => ?_) (fun c9 => ?_)
  · skip
    refine to_aload_n (dat dk_X5_readPhrase 16 rfl) rfl (to_iconst (dat dk_X5_readPhrase 17 rfl) (to_putZw p_c6_39 (dat dk_X5_readPhrase 18 rfl) (hI.atS rfl) (by decide) ?_))
    intro h12 wh12
    have I10 : Inv h12 := by rw [wh12]; exact hI.put (a := 56) (j := 6) (x := 1) (0) (1) rfl rfl (show (0 : Int) ≤ 1 ∧ 1 ≤ 1 by decide)
    have f11 : Fr [56] h h12 := by rw [wh12]; exact Fr.putF (a := 56) (j := 6) (x := 1) (Fr.rf _ _) rfl
    refine to_aload_n (dat dk_X5_readPhrase 19 rfl) rfl (to_iload_n (dat dk_X5_readPhrase 20 rfl) rfl (to_iconst (dat dk_X5_readPhrase 21 rfl) (to_iadd (dat dk_X5_readPhrase 22 rfl) (to_putIw p_c6_53 (dat dk_X5_readPhrase 23 rfl) (I10.atS rfl) ?_))))
    intro h15 wh15
    have I13 : Inv h15 := by rw [wh15]; exact I10.put (a := 56) (j := 4) (x := (p + 1)) (0) (1210) rfl rfl (show (0 : Int) ≤ (p + 1) ∧ (p + 1) ≤ 1210 by omega)
    have f14 : Fr [56] h h15 := by rw [wh15]; exact Fr.putF (a := 56) (j := 4) (x := (p + 1)) f11 rfl
    refine to_aload_n (dat dk_X5_readPhrase 24 rfl) rfl (to_iload_n (dat dk_X5_readPhrase 25 rfl) rfl (to_putIw p_c6_56 (dat dk_X5_readPhrase 26 rfl) (I13.atS rfl) ?_))
    intro h18 wh18
    have I16 : Inv h18 := by rw [wh18]; exact I13.put (a := 56) (j := 5) (x := x6) (0) (1201) rfl rfl (show (0 : Int) ≤ x6 ∧ x6 ≤ 1201 by omega)
    have f17 : Fr [56] h h18 := by rw [wh18]; exact Fr.putF (a := 56) (j := 5) (x := x6) f14 rfl
    refine to_aload_n (dat dk_X5_readPhrase 27 rfl) rfl (to_iload_n (dat dk_X5_readPhrase 28 rfl) rfl (to_iconst (dat dk_X5_readPhrase 29 rfl) (to_iadd (dat dk_X5_readPhrase 30 rfl) (to_putIw p_c6_15 (dat dk_X5_readPhrase 31 rfl) (I16.atS rfl) ?_))))
    intro h21 wh21
    have I19 : Inv h21 := by rw [wh21]; exact I16.put (a := 56) (j := 2) (x := (x6 + 1)) (0) (1202) rfl rfl (show (0 : Int) ≤ (x6 + 1) ∧ (x6 + 1) ≤ 1202 by omega)
    have f20 : Fr [56] h h21 := by rw [wh21]; exact Fr.putF (a := 56) (j := 2) (x := (x6 + 1)) f17 rfl
    refine to_bipush (dat dk_X5_readPhrase 32 rfl) (by decide) ?_
    have e22 : h21.2.2 56 2 = (x6 + 1) := (by rw [wh21]; exact wr_eq)
    have e23 : h21.2.2 6 1 = x2 := (by rw [wh21]; exact (show h18.2.2 6 1 = x2 from (by rw [wh18]; exact (show h15.2.2 6 1 = x2 from (by rw [wh15]; exact (show h12.2.2 6 1 = x2 from (by rw [wh12]; exact ex2)))))))
    exact to_iret rfl (dat dk_X5_readPhrase 33 rfl) (ri_mk (by decide) ⟨I19, f20, (show 6 ≤ (6 : Int) ∧ (6 : Int) ≤ 7 by omega), (show h21.2.2 56 2 ≤ h21.2.2 6 1 by omega)⟩)
  · skip
    refine to_bipush (dat dk_X5_readPhrase 14 rfl) (by decide) ?_
    exact to_iret rfl (dat dk_X5_readPhrase 15 rfl) (ri_mk (by decide) ⟨hI, (Fr.rf _ _), (show 6 ≤ (7 : Int) ∧ (7 : Int) ≤ 7 by omega), (show h.2.2 56 2 ≤ h.2.2 6 1 by omega)⟩)
abbrev Q_X5_readField (h : Hp) : Option V → Hp → Nat → Nat → Prop := RV (fun H => Inv H ∧ Fr [56] h H ∧ (H.2.2 56 2 = h.2.2 56 2))
set_option maxRecDepth 100000 in
theorem ct_X5_readField (l : Launch) (h : Hp) (hI : Inv h) (g0 : h.2.2 56 1 ≤ h.2.2 6 1) : Ct l D_X5_readField 6 131 [.inr (.inr 56)] h (Q_X5_readField h) := by
  refine ct_of pn_X5_readField (Nat.le_of_ble_eq_true rfl) ?_
  show To l E_X5_readField (0, [(0, .inr (.inr 56))], [], h, 0, 0) _
  obtain ⟨x1, ex1⟩ : ∃ y : Int, h.2.2 56 2 = y := ⟨_, rfl⟩
  have rx1 := hI.atR (a := 56) (j := 2) rfl
  rw [ex1] at rx1
  obtain ⟨x2, ex2⟩ : ∃ y : Int, h.2.2 56 1 = y := ⟨_, rfl⟩
  have rx2 := hI.atR (a := 56) (j := 1) rfl
  rw [ex2] at rx2
  obtain ⟨x3, ex3⟩ : ∃ y : Int, h.2.2 6 1 = y := ⟨_, rfl⟩
  have rx3 := hI.atR (a := 6) (j := 1) rfl
  rw [ex3] at rx3
  refine to_aload_n (dat dk_X5_readField 0 rfl) rfl (to_aload_n (dat dk_X5_readField 1 rfl) rfl (to_getIv (y := x2) ex2 g_c6_29 (dat dk_X5_readField 2 rfl) (hI.atS rfl) (to_putIw p_c6_53 (dat dk_X5_readField 3 rfl) (hI.atS rfl) ?_)))
  intro h6 wh6
  have I4 : Inv h6 := by rw [wh6]; exact hI.put (a := 56) (j := 4) (x := x2) (0) (1210) rfl rfl (show (0 : Int) ≤ x2 ∧ x2 ≤ 1210 by omega)
  have f5 : Fr [56] h h6 := by rw [wh6]; exact Fr.putF (a := 56) (j := 4) (x := x2) (Fr.rf _ _) rfl
  refine to_iconst (dat dk_X5_readField 4 rfl) (to_istore_n (L' := [(0, .inr (.inr 56)), (1, .inl 0)]) (dat dk_X5_readField 5 rfl) (by decide) rfl ?_)
  have e9 : h6.2.2 56 2 = x1 := (by rw [wh6]; exact ex1)
  have e11 : h6.2.2 56 1 = x2 := (by rw [wh6]; exact ex2)
  have lp10_n13 : ∀ (n13 : Nat) (y7 : Int), (I32 y7) → (0 ≤ y7) → (h6.2.2 56 2 = h.2.2 56 2) → (h6.2.2 56 1 = h.2.2 56 1) → (8 - y7 ≤ (n13 : Int)) → To l E_X5_readField (10, [(0, .inr (.inr 56)), (1, .inl y7)], [], h6, 0, 0) (Q_X5_readField h) := by
    intro n13
    induction n13 using Nat.strongRecOn with
    | _ n13 ihn13 =>
    intro y7 ry7 c8 c10 c12 c14
    refine to_iload_n (dat dk_X5_readField 6 rfl) rfl (to_bipush (dat dk_X5_readField 7 rfl) (by decide) ?_)
    refine to_ige 62 (dat dk_X5_readField 8 rfl) rfl ry7 (by decide) (fun c15 => ?_) (fun c15 => ?_)
    · skip
      have e16 : h6.2.2 56 2 = x1 := (by rw [wh6]; exact ex1)
      exact to_vret rfl (dat dk_X5_readField 33 rfl) (rv_mk ⟨I4, f5, (show h6.2.2 56 2 = h.2.2 56 2 by omega)⟩)
    · skip
      refine to_iload_n (dat dk_X5_readField 9 rfl) rfl ?_
      refine to_cR ca_c6_91 (dat dk_X5_readField 10 rfl) (ct_X5_fieldText l h6 I4 y7 ry7) rfl trivial rfl (fun x17 h18 p19 => ?_)
      obtain ⟨rfl, p19_0⟩ := p19
      obtain ⟨nx17, mx17, bx17⟩ := p19_0
      have lx17 := str_n mx17
      refine to_astore_n (L' := [(0, .inr (.inr 56)), (1, .inl y7), (2, .inr (.inr x17))]) (dat dk_X5_readField 11 rfl) (str_pos mx17) (by decide) rfl (to_aload_n (dat dk_X5_readField 12 rfl) rfl (to_getR 6 g_c6_9 (dat dk_X5_readField 13 rfl) (I4.atS rfl) (I4.atE rfl) (to_aload_n (dat dk_X5_readField 14 rfl) rfl (to_getIv (y := x2) (by rw [wh6]; exact ex2) g_c6_29 (dat dk_X5_readField 15 rfl) (I4.atS rfl) (to_aload_np (dat dk_X5_readField 16 rfl) (str_pos mx17) rfl (to_iconst (dat dk_X5_readField 17 rfl) ?_))))))
      refine to_cI ca_c6_95 (dat dk_X5_readField 18 rfl) (ct_X1_hasAt l h6 I4 6 rfl x2 (by omega) x17 nx17 mx17 0 (by decide)) rfl ⟨_, _, rfl, (I4.atS rfl)⟩ rfl (fun x20 h21 rx20 p22 => ?_)
      obtain ⟨rfl, zx20⟩ := p22
      refine to_ifeq 56 (dat dk_X5_readField 19 rfl) rfl rx20 (fun c23 => ?_) (fun c23 => ?_)
      · skip
        refine to_iinc (L' := [(0, .inr (.inr 56)), (1, .inl (y7 + 1)), (2, .inr (.inr x17))]) (dat dk_X5_readField 31 rfl) rfl (by decide) rfl (to_goto (dat dk_X5_readField 32 rfl) rfl ?_)
        refine to_pick [0, 1] rfl ?_
        have e24 : h6.2.2 56 2 = x1 := (by rw [wh6]; exact ex1)
        have e25 : h6.2.2 56 1 = x2 := (by rw [wh6]; exact ex2)
        exact ihn13 (n13 - 1) (by omega) (y7 + 1) (by omega) (show 0 ≤ (y7 + 1) by omega) (show h6.2.2 56 2 = h.2.2 56 2 by omega) (show h6.2.2 56 1 = h.2.2 56 1 by omega) (show 8 - (y7 + 1) ≤ ((n13 - 1 : Nat) : Int) by omega)
      · skip
        refine to_aload_n (dat dk_X5_readField 20 rfl) rfl (to_iload_n (dat dk_X5_readField 21 rfl) rfl (to_putIw p_c6_36 (dat dk_X5_readField 22 rfl) (I4.atS rfl) ?_))
        intro h28 wh28
        have I26 : Inv h28 := by rw [wh28]; exact I4.put (a := 56) (j := 3) (x := y7) (0) (8) rfl rfl (show (0 : Int) ≤ y7 ∧ y7 ≤ 8 by omega)
        have f27 : Fr [56] h h28 := by rw [wh28]; exact Fr.putF (a := 56) (j := 3) (x := y7) f5 rfl
        refine to_aload_n (dat dk_X5_readField 23 rfl) rfl (to_aload_n (dat dk_X5_readField 24 rfl) rfl (to_getIv (y := x2) (by rw [wh28]; exact (show h6.2.2 56 1 = x2 from (by rw [wh6]; exact ex2))) g_c6_29 (dat dk_X5_readField 25 rfl) (I26.atS rfl) (to_aload_np (dat dk_X5_readField 26 rfl) (str_pos mx17) rfl ?_)))
        refine to_cI ca_c6_99 (dat dk_X5_readField 27 rfl) (ct_J0_length_8abf5 l h28 I26 x17 nx17 mx17) rfl (recvS mx17) rfl (fun x29 h30 rx29 p31 => ?_)
        obtain ⟨rfl, p31_0⟩ := p31
        refine to_iadd (dat dk_X5_readField 28 rfl) (to_putIw p_c6_53 (dat dk_X5_readField 29 rfl) (I26.atS rfl) ?_)
        intro h34 wh34
        have I32 : Inv h34 := by rw [wh34]; exact I26.put (a := 56) (j := 4) (x := (x2 + x29)) (0) (1210) rfl rfl (show (0 : Int) ≤ (x2 + x29) ∧ (x2 + x29) ≤ 1210 by omega)
        have f33 : Fr [56] h h34 := by rw [wh34]; exact Fr.putF (a := 56) (j := 4) (x := (x2 + x29)) f27 rfl
        have e35 : h34.2.2 56 2 = x1 := (by rw [wh34]; exact (show h28.2.2 56 2 = x1 from (by rw [wh28]; exact (show h6.2.2 56 2 = x1 from (by rw [wh6]; exact ex1)))))
        exact to_vret rfl (dat dk_X5_readField 30 rfl) (rv_mk ⟨I32, f33, (show h34.2.2 56 2 = h.2.2 56 2 by omega)⟩)
  exact lp10_n13 (8 - (0 : Int)).toNat 0 (by decide) (show 0 ≤ (0 : Int) by omega) (show h6.2.2 56 2 = h.2.2 56 2 by omega) (show h6.2.2 56 1 = h.2.2 56 1 by omega) (by omega)
abbrev Q_X5_readDays (h : Hp) : Option V → Hp → Nat → Nat → Prop := RI (fun x H => Inv H ∧ Fr [56] h H ∧ (x = 0 ∨ x = 1) ∧ (H.2.2 56 2 = h.2.2 56 2))
set_option maxRecDepth 100000 in
theorem ct_X5_readDays (l : Launch) (h : Hp) (hI : Inv h)  : Ct l D_X5_readDays 6 131 [.inr (.inr 56)] h (Q_X5_readDays h) := by
  refine ct_of pn_X5_readDays (Nat.le_of_ble_eq_true rfl) ?_
  show To l E_X5_readDays (0, [(0, .inr (.inr 56))], [], h, 0, 0) _
  obtain ⟨x1, ex1⟩ : ∃ y : Int, h.2.2 56 2 = y := ⟨_, rfl⟩
  have rx1 := hI.atR (a := 56) (j := 2) rfl
  rw [ex1] at rx1
  have jn36_n3 : ∀ (y2 : Int), (y2 = 0 ∨ y2 = 1) → To l E_X5_readDays (36, [(0, .inr (.inr 56))], [.inl y2], h, 0, 0) (Q_X5_readDays h) := by
    intro y2 ry2
    refine to_istore_n (L' := [(0, .inr (.inr 56)), (1, .inl y2)]) (dat dk_X5_readDays 18 rfl) (by decide) rfl ?_
    have jn80_n5 : ∀ (y4 : Int), (y4 = 0 ∨ y4 = 1) → To l E_X5_readDays (80, [(0, .inr (.inr 56)), (1, .inl y2)], [.inl y4], h, 0, 0) (Q_X5_readDays h) := by
      intro y4 ry4
      refine to_istore_n (L' := [(0, .inr (.inr 56)), (1, .inl y2), (2, .inl y4)]) (dat dk_X5_readDays 41 rfl) (by decide) rfl ?_
      have jn120_n7 : ∀ (y6 : Int), (y6 = 0 ∨ y6 = 1) → To l E_X5_readDays (120, [(0, .inr (.inr 56)), (1, .inl y2), (2, .inl y4)], [.inl y6], h, 0, 0) (Q_X5_readDays h) := by
        intro y6 ry6
        refine to_istore_n (L' := [(0, .inr (.inr 56)), (1, .inl y2), (2, .inl y4), (3, .inl y6)]) (dat dk_X5_readDays 62 rfl) (by decide) rfl ?_
        have jn135_n8 : To l E_X5_readDays (135, [(0, .inr (.inr 56)), (1, .inl y2), (2, .inl y4), (3, .inl y6)], [], h, 0, 0) (Q_X5_readDays h) := by
          skip
          refine to_aload_n (dat dk_X5_readDays 71 rfl) rfl ?_
          have jn156_n10 : ∀ (y9 : Int), (I32 y9) → To l E_X5_readDays (156, [(0, .inr (.inr 56)), (1, .inl y2), (2, .inl y4), (3, .inl y6)], [.inl y9, .inr (.inr 56)], h, 0, 0) (Q_X5_readDays h) := by
            intro y9 ry9
            refine to_putIw p_c6_113 (dat dk_X5_readDays 81 rfl) (hI.atS rfl) ?_
            intro h13 wh13
            have I11 : Inv h13 := by rw [wh13]; exact hI.put (a := 56) (j := 7) (x := y9) (-2147483648) (2147483647) rfl rfl (show (-2147483648 : Int) ≤ y9 ∧ y9 ≤ 2147483647 by omega)
            have f12 : Fr [56] h h13 := by rw [wh13]; exact Fr.putF (a := 56) (j := 7) (x := y9) (Fr.rf _ _) rfl
            refine to_aload_n (dat dk_X5_readDays 82 rfl) rfl ?_
            have jn183_n15 : ∀ (y14 : Int), (I32 y14) → To l E_X5_readDays (183, [(0, .inr (.inr 56)), (1, .inl y2), (2, .inl y4), (3, .inl y6)], [.inl y14, .inr (.inr 56)], h13, 0, 0) (Q_X5_readDays h) := by
              intro y14 ry14
              refine to_putIw p_c6_117 (dat dk_X5_readDays 94 rfl) (I11.atS rfl) ?_
              intro h18 wh18
              have I16 : Inv h18 := by rw [wh18]; exact I11.put (a := 56) (j := 8) (x := y14) (-2147483648) (2147483647) rfl rfl (show (-2147483648 : Int) ≤ y14 ∧ y14 ≤ 2147483647 by omega)
              have f17 : Fr [56] h h18 := by rw [wh18]; exact Fr.putF (a := 56) (j := 8) (x := y14) f12 rfl
              refine to_aload_n (dat dk_X5_readDays 95 rfl) rfl (to_getIv (y := y9) (by rw [wh18]; exact (show h13.2.2 56 7 = y9 from (by rw [wh13]; exact wr_eq))) g_c6_113 (dat dk_X5_readDays 96 rfl) (I16.atS rfl) (to_ldc (v := (-1000000)) (x := -1000000) (tin 6 76 (by decide +kernel) rfl) (by decide +kernel) (dat dk_X5_readDays 97 rfl) ?_))
              refine to_ieq 208 (dat dk_X5_readDays 98 rfl) rfl ry9 (by decide) (fun c19 => ?_) (fun c19 => ?_)
              · skip
                refine to_iconst (dat dk_X5_readDays 105 rfl) ?_
                have e20 : h18.2.2 56 2 = x1 := (by rw [wh18]; exact (show h13.2.2 56 2 = x1 from (by rw [wh13]; exact ex1)))
                exact to_zret rfl (dat dk_X5_readDays 106 rfl) (by decide) (ri_mk (by decide) ⟨I16, f17, (by decide), (show h18.2.2 56 2 = h.2.2 56 2 by omega)⟩)
              · skip
                refine to_aload_n (dat dk_X5_readDays 99 rfl) rfl (to_getIv (y := y14) (by rw [wh18]; exact wr_eq) g_c6_117 (dat dk_X5_readDays 100 rfl) (I16.atS rfl) (to_ldc (v := (-1000000)) (x := -1000000) (tin 6 76 (by decide +kernel) rfl) (by decide +kernel) (dat dk_X5_readDays 101 rfl) ?_))
                refine to_ieq 208 (dat dk_X5_readDays 102 rfl) rfl ry14 (by decide) (fun c21 => ?_) (fun c21 => ?_)
                · skip
                  refine to_iconst (dat dk_X5_readDays 105 rfl) ?_
                  have e22 : h18.2.2 56 2 = x1 := (by rw [wh18]; exact (show h13.2.2 56 2 = x1 from (by rw [wh13]; exact ex1)))
                  exact to_zret rfl (dat dk_X5_readDays 106 rfl) (by decide) (ri_mk (by decide) ⟨I16, f17, (by decide), (show h18.2.2 56 2 = h.2.2 56 2 by omega)⟩)
                · skip
                  refine to_iconst (dat dk_X5_readDays 103 rfl) (to_goto (dat dk_X5_readDays 104 rfl) rfl ?_)
                  have e23 : h18.2.2 56 2 = x1 := (by rw [wh18]; exact (show h13.2.2 56 2 = x1 from (by rw [wh13]; exact ex1)))
                  exact to_zret rfl (dat dk_X5_readDays 106 rfl) (by decide) (ri_mk (by decide) ⟨I16, f17, (by decide), (show h18.2.2 56 2 = h.2.2 56 2 by omega)⟩)
            refine to_iload_n (dat dk_X5_readDays 83 rfl) rfl ?_
            refine to_ifeq 169 (dat dk_X5_readDays 84 rfl) rfl (by omega) (fun c24 => ?_) (fun c24 => ?_)
            · skip
              refine to_aload_n (dat dk_X5_readDays 87 rfl) rfl (to_getR 6 g_c6_9 (dat dk_X5_readDays 88 rfl) (I11.atS rfl) (I11.atE rfl) (to_aload_n (dat dk_X5_readDays 89 rfl) rfl ?_))
              obtain ⟨x25, ex25⟩ : ∃ y : Int, h13.2.2 56 5 = y := ⟨_, rfl⟩
              have rx25 := I11.atR (a := 56) (j := 5) rfl
              rw [ex25] at rx25
              refine to_getIv (y := x25) ex25 g_c6_56 (dat dk_X5_readDays 90 rfl) (I11.atS rfl) (to_bipush (dat dk_X5_readDays 91 rfl) (by decide) ?_)
              refine to_isubA (dat dk_X5_readDays 92 rfl) (fun x26 rx26 => ?_)
              refine to_cI ca_c6_109 (dat dk_X5_readDays 93 rfl) (ct_X3_dayAt l h13 I11 6 rfl x26 rx26) rfl trivial rfl (fun x27 h28 rx27 p29 => ?_)
              subst p29
              exact jn183_n15 x27 rx27
            · skip
              refine to_ldc (v := 9999999) (x := 9999999) (tin 6 75 (by decide +kernel) rfl) (by decide +kernel) (dat dk_X5_readDays 85 rfl) (to_goto (dat dk_X5_readDays 86 rfl) rfl ?_)
              exact jn183_n15 9999999 (by decide)
          refine to_iload_n (dat dk_X5_readDays 72 rfl) rfl ?_
          refine to_ifeq 145 (dat dk_X5_readDays 73 rfl) rfl (by omega) (fun c30 => ?_) (fun c30 => ?_)
          · skip
            refine to_aload_n (dat dk_X5_readDays 76 rfl) rfl (to_getR 6 g_c6_9 (dat dk_X5_readDays 77 rfl) (hI.atS rfl) (hI.atE rfl) (to_aload_n (dat dk_X5_readDays 78 rfl) rfl ?_))
            obtain ⟨x31, ex31⟩ : ∃ y : Int, h.2.2 56 4 = y := ⟨_, rfl⟩
            have rx31 := hI.atR (a := 56) (j := 4) rfl
            rw [ex31] at rx31
            refine to_getIv (y := x31) ex31 g_c6_53 (dat dk_X5_readDays 79 rfl) (hI.atS rfl) ?_
            refine to_cI ca_c6_109 (dat dk_X5_readDays 80 rfl) (ct_X3_dayAt l h hI 6 rfl x31 (by omega)) rfl trivial rfl (fun x32 h33 rx32 p34 => ?_)
            subst p34
            exact jn156_n10 x32 rx32
          · skip
            refine to_ldc (v := (-999999)) (x := -999999) (tin 6 71 (by decide +kernel) rfl) (by decide +kernel) (dat dk_X5_readDays 74 rfl) (to_goto (dat dk_X5_readDays 75 rfl) rfl ?_)
            exact jn156_n10 (-999999) (by decide)
        refine to_iload_n (dat dk_X5_readDays 63 rfl) rfl ?_
        refine to_ifne 135 (dat dk_X5_readDays 64 rfl) rfl (by omega) (fun c35 => ?_) (fun c35 => ?_)
        · skip
          exact jn135_n8  
        · skip
          refine to_iload_n (dat dk_X5_readDays 65 rfl) rfl ?_
          refine to_ifne 135 (dat dk_X5_readDays 66 rfl) rfl (by omega) (fun c36 => ?_) (fun c36 => ?_)
          · skip
            exact jn135_n8  
          · skip
            refine to_iload_n (dat dk_X5_readDays 67 rfl) rfl ?_
            refine to_ifne 135 (dat dk_X5_readDays 68 rfl) rfl (by omega) (fun c37 => ?_) (fun c37 => ?_)
            · skip
              exact jn135_n8  
            · skip
              refine to_iconst (dat dk_X5_readDays 69 rfl) ?_
              exact to_zret rfl (dat dk_X5_readDays 70 rfl) (by decide) (ri_mk (by decide) ⟨hI, (Fr.rf _ _), (by decide), (show h.2.2 56 2 = h.2.2 56 2 by omega)⟩)
      refine to_aload_n (dat dk_X5_readDays 42 rfl) rfl ?_
      obtain ⟨x38, ex38⟩ : ∃ y : Int, h.2.2 56 5 = y := ⟨_, rfl⟩
      have rx38 := hI.atR (a := 56) (j := 5) rfl
      rw [ex38] at rx38
      refine to_getIv (y := x38) ex38 g_c6_56 (dat dk_X5_readDays 43 rfl) (hI.atS rfl) (to_aload_n (dat dk_X5_readDays 44 rfl) rfl ?_)
      obtain ⟨x39, ex39⟩ : ∃ y : Int, h.2.2 56 4 = y := ⟨_, rfl⟩
      have rx39 := hI.atR (a := 56) (j := 4) rfl
      rw [ex39] at rx39
      refine to_getIv (y := x39) ex39 g_c6_53 (dat dk_X5_readDays 45 rfl) (hI.atS rfl) ?_
      refine to_isubA (dat dk_X5_readDays 46 rfl) (fun x40 rx40 => ?_)
      refine to_bipush (dat dk_X5_readDays 47 rfl) (by decide) ?_
      refine to_ine 119 (dat dk_X5_readDays 48 rfl) rfl rx40 (by decide) (fun c41 => ?_) (fun c41 => ?_)
      · skip
        refine to_iconst (dat dk_X5_readDays 61 rfl) ?_
        exact jn120_n7 0 (by decide)
      · skip
        refine to_aload_n (dat dk_X5_readDays 49 rfl) rfl (to_getR 6 g_c6_9 (dat dk_X5_readDays 50 rfl) (hI.atS rfl) (hI.atE rfl) (to_aload_n (dat dk_X5_readDays 51 rfl) rfl (to_getIv (y := x39) ex39 g_c6_53 (dat dk_X5_readDays 52 rfl) (hI.atS rfl) (to_bipush (dat dk_X5_readDays 53 rfl) (by decide) ?_))))
        refine to_iaddA (dat dk_X5_readDays 54 rfl) (fun x42 rx42 => ?_)
        refine to_ldcS (q := 143) (tx := "..") (List.mem_of_getElem? (i := 21) rfl) (dat dk_X5_readDays 55 rfl) (to_iconst (dat dk_X5_readDays 56 rfl) ?_)
        refine to_cI ca_c6_95 (dat dk_X5_readDays 57 rfl) (ct_X1_hasAt l h hI 6 rfl x42 rx42 1000143 2 (List.mem_of_getElem? (i := 21) rfl) 0 (by decide)) rfl ⟨_, _, rfl, (hI.atS rfl)⟩ rfl (fun x43 h44 rx43 p45 => ?_)
        obtain ⟨rfl, zx43⟩ := p45
        refine to_ifeq 119 (dat dk_X5_readDays 58 rfl) rfl rx43 (fun c46 => ?_) (fun c46 => ?_)
        · skip
          refine to_iconst (dat dk_X5_readDays 61 rfl) ?_
          exact jn120_n7 0 (by decide)
        · skip
          refine to_iconst (dat dk_X5_readDays 59 rfl) (to_goto (dat dk_X5_readDays 60 rfl) rfl ?_)
          exact jn120_n7 1 (by decide)
    refine to_aload_n (dat dk_X5_readDays 19 rfl) rfl ?_
    obtain ⟨x47, ex47⟩ : ∃ y : Int, h.2.2 56 5 = y := ⟨_, rfl⟩
    have rx47 := hI.atR (a := 56) (j := 5) rfl
    rw [ex47] at rx47
    refine to_getIv (y := x47) ex47 g_c6_56 (dat dk_X5_readDays 20 rfl) (hI.atS rfl) (to_aload_n (dat dk_X5_readDays 21 rfl) rfl ?_)
    obtain ⟨x48, ex48⟩ : ∃ y : Int, h.2.2 56 4 = y := ⟨_, rfl⟩
    have rx48 := hI.atR (a := 56) (j := 4) rfl
    rw [ex48] at rx48
    refine to_getIv (y := x48) ex48 g_c6_53 (dat dk_X5_readDays 22 rfl) (hI.atS rfl) ?_
    refine to_isubA (dat dk_X5_readDays 23 rfl) (fun x49 rx49 => ?_)
    refine to_bipush (dat dk_X5_readDays 24 rfl) (by decide) ?_
    refine to_ine 79 (dat dk_X5_readDays 25 rfl) rfl rx49 (by decide) (fun c50 => ?_) (fun c50 => ?_)
    · skip
      refine to_iconst (dat dk_X5_readDays 40 rfl) ?_
      exact jn80_n5 0 (by decide)
    · skip
      refine to_iload_n (dat dk_X5_readDays 26 rfl) rfl ?_
      refine to_ifne 79 (dat dk_X5_readDays 27 rfl) rfl (by omega) (fun c51 => ?_) (fun c51 => ?_)
      · skip
        refine to_iconst (dat dk_X5_readDays 40 rfl) ?_
        exact jn80_n5 0 (by decide)
      · skip
        refine to_aload_n (dat dk_X5_readDays 28 rfl) rfl (to_getR 6 g_c6_9 (dat dk_X5_readDays 29 rfl) (hI.atS rfl) (hI.atE rfl) (to_aload_n (dat dk_X5_readDays 30 rfl) rfl (to_getIv (y := x48) ex48 g_c6_53 (dat dk_X5_readDays 31 rfl) (hI.atS rfl) (to_bipush (dat dk_X5_readDays 32 rfl) (by decide) ?_))))
        refine to_iaddA (dat dk_X5_readDays 33 rfl) (fun x52 rx52 => ?_)
        refine to_ldcS (q := 143) (tx := "..") (List.mem_of_getElem? (i := 21) rfl) (dat dk_X5_readDays 34 rfl) (to_iconst (dat dk_X5_readDays 35 rfl) ?_)
        refine to_cI ca_c6_95 (dat dk_X5_readDays 36 rfl) (ct_X1_hasAt l h hI 6 rfl x52 rx52 1000143 2 (List.mem_of_getElem? (i := 21) rfl) 0 (by decide)) rfl ⟨_, _, rfl, (hI.atS rfl)⟩ rfl (fun x53 h54 rx53 p55 => ?_)
        obtain ⟨rfl, zx53⟩ := p55
        refine to_ifeq 79 (dat dk_X5_readDays 37 rfl) rfl rx53 (fun c56 => ?_) (fun c56 => ?_)
        · skip
          refine to_iconst (dat dk_X5_readDays 40 rfl) ?_
          exact jn80_n5 0 (by decide)
        · skip
          refine to_iconst (dat dk_X5_readDays 38 rfl) (to_goto (dat dk_X5_readDays 39 rfl) rfl ?_)
          exact jn80_n5 1 (by decide)
  refine to_aload_n (dat dk_X5_readDays 0 rfl) rfl ?_
  obtain ⟨x57, ex57⟩ : ∃ y : Int, h.2.2 56 5 = y := ⟨_, rfl⟩
  have rx57 := hI.atR (a := 56) (j := 5) rfl
  rw [ex57] at rx57
  refine to_getIv (y := x57) ex57 g_c6_56 (dat dk_X5_readDays 1 rfl) (hI.atS rfl) (to_aload_n (dat dk_X5_readDays 2 rfl) rfl ?_)
  obtain ⟨x58, ex58⟩ : ∃ y : Int, h.2.2 56 4 = y := ⟨_, rfl⟩
  have rx58 := hI.atR (a := 56) (j := 4) rfl
  rw [ex58] at rx58
  refine to_getIv (y := x58) ex58 g_c6_53 (dat dk_X5_readDays 3 rfl) (hI.atS rfl) ?_
  refine to_isubA (dat dk_X5_readDays 4 rfl) (fun x59 rx59 => ?_)
  refine to_bipush (dat dk_X5_readDays 5 rfl) (by decide) ?_
  refine to_ine 35 (dat dk_X5_readDays 6 rfl) rfl rx59 (by decide) (fun c60 => ?_) (fun c60 => ?_)
  · skip
    refine to_iconst (dat dk_X5_readDays 17 rfl) ?_
    exact jn36_n3 0 (by decide)
  · skip
    refine to_aload_n (dat dk_X5_readDays 7 rfl) rfl (to_getR 6 g_c6_9 (dat dk_X5_readDays 8 rfl) (hI.atS rfl) (hI.atE rfl) (to_aload_n (dat dk_X5_readDays 9 rfl) rfl (to_getIv (y := x58) ex58 g_c6_53 (dat dk_X5_readDays 10 rfl) (hI.atS rfl) (to_ldcS (q := 143) (tx := "..") (List.mem_of_getElem? (i := 21) rfl) (dat dk_X5_readDays 11 rfl) (to_iconst (dat dk_X5_readDays 12 rfl) ?_)))))
    refine to_cI ca_c6_95 (dat dk_X5_readDays 13 rfl) (ct_X1_hasAt l h hI 6 rfl x58 (by omega) 1000143 2 (List.mem_of_getElem? (i := 21) rfl) 0 (by decide)) rfl ⟨_, _, rfl, (hI.atS rfl)⟩ rfl (fun x61 h62 rx61 p63 => ?_)
    obtain ⟨rfl, zx61⟩ := p63
    refine to_ifeq 35 (dat dk_X5_readDays 14 rfl) rfl rx61 (fun c64 => ?_) (fun c64 => ?_)
    · skip
      refine to_iconst (dat dk_X5_readDays 17 rfl) ?_
      exact jn36_n3 0 (by decide)
    · skip
      refine to_iconst (dat dk_X5_readDays 15 rfl) (to_goto (dat dk_X5_readDays 16 rfl) rfl ?_)
      exact jn36_n3 1 (by decide)
abbrev Q_X5_readWord (h : Hp) : Option V → Hp → Nat → Nat → Prop := RI (fun x H => Inv H ∧ Fr [56] h H ∧ (3 ≤ x ∧ x ≤ 7) ∧ (H.2.2 56 2 ≤ H.2.2 6 1))
set_option maxRecDepth 100000 in
theorem ct_X5_readWord (l : Launch) (h : Hp) (hI : Inv h) (g0 : h.2.2 56 1 ≤ h.2.2 6 1) : Ct l D_X5_readWord 7 155 [.inr (.inr 56)] h (Q_X5_readWord h) := by
  refine ct_of pn_X5_readWord (Nat.le_of_ble_eq_true rfl) ?_
  show To l E_X5_readWord (0, [(0, .inr (.inr 56))], [], h, 0, 0) _
  obtain ⟨x1, ex1⟩ : ∃ y : Int, h.2.2 56 2 = y := ⟨_, rfl⟩
  have rx1 := hI.atR (a := 56) (j := 2) rfl
  rw [ex1] at rx1
  obtain ⟨x2, ex2⟩ : ∃ y : Int, h.2.2 6 1 = y := ⟨_, rfl⟩
  have rx2 := hI.atR (a := 6) (j := 1) rfl
  rw [ex2] at rx2
  obtain ⟨x3, ex3⟩ : ∃ y : Int, h.2.2 56 1 = y := ⟨_, rfl⟩
  have rx3 := hI.atR (a := 56) (j := 1) rfl
  rw [ex3] at rx3
  refine to_aload_n (dat dk_X5_readWord 0 rfl) rfl (to_aload_n (dat dk_X5_readWord 1 rfl) rfl ?_)
  refine to_cI ca_c6_59 (dat dk_X5_readWord 2 rfl) (ct_X5_wordStop l h hI ) rfl ⟨_, _, rfl, (hI.atS rfl)⟩ rfl (fun x4 h5 rx4 p6 => ?_)
  obtain ⟨rfl, p6_0, p6_1⟩ := p6
  refine to_putIw p_c6_56 (dat dk_X5_readWord 3 rfl) (hI.atS rfl) ?_
  intro h9 wh9
  have I7 : Inv h9 := by rw [wh9]; exact hI.put (a := 56) (j := 5) (x := x4) (0) (1201) rfl rfl (show (0 : Int) ≤ x4 ∧ x4 ≤ 1201 by omega)
  have f8 : Fr [56] h h9 := by rw [wh9]; exact Fr.putF (a := 56) (j := 5) (x := x4) (Fr.rf _ _) rfl
  refine to_aload_n (dat dk_X5_readWord 4 rfl) rfl (to_aload_n (dat dk_X5_readWord 5 rfl) rfl (to_getIv (y := x4) (by rw [wh9]; exact wr_eq) g_c6_56 (dat dk_X5_readWord 6 rfl) (I7.atS rfl) (to_putIw p_c6_15 (dat dk_X5_readWord 7 rfl) (I7.atS rfl) ?_)))
  intro h12 wh12
  have I10 : Inv h12 := by rw [wh12]; exact I7.put (a := 56) (j := 2) (x := x4) (0) (1202) rfl rfl (show (0 : Int) ≤ x4 ∧ x4 ≤ 1202 by omega)
  have f11 : Fr [56] h h12 := by rw [wh12]; exact Fr.putF (a := 56) (j := 2) (x := x4) f8 rfl
  refine to_aload_n (dat dk_X5_readWord 8 rfl) rfl (to_getR 6 g_c6_9 (dat dk_X5_readWord 9 rfl) (I10.atS rfl) (I10.atE rfl) (to_aload_n (dat dk_X5_readWord 10 rfl) rfl (to_getIv (y := x3) (by rw [wh12]; exact (show h9.2.2 56 1 = x3 from (by rw [wh9]; exact ex3))) g_c6_29 (dat dk_X5_readWord 11 rfl) (I10.atS rfl) (to_aload_n (dat dk_X5_readWord 12 rfl) rfl (to_getIv (y := x4) (by rw [wh12]; exact (show h9.2.2 56 5 = x4 from (by rw [wh9]; exact wr_eq))) g_c6_56 (dat dk_X5_readWord 13 rfl) (I10.atS rfl) (to_ldcS (q := 137) (tx := "or") (List.mem_of_getElem? (i := 18) rfl) (dat dk_X5_readWord 14 rfl) (to_iconst (dat dk_X5_readWord 15 rfl) ?_)))))))
  refine to_cI ca_c6_64 (dat dk_X5_readWord 16 rfl) (ct_X1_is l h12 I10 6 rfl x3 (by omega) x4 rx4 1000137 2 (List.mem_of_getElem? (i := 18) rfl) 0 (by decide)) rfl ⟨_, _, rfl, (I10.atS rfl)⟩ rfl (fun x13 h14 rx13 p15 => ?_)
  obtain ⟨rfl, zx13⟩ := p15
  refine to_ifeq 39 (dat dk_X5_readWord 17 rfl) rfl rx13 (fun c16 => ?_) (fun c16 => ?_)
  · skip
    refine to_aload_n (dat dk_X5_readWord 20 rfl) rfl (to_getR 6 g_c6_9 (dat dk_X5_readWord 21 rfl) (I10.atS rfl) (I10.atE rfl) (to_aload_n (dat dk_X5_readWord 22 rfl) rfl (to_getIv (y := x3) (by rw [wh12]; exact (show h9.2.2 56 1 = x3 from (by rw [wh9]; exact ex3))) g_c6_29 (dat dk_X5_readWord 23 rfl) (I10.atS rfl) (to_aload_n (dat dk_X5_readWord 24 rfl) rfl (to_getIv (y := x4) (by rw [wh12]; exact (show h9.2.2 56 5 = x4 from (by rw [wh9]; exact wr_eq))) g_c6_56 (dat dk_X5_readWord 25 rfl) (I10.atS rfl) (to_ldcS (q := 139) (tx := "and") (List.mem_of_getElem? (i := 19) rfl) (dat dk_X5_readWord 26 rfl) (to_iconst (dat dk_X5_readWord 27 rfl) ?_)))))))
    refine to_cI ca_c6_64 (dat dk_X5_readWord 28 rfl) (ct_X1_is l h12 I10 6 rfl x3 (by omega) x4 rx4 1000139 3 (List.mem_of_getElem? (i := 19) rfl) 0 (by decide)) rfl ⟨_, _, rfl, (I10.atS rfl)⟩ rfl (fun x17 h18 rx17 p19 => ?_)
    obtain ⟨rfl, zx17⟩ := p19
    refine to_ifeq 62 (dat dk_X5_readWord 29 rfl) rfl rx17 (fun c20 => ?_) (fun c20 => ?_)
    · skip
      refine to_aload_n (dat dk_X5_readWord 32 rfl) rfl (to_getR 6 g_c6_9 (dat dk_X5_readWord 33 rfl) (I10.atS rfl) (I10.atE rfl) (to_aload_n (dat dk_X5_readWord 34 rfl) rfl (to_getIv (y := x3) (by rw [wh12]; exact (show h9.2.2 56 1 = x3 from (by rw [wh9]; exact ex3))) g_c6_29 (dat dk_X5_readWord 35 rfl) (I10.atS rfl) (to_aload_n (dat dk_X5_readWord 36 rfl) rfl (to_getIv (y := x4) (by rw [wh12]; exact (show h9.2.2 56 5 = x4 from (by rw [wh9]; exact wr_eq))) g_c6_56 (dat dk_X5_readWord 37 rfl) (I10.atS rfl) (to_ldcS (q := 141) (tx := "not") (List.mem_of_getElem? (i := 20) rfl) (dat dk_X5_readWord 38 rfl) (to_iconst (dat dk_X5_readWord 39 rfl) ?_)))))))
      refine to_cI ca_c6_64 (dat dk_X5_readWord 40 rfl) (ct_X1_is l h12 I10 6 rfl x3 (by omega) x4 rx4 1000141 3 (List.mem_of_getElem? (i := 20) rfl) 0 (by decide)) rfl ⟨_, _, rfl, (I10.atS rfl)⟩ rfl (fun x21 h22 rx21 p23 => ?_)
      obtain ⟨rfl, zx21⟩ := p23
      refine to_ifeq 85 (dat dk_X5_readWord 41 rfl) rfl rx21 (fun c24 => ?_) (fun c24 => ?_)
      · skip
        refine to_aload_n (dat dk_X5_readWord 44 rfl) rfl ?_
        have e25 : h12.2.2 56 1 = x3 := (by rw [wh12]; exact (show h9.2.2 56 1 = x3 from (by rw [wh9]; exact ex3)))
        have e26 : h12.2.2 6 1 = x2 := (by rw [wh12]; exact (show h9.2.2 6 1 = x2 from (by rw [wh9]; exact ex2)))
        have e27 : h12.2.2 56 2 = x4 := (by rw [wh12]; exact wr_eq)
        refine to_cV ca_c6_72 (dat dk_X5_readWord 45 rfl) (ct_X5_readField l h12 I10 (show h12.2.2 56 1 ≤ h12.2.2 6 1 by omega)) rfl ⟨_, _, rfl, (I10.atS rfl)⟩ rfl (fun h29 p30 => ?_)
        obtain ⟨Ih29, fh29, p30_0⟩ := p30
        have f31 : Fr [56] h h29 := Fr.sub f11 fh29 (sub_self _)
        obtain ⟨x32, ex32⟩ : ∃ y : Int, h29.2.2 56 2 = y := ⟨_, rfl⟩
        have rx32 := Ih29.atR (a := 56) (j := 2) rfl
        rw [ex32] at rx32
        have jn133_n33 : To l E_X5_readWord (133, [(0, .inr (.inr 56))], [], h29, 0, 0) (Q_X5_readWord h) := by
          skip
          have jn149_n35 : ∀ (y34 : Int), (y34 = 0 ∨ y34 = 1) → To l E_X5_readWord (149, [(0, .inr (.inr 56))], [.inl y34], h29, 0, 0) (Q_X5_readWord h) := by
            intro y34 ry34
            refine to_istore_n (L' := [(0, .inr (.inr 56)), (1, .inl y34)]) (dat dk_X5_readWord 75 rfl) (by decide) rfl ?_
            have jn201_n39 : ∀ (y36 : Int) (h37 : Hp), (y36 = 0 ∨ y36 = 1) → (Inv h37) → (Fr [56] h h37) → (h37.2.2 56 2 ≤ h37.2.2 6 1) → To l E_X5_readWord (201, [(0, .inr (.inr 56)), (1, .inl y36)], [], h37, 0, 0) (Q_X5_readWord h) := by
              intro y36 h37 ry36 Ih37 fh37 c38
              obtain ⟨x40, ex40⟩ : ∃ y : Int, h37.2.2 56 2 = y := ⟨_, rfl⟩
              have rx40 := Ih37.atR (a := 56) (j := 2) rfl
              rw [ex40] at rx40
              have e41 : h37.2.2 6 1 = x2 := ((Fr.get fh37 (by have := hI.1.1; omega) rfl).trans ex2)
              refine to_iload_n (dat dk_X5_readWord 101 rfl) rfl ?_
              refine to_ifeq 210 (dat dk_X5_readWord 102 rfl) rfl (by omega) (fun c42 => ?_) (fun c42 => ?_)
              · skip
                refine to_bipush (dat dk_X5_readWord 105 rfl) (by decide) ?_
                exact to_iret rfl (dat dk_X5_readWord 106 rfl) (ri_mk (by decide) ⟨Ih37, fh37, (show 3 ≤ (7 : Int) ∧ (7 : Int) ≤ 7 by omega), (show h37.2.2 56 2 ≤ h37.2.2 6 1 by omega)⟩)
              · skip
                refine to_bipush (dat dk_X5_readWord 103 rfl) (by decide) (to_goto (dat dk_X5_readWord 104 rfl) rfl ?_)
                exact to_iret rfl (dat dk_X5_readWord 106 rfl) (ri_mk (by decide) ⟨Ih37, fh37, (show 3 ≤ (6 : Int) ∧ (6 : Int) ≤ 7 by omega), (show h37.2.2 56 2 ≤ h37.2.2 6 1 by omega)⟩)
            refine to_aload_n (dat dk_X5_readWord 76 rfl) rfl ?_
            obtain ⟨x43, ex43⟩ : ∃ y : Int, h29.2.2 56 3 = y := ⟨_, rfl⟩
            have rx43 := Ih29.atR (a := 56) (j := 3) rfl
            rw [ex43] at rx43
            refine to_getIv (y := x43) ex43 g_c6_36 (dat dk_X5_readWord 77 rfl) (Ih29.atS rfl) (to_bipush (dat dk_X5_readWord 78 rfl) (by decide) ?_)
            refine to_ine 187 (dat dk_X5_readWord 79 rfl) rfl (by omega) (by decide) (fun c44 => ?_) (fun c44 => ?_)
            · skip
              refine to_aload_n (dat dk_X5_readWord 94 rfl) rfl (to_getIv (y := x43) ex43 g_c6_36 (dat dk_X5_readWord 95 rfl) (Ih29.atS rfl) (to_bipush (dat dk_X5_readWord 96 rfl) (by decide) ?_))
              refine to_ine 201 (dat dk_X5_readWord 97 rfl) rfl (by omega) (by decide) (fun c45 => ?_) (fun c45 => ?_)
              · skip
                have e46 : h29.2.2 6 1 = x2 := ((Fr.get fh29 (by have := I10.1.1; omega) rfl).trans e26)
                exact jn201_n39 y34 h29 (by omega) Ih29 f31 (show h29.2.2 56 2 ≤ h29.2.2 6 1 by omega)
              · skip
                refine to_aload_n (dat dk_X5_readWord 98 rfl) rfl ?_
                refine to_cI ca_c6_78 (dat dk_X5_readWord 99 rfl) (ct_X5_readDays l h29 Ih29 ) rfl ⟨_, _, rfl, (Ih29.atS rfl)⟩ rfl (fun x47 h48 rx47 p49 => ?_)
                obtain ⟨Ih48, fh48, zx47, p49_0⟩ := p49
                have f50 : Fr [56] h h48 := Fr.sub f31 fh48 (sub_self _)
                obtain ⟨x51, ex51⟩ : ∃ y : Int, h48.2.2 56 2 = y := ⟨_, rfl⟩
                have rx51 := Ih48.atR (a := 56) (j := 2) rfl
                rw [ex51] at rx51
                refine to_istore_n (L' := [(0, .inr (.inr 56)), (1, .inl x47)]) (dat dk_X5_readWord 100 rfl) (by decide) rfl ?_
                have e52 : h48.2.2 6 1 = x2 := ((Fr.get fh48 (by have := Ih29.1.1; omega) rfl).trans ((Fr.get fh29 (by have := I10.1.1; omega) rfl).trans e26))
                exact jn201_n39 x47 h48 (by omega) Ih48 f50 (show h48.2.2 56 2 ≤ h48.2.2 6 1 by omega)
            · skip
              have jn183_n54 : ∀ (y53 : Int), (y53 = 0 ∨ y53 = 1) → To l E_X5_readWord (183, [(0, .inr (.inr 56)), (1, .inl y34)], [.inl y53], h29, 0, 0) (Q_X5_readWord h) := by
                intro y53 ry53
                refine to_istore_n (L' := [(0, .inr (.inr 56)), (1, .inl y53)]) (dat dk_X5_readWord 92 rfl) (by decide) rfl (to_goto (dat dk_X5_readWord 93 rfl) rfl ?_)
                have e55 : h29.2.2 6 1 = x2 := ((Fr.get fh29 (by have := I10.1.1; omega) rfl).trans e26)
                exact jn201_n39 y53 h29 (by omega) Ih29 f31 (show h29.2.2 56 2 ≤ h29.2.2 6 1 by omega)
              refine to_aload_n (dat dk_X5_readWord 80 rfl) rfl (to_getR 6 g_c6_9 (dat dk_X5_readWord 81 rfl) (Ih29.atS rfl) (Ih29.atE rfl) (to_aload_n (dat dk_X5_readWord 82 rfl) rfl ?_))
              obtain ⟨x56, ex56⟩ : ∃ y : Int, h29.2.2 56 4 = y := ⟨_, rfl⟩
              have rx56 := Ih29.atR (a := 56) (j := 4) rfl
              rw [ex56] at rx56
              refine to_getIv (y := x56) ex56 g_c6_53 (dat dk_X5_readWord 83 rfl) (Ih29.atS rfl) (to_aload_n (dat dk_X5_readWord 84 rfl) rfl ?_)
              obtain ⟨x57, ex57⟩ : ∃ y : Int, h29.2.2 56 5 = y := ⟨_, rfl⟩
              have rx57 := Ih29.atR (a := 56) (j := 5) rfl
              rw [ex57] at rx57
              refine to_getIv (y := x57) ex57 g_c6_56 (dat dk_X5_readWord 85 rfl) (Ih29.atS rfl) ?_
              refine to_cI ca_c6_75 (dat dk_X5_readWord 86 rfl) (ct_X1_numberIn l h29 Ih29 6 rfl x56 (by omega) x57 (by omega)) rfl ⟨_, _, rfl, (Ih29.atS rfl)⟩ rfl (fun x58 h59 rx58 p60 => ?_)
              subst p60
              refine to_iconst (dat dk_X5_readWord 87 rfl) ?_
              refine to_ieq 182 (dat dk_X5_readWord 88 rfl) rfl rx58 (by decide) (fun c61 => ?_) (fun c61 => ?_)
              · skip
                refine to_iconst (dat dk_X5_readWord 91 rfl) ?_
                exact jn183_n54 0 (by decide)
              · skip
                refine to_iconst (dat dk_X5_readWord 89 rfl) (to_goto (dat dk_X5_readWord 90 rfl) rfl ?_)
                exact jn183_n54 1 (by decide)
          refine to_aload_n (dat dk_X5_readWord 67 rfl) rfl ?_
          obtain ⟨x62, ex62⟩ : ∃ y : Int, h29.2.2 56 4 = y := ⟨_, rfl⟩
          have rx62 := Ih29.atR (a := 56) (j := 4) rfl
          rw [ex62] at rx62
          refine to_getIv (y := x62) ex62 g_c6_53 (dat dk_X5_readWord 68 rfl) (Ih29.atS rfl) (to_aload_n (dat dk_X5_readWord 69 rfl) rfl ?_)
          obtain ⟨x63, ex63⟩ : ∃ y : Int, h29.2.2 56 5 = y := ⟨_, rfl⟩
          have rx63 := Ih29.atR (a := 56) (j := 5) rfl
          rw [ex63] at rx63
          refine to_getIv (y := x63) ex63 g_c6_56 (dat dk_X5_readWord 70 rfl) (Ih29.atS rfl) ?_
          refine to_ige 148 (dat dk_X5_readWord 71 rfl) rfl (by omega) (by omega) (fun c64 => ?_) (fun c64 => ?_)
          · skip
            refine to_iconst (dat dk_X5_readWord 74 rfl) ?_
            exact jn149_n35 0 (by decide)
          · skip
            refine to_iconst (dat dk_X5_readWord 72 rfl) (to_goto (dat dk_X5_readWord 73 rfl) rfl ?_)
            exact jn149_n35 1 (by decide)
        refine to_aload_n (dat dk_X5_readWord 46 rfl) rfl ?_
        obtain ⟨x65, ex65⟩ : ∃ y : Int, h29.2.2 56 3 = y := ⟨_, rfl⟩
        have rx65 := Ih29.atR (a := 56) (j := 3) rfl
        rw [ex65] at rx65
        refine to_getIv (y := x65) ex65 g_c6_36 (dat dk_X5_readWord 47 rfl) (Ih29.atS rfl) (to_iconst (dat dk_X5_readWord 48 rfl) ?_)
        refine to_igt 133 (dat dk_X5_readWord 49 rfl) rfl (by omega) (by decide) (fun c66 => ?_) (fun c66 => ?_)
        · skip
          exact jn133_n33  
        · skip
          refine to_aload_n (dat dk_X5_readWord 50 rfl) rfl ?_
          obtain ⟨x67, ex67⟩ : ∃ y : Int, h29.2.2 56 4 = y := ⟨_, rfl⟩
          have rx67 := Ih29.atR (a := 56) (j := 4) rfl
          rw [ex67] at rx67
          refine to_getIv (y := x67) ex67 g_c6_53 (dat dk_X5_readWord 51 rfl) (Ih29.atS rfl) (to_aload_n (dat dk_X5_readWord 52 rfl) rfl ?_)
          obtain ⟨x68, ex68⟩ : ∃ y : Int, h29.2.2 56 5 = y := ⟨_, rfl⟩
          have rx68 := Ih29.atR (a := 56) (j := 5) rfl
          rw [ex68] at rx68
          refine to_getIv (y := x68) ex68 g_c6_56 (dat dk_X5_readWord 53 rfl) (Ih29.atS rfl) ?_
          refine to_ine 133 (dat dk_X5_readWord 54 rfl) rfl (by omega) (by omega) (fun c69 => ?_) (fun c69 => ?_)
          · skip
            exact jn133_n33  
          · skip
            refine to_aload_n (dat dk_X5_readWord 55 rfl) rfl (to_getR 6 g_c6_9 (dat dk_X5_readWord 56 rfl) (Ih29.atS rfl) (Ih29.atE rfl) (to_aload_n (dat dk_X5_readWord 57 rfl) rfl (to_getIv (y := x68) ex68 g_c6_56 (dat dk_X5_readWord 58 rfl) (Ih29.atS rfl) ?_)))
            have e70 : h29.2.2 6 1 = x2 := ((Fr.get fh29 (by have := I10.1.1; omega) rfl).trans e26)
            refine to_cI ca_c6_32 (dat dk_X5_readWord 59 rfl) (ct_X1_byteAt l h29 Ih29 6 rfl x68 (by omega)) rfl ⟨_, _, rfl, (Ih29.atS rfl)⟩ rfl (fun x71 h72 rx71 p73 => ?_)
            obtain ⟨rfl, p73_0⟩ := p73
            refine to_bipush (dat dk_X5_readWord 60 rfl) (by decide) ?_
            refine to_ine 133 (dat dk_X5_readWord 61 rfl) rfl rx71 (by decide) (fun c74 => ?_) (fun c74 => ?_)
            · skip
              exact jn133_n33  
            · skip
              refine to_aload_n (dat dk_X5_readWord 62 rfl) rfl (to_aload_n (dat dk_X5_readWord 63 rfl) rfl (to_getIv (y := x68) ex68 g_c6_56 (dat dk_X5_readWord 64 rfl) (Ih29.atS rfl) ?_))
              refine to_cI ca_c6_43 (dat dk_X5_readWord 65 rfl) (ct_X5_readPhrase l h29 Ih29 x68 (by omega) (show 0 ≤ x68 ∧ x68 ≤ 1201 by omega) (show h29.2.2 56 2 ≤ h29.2.2 6 1 by omega)) rfl ⟨_, _, rfl, (Ih29.atS rfl)⟩ rfl (fun x75 h76 rx75 p77 => ?_)
              obtain ⟨Ih76, fh76, p77_0, p77_1⟩ := p77
              have f78 : Fr [56] h h76 := Fr.sub f31 fh76 (sub_self _)
              obtain ⟨x79, ex79⟩ : ∃ y : Int, h76.2.2 56 2 = y := ⟨_, rfl⟩
              have rx79 := Ih76.atR (a := 56) (j := 2) rfl
              rw [ex79] at rx79
              have e80 : h76.2.2 6 1 = x2 := ((Fr.get fh76 (by have := Ih29.1.1; omega) rfl).trans e70)
              exact to_iret rfl (dat dk_X5_readWord 66 rfl) (ri_mk rx75 ⟨Ih76, f78, (show 3 ≤ x75 ∧ x75 ≤ 7 by omega), (show h76.2.2 56 2 ≤ h76.2.2 6 1 by omega)⟩)
      · skip
        refine to_iconst (dat dk_X5_readWord 42 rfl) ?_
        have e81 : h12.2.2 56 2 = x4 := (by rw [wh12]; exact wr_eq)
        have e82 : h12.2.2 6 1 = x2 := (by rw [wh12]; exact (show h9.2.2 6 1 = x2 from (by rw [wh9]; exact ex2)))
        exact to_iret rfl (dat dk_X5_readWord 43 rfl) (ri_mk (by decide) ⟨I10, f11, (show 3 ≤ (5 : Int) ∧ (5 : Int) ≤ 7 by omega), (show h12.2.2 56 2 ≤ h12.2.2 6 1 by omega)⟩)
    · skip
      refine to_iconst (dat dk_X5_readWord 30 rfl) ?_
      have e83 : h12.2.2 56 2 = x4 := (by rw [wh12]; exact wr_eq)
      have e84 : h12.2.2 6 1 = x2 := (by rw [wh12]; exact (show h9.2.2 6 1 = x2 from (by rw [wh9]; exact ex2)))
      exact to_iret rfl (dat dk_X5_readWord 31 rfl) (ri_mk (by decide) ⟨I10, f11, (show 3 ≤ (4 : Int) ∧ (4 : Int) ≤ 7 by omega), (show h12.2.2 56 2 ≤ h12.2.2 6 1 by omega)⟩)
  · skip
    refine to_iconst (dat dk_X5_readWord 18 rfl) ?_
    have e85 : h12.2.2 56 2 = x4 := (by rw [wh12]; exact wr_eq)
    have e86 : h12.2.2 6 1 = x2 := (by rw [wh12]; exact (show h9.2.2 6 1 = x2 from (by rw [wh9]; exact ex2)))
    exact to_iret rfl (dat dk_X5_readWord 19 rfl) (ri_mk (by decide) ⟨I10, f11, (show 3 ≤ (3 : Int) ∧ (3 : Int) ≤ 7 by omega), (show h12.2.2 56 2 ≤ h12.2.2 6 1 by omega)⟩)
abbrev Q_X5_next (h : Hp) : Option V → Hp → Nat → Nat → Prop := RI (fun x H => Inv H ∧ Fr [56] h H ∧ (0 ≤ x ∧ x ≤ 7) ∧ (x = 0 ∨ H.2.2 56 2 ≤ H.2.2 6 1))
set_option maxRecDepth 100000 in
theorem ct_X5_next (l : Launch) (h : Hp) (hI : Inv h) (g0 : h.2.2 56 2 ≤ h.2.2 6 1) : Ct l D_X5_next 8 176 [.inr (.inr 56)] h (Q_X5_next h) := by
  refine ct_of pn_X5_next (Nat.le_of_ble_eq_true rfl) ?_
  show To l E_X5_next (0, [(0, .inr (.inr 56))], [], h, 0, 0) _
  obtain ⟨x1, ex1⟩ : ∃ y : Int, h.2.2 56 2 = y := ⟨_, rfl⟩
  have rx1 := hI.atR (a := 56) (j := 2) rfl
  rw [ex1] at rx1
  obtain ⟨x2, ex2⟩ : ∃ y : Int, h.2.2 6 1 = y := ⟨_, rfl⟩
  have rx2 := hI.atR (a := 6) (j := 1) rfl
  rw [ex2] at rx2
  refine to_aload_n (dat dk_X5_next 0 rfl) rfl (to_aload_n (dat dk_X5_next 1 rfl) rfl (to_getR 6 g_c6_9 (dat dk_X5_next 2 rfl) (hI.atS rfl) (hI.atE rfl) (to_aload_n (dat dk_X5_next 3 rfl) rfl (to_getIv (y := x1) ex1 g_c6_15 (dat dk_X5_next 4 rfl) (hI.atS rfl) (to_aload_n (dat dk_X5_next 5 rfl) rfl (to_getR 6 g_c6_9 (dat dk_X5_next 6 rfl) (hI.atS rfl) (hI.atE rfl) ?_))))))
  refine to_cI ca_c6_19 (dat dk_X5_next 7 rfl) (ct_X1_size l h hI 6 rfl) rfl ⟨_, _, rfl, (hI.atS rfl)⟩ rfl (fun x3 h4 rx3 p5 => ?_)
  obtain ⟨rfl, p5_0⟩ := p5
  refine to_cI ca_c6_25 (dat dk_X5_next 8 rfl) (ct_X1_blanksOn l h hI 6 rfl x1 (by omega) x3 rx3) rfl ⟨_, _, rfl, (hI.atS rfl)⟩ rfl (fun x6 h7 rx6 p8 => ?_)
  obtain ⟨rfl, p8_0, p8_1⟩ := p8
  refine to_putIw p_c6_29 (dat dk_X5_next 9 rfl) (hI.atS rfl) ?_
  intro h11 wh11
  have I9 : Inv h11 := by rw [wh11]; exact hI.put (a := 56) (j := 1) (x := x6) (0) (1201) rfl rfl (show (0 : Int) ≤ x6 ∧ x6 ≤ 1201 by omega)
  have f10 : Fr [56] h h11 := by rw [wh11]; exact Fr.putF (a := 56) (j := 1) (x := x6) (Fr.rf _ _) rfl
  refine to_aload_n (dat dk_X5_next 10 rfl) rfl (to_getR 6 g_c6_9 (dat dk_X5_next 11 rfl) (I9.atS rfl) (I9.atE rfl) (to_aload_n (dat dk_X5_next 12 rfl) rfl (to_getIv (y := x6) (by rw [wh11]; exact wr_eq) g_c6_29 (dat dk_X5_next 13 rfl) (I9.atS rfl) ?_)))
  have e12 : h11.2.2 6 1 = x2 := (by rw [wh11]; exact ex2)
  refine to_cI ca_c6_32 (dat dk_X5_next 14 rfl) (ct_X1_byteAt l h11 I9 6 rfl x6 rx6) rfl ⟨_, _, rfl, (I9.atS rfl)⟩ rfl (fun x13 h14 rx13 p15 => ?_)
  obtain ⟨rfl, p15_0⟩ := p15
  refine to_istore_n (L' := [(0, .inr (.inr 56)), (1, .inl x13)]) (dat dk_X5_next 15 rfl) (by decide) rfl (to_aload_n (dat dk_X5_next 16 rfl) rfl (to_aload_n (dat dk_X5_next 17 rfl) rfl (to_getIv (y := x6) (by rw [wh11]; exact wr_eq) g_c6_29 (dat dk_X5_next 18 rfl) (I9.atS rfl) (to_iconst (dat dk_X5_next 19 rfl) (to_iadd (dat dk_X5_next 20 rfl) (to_putIw p_c6_15 (dat dk_X5_next 21 rfl) (I9.atS rfl) ?_))))))
  intro h18 wh18
  have I16 : Inv h18 := by rw [wh18]; exact I9.put (a := 56) (j := 2) (x := (x6 + 1)) (0) (1202) rfl rfl (show (0 : Int) ≤ (x6 + 1) ∧ (x6 + 1) ≤ 1202 by omega)
  have f17 : Fr [56] h h18 := by rw [wh18]; exact Fr.putF (a := 56) (j := 2) (x := (x6 + 1)) f10 rfl
  refine to_aload_n (dat dk_X5_next 22 rfl) rfl (to_bipush (dat dk_X5_next 23 rfl) (by decide) (to_putIw p_c6_36 (dat dk_X5_next 24 rfl) (I16.atS rfl) ?_))
  intro h21 wh21
  have I19 : Inv h21 := by rw [wh21]; exact I16.put (a := 56) (j := 3) (x := 8) (0) (8) rfl rfl (show (0 : Int) ≤ 8 ∧ 8 ≤ 8 by decide)
  have f20 : Fr [56] h h21 := by rw [wh21]; exact Fr.putF (a := 56) (j := 3) (x := 8) f17 rfl
  refine to_aload_n (dat dk_X5_next 25 rfl) rfl (to_iconst (dat dk_X5_next 26 rfl) (to_putZw p_c6_39 (dat dk_X5_next 27 rfl) (I19.atS rfl) (by decide) ?_))
  intro h24 wh24
  have I22 : Inv h24 := by rw [wh24]; exact I19.put (a := 56) (j := 6) (x := 0) (0) (1) rfl rfl (show (0 : Int) ≤ 0 ∧ 0 ≤ 1 by decide)
  have f23 : Fr [56] h h24 := by rw [wh24]; exact Fr.putF (a := 56) (j := 6) (x := 0) f20 rfl
  refine to_iload_n (dat dk_X5_next 28 rfl) rfl ?_
  refine to_look (d := 115) (ps := [((-1), 100), (34, 106), (40, 102), (41, 104)]) (dat dk_X5_next 29 rfl) (by decide) rfl rfl rx13 ⟨fun c25 => ?_, fun c29 => ⟨fun c25 => ?_, fun c28 => ⟨fun c25 => ?_, fun c27 => ⟨fun c25 => ?_, fun c26 => ?_⟩⟩⟩⟩
  · skip
    refine to_iconst (dat dk_X5_next 30 rfl) ?_
    have e30 : h24.2.2 56 2 = (x6 + 1) := (by rw [wh24]; exact (show h21.2.2 56 2 = (x6 + 1) from (by rw [wh21]; exact (show h18.2.2 56 2 = (x6 + 1) from (by rw [wh18]; exact wr_eq)))))
    have e31 : h24.2.2 6 1 = x2 := (by rw [wh24]; exact (show h21.2.2 6 1 = x2 from (by rw [wh21]; exact (show h18.2.2 6 1 = x2 from (by rw [wh18]; exact e12)))))
    exact to_iret rfl (dat dk_X5_next 31 rfl) (ri_mk (by decide) ⟨I22, f23, (show 0 ≤ (0 : Int) ∧ (0 : Int) ≤ 7 by omega), (show (0 : Int) = 0 ∨ h24.2.2 56 2 ≤ h24.2.2 6 1 by omega)⟩)
  · skip
    refine to_aload_n (dat dk_X5_next 36 rfl) rfl (to_aload_n (dat dk_X5_next 37 rfl) rfl (to_getIv (y := x6) (by rw [wh24]; exact (show h21.2.2 56 1 = x6 from (by rw [wh21]; exact (show h18.2.2 56 1 = x6 from (by rw [wh18]; exact (show h11.2.2 56 1 = x6 from (by rw [wh11]; exact wr_eq))))))) g_c6_29 (dat dk_X5_next 38 rfl) (I22.atS rfl) ?_))
    have e32 : h24.2.2 56 2 = (x6 + 1) := (by rw [wh24]; exact (show h21.2.2 56 2 = (x6 + 1) from (by rw [wh21]; exact (show h18.2.2 56 2 = (x6 + 1) from (by rw [wh18]; exact wr_eq)))))
    have e33 : h24.2.2 6 1 = x2 := (by rw [wh24]; exact (show h21.2.2 6 1 = x2 from (by rw [wh21]; exact (show h18.2.2 6 1 = x2 from (by rw [wh18]; exact e12)))))
    refine to_cI ca_c6_43 (dat dk_X5_next 39 rfl) (ct_X5_readPhrase l h24 I22 x6 rx6 (show 0 ≤ x6 ∧ x6 ≤ 1201 by omega) (show h24.2.2 56 2 ≤ h24.2.2 6 1 by omega)) rfl ⟨_, _, rfl, (I22.atS rfl)⟩ rfl (fun x34 h35 rx34 p36 => ?_)
    obtain ⟨Ih35, fh35, p36_0, p36_1⟩ := p36
    have f37 : Fr [56] h h35 := Fr.sub f23 fh35 (sub_self _)
    obtain ⟨x38, ex38⟩ : ∃ y : Int, h35.2.2 56 2 = y := ⟨_, rfl⟩
    have rx38 := Ih35.atR (a := 56) (j := 2) rfl
    rw [ex38] at rx38
    have e39 : h35.2.2 6 1 = x2 := ((Fr.get fh35 (by have := I22.1.1; omega) rfl).trans e33)
    exact to_iret rfl (dat dk_X5_next 40 rfl) (ri_mk rx34 ⟨Ih35, f37, (show 0 ≤ x34 ∧ x34 ≤ 7 by omega), (show x34 = 0 ∨ h35.2.2 56 2 ≤ h35.2.2 6 1 by omega)⟩)
  · skip
    refine to_iconst (dat dk_X5_next 32 rfl) ?_
    have e40 : h24.2.2 56 2 = (x6 + 1) := (by rw [wh24]; exact (show h21.2.2 56 2 = (x6 + 1) from (by rw [wh21]; exact (show h18.2.2 56 2 = (x6 + 1) from (by rw [wh18]; exact wr_eq)))))
    have e41 : h24.2.2 6 1 = x2 := (by rw [wh24]; exact (show h21.2.2 6 1 = x2 from (by rw [wh21]; exact (show h18.2.2 6 1 = x2 from (by rw [wh18]; exact e12)))))
    exact to_iret rfl (dat dk_X5_next 33 rfl) (ri_mk (by decide) ⟨I22, f23, (show 0 ≤ (1 : Int) ∧ (1 : Int) ≤ 7 by omega), (show (1 : Int) = 0 ∨ h24.2.2 56 2 ≤ h24.2.2 6 1 by omega)⟩)
  · skip
    refine to_iconst (dat dk_X5_next 34 rfl) ?_
    have e42 : h24.2.2 56 2 = (x6 + 1) := (by rw [wh24]; exact (show h21.2.2 56 2 = (x6 + 1) from (by rw [wh21]; exact (show h18.2.2 56 2 = (x6 + 1) from (by rw [wh18]; exact wr_eq)))))
    have e43 : h24.2.2 6 1 = x2 := (by rw [wh24]; exact (show h21.2.2 6 1 = x2 from (by rw [wh21]; exact (show h18.2.2 6 1 = x2 from (by rw [wh18]; exact e12)))))
    exact to_iret rfl (dat dk_X5_next 35 rfl) (ri_mk (by decide) ⟨I22, f23, (show 0 ≤ (2 : Int) ∧ (2 : Int) ≤ 7 by omega), (show (2 : Int) = 0 ∨ h24.2.2 56 2 ≤ h24.2.2 6 1 by omega)⟩)
  · skip
    refine to_aload_n (dat dk_X5_next 41 rfl) rfl ?_
    have e44 : h24.2.2 56 1 = x6 := (by rw [wh24]; exact (show h21.2.2 56 1 = x6 from (by rw [wh21]; exact (show h18.2.2 56 1 = x6 from (by rw [wh18]; exact (show h11.2.2 56 1 = x6 from (by rw [wh11]; exact wr_eq)))))))
    have e45 : h24.2.2 6 1 = x2 := (by rw [wh24]; exact (show h21.2.2 6 1 = x2 from (by rw [wh21]; exact (show h18.2.2 6 1 = x2 from (by rw [wh18]; exact e12)))))
    refine to_cI ca_c6_46 (dat dk_X5_next 42 rfl) (ct_X5_readWord l h24 I22 (show h24.2.2 56 1 ≤ h24.2.2 6 1 by omega)) rfl ⟨_, _, rfl, (I22.atS rfl)⟩ rfl (fun x46 h47 rx46 p48 => ?_)
    obtain ⟨Ih47, fh47, p48_0, p48_1⟩ := p48
    have f49 : Fr [56] h h47 := Fr.sub f23 fh47 (sub_self _)
    obtain ⟨x50, ex50⟩ : ∃ y : Int, h47.2.2 56 2 = y := ⟨_, rfl⟩
    have rx50 := Ih47.atR (a := 56) (j := 2) rfl
    rw [ex50] at rx50
    have e51 : h47.2.2 6 1 = x2 := ((Fr.get fh47 (by have := I22.1.1; omega) rfl).trans e45)
    exact to_iret rfl (dat dk_X5_next 43 rfl) (ri_mk rx46 ⟨Ih47, f49, (show 0 ≤ x46 ∧ x46 ≤ 7 by omega), (show x46 = 0 ∨ h47.2.2 56 2 ≤ h47.2.2 6 1 by omega)⟩)
