/-! Contracts, by program. -/
abbrev Q_X12_isBlank_vb (h : Hp) (b : Int) : Option V → Hp → Nat → Nat → Prop := RI (fun x H => h = H ∧ (x = 0 ∨ x = 1) ∧ ((x = 1 ∧ (b = 32 ∨ b = 9)) ∨ (x = 0 ∧ b ≠ 32 ∧ b ≠ 9)))
set_option maxRecDepth 100000 in
theorem ct_X12_isBlank_vb (l : Launch) (h : Hp) (hI : Inv h) (b : Int) (hb : I32 b) : Ct l D_X12_isBlank 0 0 [.inl b] h (Q_X12_isBlank_vb h b) := by
  refine ct_of pn_X12_isBlank (Nat.le_of_ble_eq_true rfl) ?_
  show To l E_X12_isBlank (0, [(0, .inl b)], [], h, 0, 0) _
  refine to_iload_n (dat dk_X12_isBlank 0 rfl) rfl (to_bipush (dat dk_X12_isBlank 1 rfl) (by decide) ?_)
  refine to_ieq 12 (dat dk_X12_isBlank 2 rfl) rfl hb (by decide) (fun c1 => ?_) (fun c1 => ?_)
  · skip
    refine to_iconst (dat dk_X12_isBlank 6 rfl) (to_goto (dat dk_X12_isBlank 7 rfl) rfl ?_)
    exact to_zret rfl (dat dk_X12_isBlank 9 rfl) (by decide) (ri_mk (by decide) ⟨rfl, (by decide), (show ((1 : Int) = 1 ∧ (b = 32 ∨ b = 9)) ∨ ((1 : Int) = 0 ∧ b ≠ 32 ∧ b ≠ 9) by omega)⟩)
  · skip
    refine to_iload_n (dat dk_X12_isBlank 3 rfl) rfl (to_bipush (dat dk_X12_isBlank 4 rfl) (by decide) ?_)
    refine to_ine 16 (dat dk_X12_isBlank 5 rfl) rfl hb (by decide) (fun c2 => ?_) (fun c2 => ?_)
    · skip
      refine to_iconst (dat dk_X12_isBlank 8 rfl) ?_
      exact to_zret rfl (dat dk_X12_isBlank 9 rfl) (by decide) (ri_mk (by decide) ⟨rfl, (by decide), (show ((0 : Int) = 1 ∧ (b = 32 ∨ b = 9)) ∨ ((0 : Int) = 0 ∧ b ≠ 32 ∧ b ≠ 9) by omega)⟩)
    · skip
      refine to_iconst (dat dk_X12_isBlank 6 rfl) (to_goto (dat dk_X12_isBlank 7 rfl) rfl ?_)
      exact to_zret rfl (dat dk_X12_isBlank 9 rfl) (by decide) (ri_mk (by decide) ⟨rfl, (by decide), (show ((1 : Int) = 1 ∧ (b = 32 ∨ b = 9)) ∨ ((1 : Int) = 0 ∧ b ≠ 32 ∧ b ≠ 9) by omega)⟩)
abbrev Q_X12_just_vb (h : Hp) (a : Nat) (f : Int) (g : Int) (w nw : Nat) : Option V → Hp → Nat → Nat → Prop := RI (fun x H => h = H ∧ (x = 0 ∨ x = 1) ∧ (x = 0 ∨ g - f = (nw : Int)))
set_option maxRecDepth 100000 in
theorem ct_X12_just_vb (l : Launch) (h : Hp) (hI : Inv h) (a : Nat) (na : Nat) (ha : isA a na = true) (f : Int) (hf : I32 f) (g : Int) (hg : I32 g) (w nw : Nat) (hw : (w, nw) ∈ saL) (g0 : 0 ≤ f ∧ f ≤ 640000) (g1 : -1 ≤ g ∧ g ≤ (na : Int)) : Ct l D_X12_just 0 0 [.inr (.inr a), .inl f, .inl g, .inr (.inr w)] h (Q_X12_just_vb h a f g w nw) := by
  refine ct_of pn_X12_just (Nat.le_of_ble_eq_true rfl) ?_
  show To l E_X12_just (0, [(0, .inr (.inr a)), (1, .inl f), (2, .inl g), (3, .inr (.inr w))], [], h, 0, 0) _
  have la := isA_le ha
  have lw := sa_n hw
  refine to_iload_n (dat dk_X12_just 0 rfl) rfl (to_iload_n (dat dk_X12_just 1 rfl) rfl (to_isub (dat dk_X12_just 2 rfl) (to_aload_np (dat dk_X12_just 3 rfl) (sa_pos hw) rfl (to_saLen hw (dat dk_X12_just 4 rfl) ?_))))
  refine to_ieq 10 (dat dk_X12_just 5 rfl) rfl (by omega) (by omega) (fun c1 => ?_) (fun c1 => ?_)
  · skip
    refine to_iconst (dat dk_X12_just 8 rfl) (to_istore (L' := [(0, .inr (.inr a)), (1, .inl f), (2, .inl g), (3, .inr (.inr w)), (4, .inl 0)]) (dat dk_X12_just 9 rfl) (by decide) rfl ?_)
    have lp13_n4 : ∀ (n4 : Nat) (y2 : Int), (I32 y2) → (0 ≤ y2) → ((nw : Int) - y2 ≤ (n4 : Int)) → To l E_X12_just (13, [(0, .inr (.inr a)), (1, .inl f), (2, .inl g), (3, .inr (.inr w)), (4, .inl y2)], [], h, 0, 0) (Q_X12_just_vb h a f g w nw) := by
      intro n4
      induction n4 using Nat.strongRecOn with
      | _ n4 ihn4 =>
      intro y2 ry2 c3 c5
      refine to_iload (dat dk_X12_just 10 rfl) rfl (to_aload_np (dat dk_X12_just 11 rfl) (sa_pos hw) rfl (to_saLen hw (dat dk_X12_just 12 rfl) ?_))
      refine to_ige 41 (dat dk_X12_just 13 rfl) rfl ry2 (by omega) (fun c6 => ?_) (fun c6 => ?_)
      · skip
        refine to_iconst (dat dk_X12_just 27 rfl) ?_
        exact to_zret rfl (dat dk_X12_just 28 rfl) (by decide) (ri_mk (by decide) ⟨rfl, (by decide), (show (1 : Int) = 0 ∨ g - f = (nw : Int) by omega)⟩)
      · skip
        refine to_aload_np (dat dk_X12_just 14 rfl) (hI.posN (hI.aT ha)) rfl (to_iload_n (dat dk_X12_just 15 rfl) rfl (to_iload (dat dk_X12_just 16 rfl) rfl (to_iadd (dat dk_X12_just 17 rfl) ?_)))
        obtain ⟨x7, ex7⟩ : ∃ y : Int, h.2.2 a (Int.toNat (f + y2)) = y := ⟨_, rfl⟩
        have rx7 := hI.aC (j := Int.toNat (f + y2)) ha
        rw [ex7] at rx7
        refine to_baldv (q := 1) ex7 (dat dk_X12_just 18 rfl) (by decide) (hI.aT ha) rfl (isA_n ha) (by omega) (to_aload_np (dat dk_X12_just 19 rfl) (sa_pos hw) rfl (to_iload (dat dk_X12_just 20 rfl) rfl ?_))
        refine to_saInt hw (dat dk_X12_just 21 rfl) (by omega) (fun x8 rx8 => ?_)
        refine to_ieq 35 (dat dk_X12_just 22 rfl) rfl (by omega) (by omega) (fun c9 => ?_) (fun c9 => ?_)
        · skip
          refine to_iinc (L' := [(0, .inr (.inr a)), (1, .inl f), (2, .inl g), (3, .inr (.inr w)), (4, .inl (y2 + 1))]) (dat dk_X12_just 25 rfl) rfl (by decide) rfl (to_goto (dat dk_X12_just 26 rfl) rfl ?_)
          exact ihn4 (n4 - 1) (by omega) (y2 + 1) (by omega) (show 0 ≤ (y2 + 1) by omega) (show (nw : Int) - (y2 + 1) ≤ ((n4 - 1 : Nat) : Int) by omega)
        · skip
          refine to_iconst (dat dk_X12_just 23 rfl) ?_
          exact to_zret rfl (dat dk_X12_just 24 rfl) (by decide) (ri_mk (by decide) ⟨rfl, (by decide), (show (0 : Int) = 0 ∨ g - f = (nw : Int) by omega)⟩)
    exact lp13_n4 ((nw : Int) - (0 : Int)).toNat 0 (by decide) (show 0 ≤ (0 : Int) by omega) (by omega)
  · skip
    refine to_iconst (dat dk_X12_just 6 rfl) ?_
    exact to_zret rfl (dat dk_X12_just 7 rfl) (by decide) (ri_mk (by decide) ⟨rfl, (by decide), (show (0 : Int) = 0 ∨ g - f = (nw : Int) by omega)⟩)
abbrev Q_X12_wordEnd_vb (h : Hp) (f : Int) : Option V → Hp → Nat → Nat → Prop := RI (fun x H => h = H ∧ (f ≤ x ∧ x ≤ H.2.2 60 44) ∧ ((f < x ∧ sp (H.2.2 88 (Int.toNat f)) = 0) ∨ (x = f ∧ (f = H.2.2 60 44 ∨ sp (H.2.2 88 (Int.toNat f)) = 1))) ∧ (x = H.2.2 60 44 ∨ sp (H.2.2 88 (Int.toNat x)) = 1))
set_option maxRecDepth 100000 in
theorem ct_X12_wordEnd_vb (l : Launch) (h : Hp) (hI : Inv h) (f : Int) (hf : I32 f) (g0 : 0 ≤ f ∧ f ≤ h.2.2 60 44) : Ct l D_X12_wordEnd 1 20 [.inr (.inr 60), .inl f] h (Q_X12_wordEnd_vb h f) := by
  refine ct_of pn_X12_wordEnd (Nat.le_of_ble_eq_true rfl) ?_
  show To l E_X12_wordEnd (0, [(0, .inr (.inr 60)), (1, .inl f)], [], h, 0, 0) _
  refine to_iload_n (dat dk_X12_wordEnd 0 rfl) rfl (to_istore_n (L' := [(0, .inr (.inr 60)), (1, .inl f), (2, .inl f)]) (dat dk_X12_wordEnd 1 rfl) (by decide) rfl (to_iload_n (dat dk_X12_wordEnd 2 rfl) rfl (to_aload_n (dat dk_X12_wordEnd 3 rfl) rfl ?_)))
  obtain ⟨x1, ex1⟩ : ∃ y : Int, h.2.2 60 44 = y := ⟨_, rfl⟩
  have rx1 := hI.atR (a := 60) (j := 44) rfl
  rw [ex1] at rx1
  refine to_getIv (y := x1) ex1 g_c13_412 (dat dk_X12_wordEnd 4 rfl) (hI.atS rfl) ?_
  refine to_ige 61 (dat dk_X12_wordEnd 5 rfl) rfl hf (by omega) (fun c2 => ?_) (fun c2 => ?_)
  · skip
    refine to_iload_n (dat dk_X12_wordEnd 32 rfl) rfl ?_
    exact to_iret rfl (dat dk_X12_wordEnd 33 rfl) (ri_mk hf ⟨rfl, (show f ≤ f ∧ f ≤ h.2.2 60 44 by omega), (show (f < f ∧ sp (h.2.2 88 (Int.toNat f)) = 0) ∨ (f = f ∧ (f = h.2.2 60 44 ∨ sp (h.2.2 88 (Int.toNat f)) = 1)) by omega), (show f = h.2.2 60 44 ∨ sp (h.2.2 88 (Int.toNat f)) = 1 by omega)⟩)
  · skip
    refine to_aload_n (dat dk_X12_wordEnd 6 rfl) rfl (to_getR 88 g_c13_100 (dat dk_X12_wordEnd 7 rfl) (hI.atS rfl) (hI.atE rfl) (to_iload_n (dat dk_X12_wordEnd 8 rfl) rfl ?_))
    obtain ⟨x3, ex3⟩ : ∃ y : Int, h.2.2 88 (Int.toNat f) = y := ⟨_, rfl⟩
    have rx3 := hI.atR (a := 88) (j := Int.toNat f) rfl
    rw [ex3] at rx3
    refine to_baldv (q := 1) ex3 (dat dk_X12_wordEnd 9 rfl) (by decide) (hI.atS rfl) rfl (by decide) (by omega) ?_
    have z4 := sp_c x3
    have z5 : sp (h.2.2 88 (Int.toNat f)) = sp x3 := by rw [ex3]
    refine to_cI ca_c13_182 (dat dk_X12_wordEnd 10 rfl) (ct_X12_isBlank_vb l h hI x3 (by omega)) rfl trivial rfl (fun x6 h7 rx6 p8 => ?_)
    obtain ⟨rfl, zx6, p8_0⟩ := p8
    refine to_ifne 61 (dat dk_X12_wordEnd 11 rfl) rfl rx6 (fun c9 => ?_) (fun c9 => ?_)
    · skip
      refine to_iload_n (dat dk_X12_wordEnd 32 rfl) rfl ?_
      exact to_iret rfl (dat dk_X12_wordEnd 33 rfl) (ri_mk hf ⟨rfl, (show f ≤ f ∧ f ≤ h.2.2 60 44 by omega), (show (f < f ∧ sp (h.2.2 88 (Int.toNat f)) = 0) ∨ (f = f ∧ (f = h.2.2 60 44 ∨ sp (h.2.2 88 (Int.toNat f)) = 1)) by omega), (show f = h.2.2 60 44 ∨ sp (h.2.2 88 (Int.toNat f)) = 1 by omega)⟩)
    · skip
      refine to_aload_n (dat dk_X12_wordEnd 12 rfl) rfl (to_getR 88 g_c13_100 (dat dk_X12_wordEnd 13 rfl) (hI.atS rfl) (hI.atE rfl) (to_iload_n (dat dk_X12_wordEnd 14 rfl) rfl ?_))
      obtain ⟨x10, ex10⟩ : ∃ y : Int, h.2.2 88 (Int.toNat f) = y := ⟨_, rfl⟩
      have rx10 := hI.atR (a := 88) (j := Int.toNat f) rfl
      rw [ex10] at rx10
      refine to_baldv (q := 1) ex10 (dat dk_X12_wordEnd 15 rfl) (by decide) (hI.atS rfl) rfl (by decide) (by omega) (to_bipush (dat dk_X12_wordEnd 16 rfl) (by decide) ?_)
      refine to_ieq 61 (dat dk_X12_wordEnd 17 rfl) rfl (by omega) (by decide) (fun c11 => ?_) (fun c11 => ?_)
      · skip
        refine to_iload_n (dat dk_X12_wordEnd 32 rfl) rfl ?_
        exact to_iret rfl (dat dk_X12_wordEnd 33 rfl) (ri_mk hf ⟨rfl, (show f ≤ f ∧ f ≤ h.2.2 60 44 by omega), (show (f < f ∧ sp (h.2.2 88 (Int.toNat f)) = 0) ∨ (f = f ∧ (f = h.2.2 60 44 ∨ sp (h.2.2 88 (Int.toNat f)) = 1)) by omega), (show f = h.2.2 60 44 ∨ sp (h.2.2 88 (Int.toNat f)) = 1 by omega)⟩)
      · skip
        refine to_aload_n (dat dk_X12_wordEnd 18 rfl) rfl (to_getR 88 g_c13_100 (dat dk_X12_wordEnd 19 rfl) (hI.atS rfl) (hI.atE rfl) (to_iload_n (dat dk_X12_wordEnd 20 rfl) rfl ?_))
        obtain ⟨x12, ex12⟩ : ∃ y : Int, h.2.2 88 (Int.toNat f) = y := ⟨_, rfl⟩
        have rx12 := hI.atR (a := 88) (j := Int.toNat f) rfl
        rw [ex12] at rx12
        refine to_baldv (q := 1) ex12 (dat dk_X12_wordEnd 21 rfl) (by decide) (hI.atS rfl) rfl (by decide) (by omega) (to_bipush (dat dk_X12_wordEnd 22 rfl) (by decide) ?_)
        refine to_ieq 61 (dat dk_X12_wordEnd 23 rfl) rfl (by omega) (by decide) (fun c13 => ?_) (fun c13 => ?_)
        · skip
          refine to_iload_n (dat dk_X12_wordEnd 32 rfl) rfl ?_
          exact to_iret rfl (dat dk_X12_wordEnd 33 rfl) (ri_mk hf ⟨rfl, (show f ≤ f ∧ f ≤ h.2.2 60 44 by omega), (show (f < f ∧ sp (h.2.2 88 (Int.toNat f)) = 0) ∨ (f = f ∧ (f = h.2.2 60 44 ∨ sp (h.2.2 88 (Int.toNat f)) = 1)) by omega), (show f = h.2.2 60 44 ∨ sp (h.2.2 88 (Int.toNat f)) = 1 by omega)⟩)
        · skip
          refine to_aload_n (dat dk_X12_wordEnd 24 rfl) rfl (to_getR 88 g_c13_100 (dat dk_X12_wordEnd 25 rfl) (hI.atS rfl) (hI.atE rfl) (to_iload_n (dat dk_X12_wordEnd 26 rfl) rfl ?_))
          obtain ⟨x14, ex14⟩ : ∃ y : Int, h.2.2 88 (Int.toNat f) = y := ⟨_, rfl⟩
          have rx14 := hI.atR (a := 88) (j := Int.toNat f) rfl
          rw [ex14] at rx14
          refine to_baldv (q := 1) ex14 (dat dk_X12_wordEnd 27 rfl) (by decide) (hI.atS rfl) rfl (by decide) (by omega) (to_bipush (dat dk_X12_wordEnd 28 rfl) (by decide) ?_)
          refine to_ieq 61 (dat dk_X12_wordEnd 29 rfl) rfl (by omega) (by decide) (fun c15 => ?_) (fun c15 => ?_)
          · skip
            refine to_iload_n (dat dk_X12_wordEnd 32 rfl) rfl ?_
            exact to_iret rfl (dat dk_X12_wordEnd 33 rfl) (ri_mk hf ⟨rfl, (show f ≤ f ∧ f ≤ h.2.2 60 44 by omega), (show (f < f ∧ sp (h.2.2 88 (Int.toNat f)) = 0) ∨ (f = f ∧ (f = h.2.2 60 44 ∨ sp (h.2.2 88 (Int.toNat f)) = 1)) by omega), (show f = h.2.2 60 44 ∨ sp (h.2.2 88 (Int.toNat f)) = 1 by omega)⟩)
          · skip
            refine to_iinc (L' := [(0, .inr (.inr 60)), (1, .inl f), (2, .inl (f + 1))]) (dat dk_X12_wordEnd 30 rfl) rfl (by decide) rfl (to_goto (dat dk_X12_wordEnd 31 rfl) rfl ?_)
            have lp2_n19 : ∀ (n19 : Nat) (y16 : Int), (I32 y16) → (f < y16 ∧ y16 ≤ h.2.2 60 44) → (f < h.2.2 60 44 ∧ sp (h.2.2 88 (Int.toNat f)) = 0) → (h.2.2 60 44 - y16 ≤ (n19 : Int)) → To l E_X12_wordEnd (2, [(0, .inr (.inr 60)), (1, .inl f), (2, .inl y16)], [], h, 0, 0) (Q_X12_wordEnd_vb h f) := by
              intro n19
              induction n19 using Nat.strongRecOn with
              | _ n19 ihn19 =>
              intro y16 ry16 c17 c18 c20
              refine to_iload_n (dat dk_X12_wordEnd 2 rfl) rfl (to_aload_n (dat dk_X12_wordEnd 3 rfl) rfl (to_getIv (y := x1) ex1 g_c13_412 (dat dk_X12_wordEnd 4 rfl) (hI.atS rfl) ?_))
              refine to_ige 61 (dat dk_X12_wordEnd 5 rfl) rfl ry16 (by omega) (fun c21 => ?_) (fun c21 => ?_)
              · skip
                refine to_iload_n (dat dk_X12_wordEnd 32 rfl) rfl ?_
                exact to_iret rfl (dat dk_X12_wordEnd 33 rfl) (ri_mk ry16 ⟨rfl, (show f ≤ y16 ∧ y16 ≤ h.2.2 60 44 by omega), (show (f < y16 ∧ sp (h.2.2 88 (Int.toNat f)) = 0) ∨ (y16 = f ∧ (f = h.2.2 60 44 ∨ sp (h.2.2 88 (Int.toNat f)) = 1)) by omega), (show y16 = h.2.2 60 44 ∨ sp (h.2.2 88 (Int.toNat y16)) = 1 by omega)⟩)
              · skip
                refine to_aload_n (dat dk_X12_wordEnd 6 rfl) rfl (to_getR 88 g_c13_100 (dat dk_X12_wordEnd 7 rfl) (hI.atS rfl) (hI.atE rfl) (to_iload_n (dat dk_X12_wordEnd 8 rfl) rfl ?_))
                obtain ⟨x22, ex22⟩ : ∃ y : Int, h.2.2 88 (Int.toNat y16) = y := ⟨_, rfl⟩
                have rx22 := hI.atR (a := 88) (j := Int.toNat y16) rfl
                rw [ex22] at rx22
                refine to_baldv (q := 1) ex22 (dat dk_X12_wordEnd 9 rfl) (by decide) (hI.atS rfl) rfl (by decide) (by omega) ?_
                have z23 := sp_c x22
                have z24 : sp (h.2.2 88 (Int.toNat y16)) = sp x22 := by rw [ex22]
                refine to_cI ca_c13_182 (dat dk_X12_wordEnd 10 rfl) (ct_X12_isBlank_vb l h hI x22 (by omega)) rfl trivial rfl (fun x25 h26 rx25 p27 => ?_)
                obtain ⟨rfl, zx25, p27_0⟩ := p27
                refine to_ifne 61 (dat dk_X12_wordEnd 11 rfl) rfl rx25 (fun c28 => ?_) (fun c28 => ?_)
                · skip
                  refine to_iload_n (dat dk_X12_wordEnd 32 rfl) rfl ?_
                  exact to_iret rfl (dat dk_X12_wordEnd 33 rfl) (ri_mk ry16 ⟨rfl, (show f ≤ y16 ∧ y16 ≤ h.2.2 60 44 by omega), (show (f < y16 ∧ sp (h.2.2 88 (Int.toNat f)) = 0) ∨ (y16 = f ∧ (f = h.2.2 60 44 ∨ sp (h.2.2 88 (Int.toNat f)) = 1)) by omega), (show y16 = h.2.2 60 44 ∨ sp (h.2.2 88 (Int.toNat y16)) = 1 by omega)⟩)
                · skip
                  refine to_aload_n (dat dk_X12_wordEnd 12 rfl) rfl (to_getR 88 g_c13_100 (dat dk_X12_wordEnd 13 rfl) (hI.atS rfl) (hI.atE rfl) (to_iload_n (dat dk_X12_wordEnd 14 rfl) rfl ?_))
                  obtain ⟨x29, ex29⟩ : ∃ y : Int, h.2.2 88 (Int.toNat y16) = y := ⟨_, rfl⟩
                  have rx29 := hI.atR (a := 88) (j := Int.toNat y16) rfl
                  rw [ex29] at rx29
                  refine to_baldv (q := 1) ex29 (dat dk_X12_wordEnd 15 rfl) (by decide) (hI.atS rfl) rfl (by decide) (by omega) (to_bipush (dat dk_X12_wordEnd 16 rfl) (by decide) ?_)
                  refine to_ieq 61 (dat dk_X12_wordEnd 17 rfl) rfl (by omega) (by decide) (fun c30 => ?_) (fun c30 => ?_)
                  · skip
                    refine to_iload_n (dat dk_X12_wordEnd 32 rfl) rfl ?_
                    exact to_iret rfl (dat dk_X12_wordEnd 33 rfl) (ri_mk ry16 ⟨rfl, (show f ≤ y16 ∧ y16 ≤ h.2.2 60 44 by omega), (show (f < y16 ∧ sp (h.2.2 88 (Int.toNat f)) = 0) ∨ (y16 = f ∧ (f = h.2.2 60 44 ∨ sp (h.2.2 88 (Int.toNat f)) = 1)) by omega), (show y16 = h.2.2 60 44 ∨ sp (h.2.2 88 (Int.toNat y16)) = 1 by omega)⟩)
                  · skip
                    refine to_aload_n (dat dk_X12_wordEnd 18 rfl) rfl (to_getR 88 g_c13_100 (dat dk_X12_wordEnd 19 rfl) (hI.atS rfl) (hI.atE rfl) (to_iload_n (dat dk_X12_wordEnd 20 rfl) rfl ?_))
                    obtain ⟨x31, ex31⟩ : ∃ y : Int, h.2.2 88 (Int.toNat y16) = y := ⟨_, rfl⟩
                    have rx31 := hI.atR (a := 88) (j := Int.toNat y16) rfl
                    rw [ex31] at rx31
                    refine to_baldv (q := 1) ex31 (dat dk_X12_wordEnd 21 rfl) (by decide) (hI.atS rfl) rfl (by decide) (by omega) (to_bipush (dat dk_X12_wordEnd 22 rfl) (by decide) ?_)
                    refine to_ieq 61 (dat dk_X12_wordEnd 23 rfl) rfl (by omega) (by decide) (fun c32 => ?_) (fun c32 => ?_)
                    · skip
                      refine to_iload_n (dat dk_X12_wordEnd 32 rfl) rfl ?_
                      exact to_iret rfl (dat dk_X12_wordEnd 33 rfl) (ri_mk ry16 ⟨rfl, (show f ≤ y16 ∧ y16 ≤ h.2.2 60 44 by omega), (show (f < y16 ∧ sp (h.2.2 88 (Int.toNat f)) = 0) ∨ (y16 = f ∧ (f = h.2.2 60 44 ∨ sp (h.2.2 88 (Int.toNat f)) = 1)) by omega), (show y16 = h.2.2 60 44 ∨ sp (h.2.2 88 (Int.toNat y16)) = 1 by omega)⟩)
                    · skip
                      refine to_aload_n (dat dk_X12_wordEnd 24 rfl) rfl (to_getR 88 g_c13_100 (dat dk_X12_wordEnd 25 rfl) (hI.atS rfl) (hI.atE rfl) (to_iload_n (dat dk_X12_wordEnd 26 rfl) rfl ?_))
                      obtain ⟨x33, ex33⟩ : ∃ y : Int, h.2.2 88 (Int.toNat y16) = y := ⟨_, rfl⟩
                      have rx33 := hI.atR (a := 88) (j := Int.toNat y16) rfl
                      rw [ex33] at rx33
                      refine to_baldv (q := 1) ex33 (dat dk_X12_wordEnd 27 rfl) (by decide) (hI.atS rfl) rfl (by decide) (by omega) (to_bipush (dat dk_X12_wordEnd 28 rfl) (by decide) ?_)
                      refine to_ieq 61 (dat dk_X12_wordEnd 29 rfl) rfl (by omega) (by decide) (fun c34 => ?_) (fun c34 => ?_)
                      · skip
                        refine to_iload_n (dat dk_X12_wordEnd 32 rfl) rfl ?_
                        exact to_iret rfl (dat dk_X12_wordEnd 33 rfl) (ri_mk ry16 ⟨rfl, (show f ≤ y16 ∧ y16 ≤ h.2.2 60 44 by omega), (show (f < y16 ∧ sp (h.2.2 88 (Int.toNat f)) = 0) ∨ (y16 = f ∧ (f = h.2.2 60 44 ∨ sp (h.2.2 88 (Int.toNat f)) = 1)) by omega), (show y16 = h.2.2 60 44 ∨ sp (h.2.2 88 (Int.toNat y16)) = 1 by omega)⟩)
                      · skip
                        refine to_iinc (L' := [(0, .inr (.inr 60)), (1, .inl f), (2, .inl (y16 + 1))]) (dat dk_X12_wordEnd 30 rfl) rfl (by decide) rfl (to_goto (dat dk_X12_wordEnd 31 rfl) rfl ?_)
                        exact ihn19 (n19 - 1) (by omega) (y16 + 1) (by omega) (show f < (y16 + 1) ∧ (y16 + 1) ≤ h.2.2 60 44 by omega) (show f < h.2.2 60 44 ∧ sp (h.2.2 88 (Int.toNat f)) = 0 by omega) (show h.2.2 60 44 - (y16 + 1) ≤ ((n19 - 1 : Nat) : Int) by omega)
            exact lp2_n19 (h.2.2 60 44 - (f + 1)).toNat (f + 1) (by omega) (show f < (f + 1) ∧ (f + 1) ≤ h.2.2 60 44 by omega) (show f < h.2.2 60 44 ∧ sp (h.2.2 88 (Int.toNat f)) = 0 by omega) (by omega)
abbrev Q_X12_fieldOf (h : Hp) (f : Int) (g : Int) : Option V → Hp → Nat → Nat → Prop := RI (fun x H => h = H ∧ (x = -1 ∨ (0 ≤ x ∧ x ≤ 7 ∧ FE (x + 1) - FE x ≤ g - f)))
set_option maxRecDepth 100000 in
theorem ct_X12_fieldOf (l : Launch) (h : Hp) (hI : Inv h) (f : Int) (hf : I32 f) (g : Int) (hg : I32 g) (g0 : 0 ≤ f ∧ f ≤ g) (g1 : g ≤ h.2.2 60 44) : Ct l D_X12_fieldOf 0 0 [.inr (.inr 60), .inl f, .inl g] h (Q_X12_fieldOf h f g) := by
  refine ct_of pn_X12_fieldOf (Nat.le_of_ble_eq_true rfl) ?_
  show To l E_X12_fieldOf (0, [(0, .inr (.inr 60)), (1, .inl f), (2, .inl g)], [], h, 0, 0) _
  have z44 := hI.atR (a := 60) (j := 44) rfl
  refine to_iconst (dat dk_X12_fieldOf 0 rfl) (to_istore_n (L' := [(0, .inr (.inr 60)), (1, .inl f), (2, .inl g), (3, .inl 0)]) (dat dk_X12_fieldOf 1 rfl) (by decide) rfl ?_)
  have lp2_n3 : ∀ (n3 : Nat) (y1 : Int), (I32 y1) → (0 ≤ y1 ∧ y1 ≤ 8) → (8 - y1 ≤ (n3 : Int)) → To l E_X12_fieldOf (2, [(0, .inr (.inr 60)), (1, .inl f), (2, .inl g), (3, .inl y1)], [], h, 0, 0) (Q_X12_fieldOf h f g) := by
    intro n3
    induction n3 using Nat.strongRecOn with
    | _ n3 ihn3 =>
    intro y1 ry1 c2 c4
    refine to_iload_n (dat dk_X12_fieldOf 2 rfl) rfl (to_bipush (dat dk_X12_fieldOf 3 rfl) (by decide) ?_)
    refine to_ige 103 (dat dk_X12_fieldOf 4 rfl) rfl ry1 (by decide) (fun c5 => ?_) (fun c5 => ?_)
    · skip
      refine to_iconst (dat dk_X12_fieldOf 57 rfl) ?_
      exact to_iret rfl (dat dk_X12_fieldOf 58 rfl) (ri_mk (by decide) ⟨rfl, (show (-1 : Int) = -1 ∨ (0 ≤ (-1 : Int) ∧ (-1 : Int) ≤ 7 ∧ FE ((-1 : Int) + 1) - FE (-1 : Int) ≤ g - f) by omega)⟩)
    · skip
      have z6 := FE_c (f := y1) (by omega)
      refine to_gst (C := "MailArchiveModel") (f9 := "FIELD_ENDS") (d9 := "[I") (List.mem_of_getElem? (i := 8) rfl) (tin 7 237 (by decide +kernel) rfl) (dat dk_X12_fieldOf 5 rfl) (to_iload_n (dat dk_X12_fieldOf 6 rfl) rfl (to_iconst (dat dk_X12_fieldOf 7 rfl) (to_iadd (dat dk_X12_fieldOf 8 rfl) ?_)))
      refine to_ialdFE (dat dk_X12_fieldOf 9 rfl) (by omega) ?_
      refine to_gst (C := "MailArchiveModel") (f9 := "FIELD_ENDS") (d9 := "[I") (List.mem_of_getElem? (i := 8) rfl) (tin 7 237 (by decide +kernel) rfl) (dat dk_X12_fieldOf 10 rfl) (to_iload_n (dat dk_X12_fieldOf 11 rfl) rfl ?_)
      refine to_ialdFE (dat dk_X12_fieldOf 12 rfl) (by omega) ?_
      refine to_isub (dat dk_X12_fieldOf 13 rfl) (to_istore (L' := [(0, .inr (.inr 60)), (1, .inl f), (2, .inl g), (3, .inl y1), (4, .inl ((FE (y1 + 1)) - (FE y1)))]) (dat dk_X12_fieldOf 14 rfl) (by decide) rfl ?_)
      have jn36_n11 : ∀ (y9 : Int), (y9 = 0 ∨ y9 = 1) → (y9 = 0 ∨ ((FE (y1 + 1)) - (FE y1)) ≤ g - f) → To l E_X12_fieldOf (36, [(0, .inr (.inr 60)), (1, .inl f), (2, .inl g), (3, .inl y1), (4, .inl ((FE (y1 + 1)) - (FE y1)))], [.inl y9], h, 0, 0) (Q_X12_fieldOf h f g) := by
        intro y9 ry9 c10
        refine to_istore (L' := [(0, .inr (.inr 60)), (1, .inl f), (2, .inl g), (3, .inl y1), (4, .inl ((FE (y1 + 1)) - (FE y1))), (5, .inl y9)]) (dat dk_X12_fieldOf 23 rfl) (by decide) rfl (to_iconst (dat dk_X12_fieldOf 24 rfl) (to_istore (L' := [(0, .inr (.inr 60)), (1, .inl f), (2, .inl g), (3, .inl y1), (4, .inl ((FE (y1 + 1)) - (FE y1))), (5, .inl y9), (6, .inl 0)]) (dat dk_X12_fieldOf 25 rfl) (by decide) rfl ?_))
        have lp41_n16 : ∀ (n16 : Nat) (y12 : Int) (y13 : Int), (y12 = 0 ∨ y12 = 1) → (I32 y13) → (0 ≤ y13) → (y12 = 0 ∨ ((FE (y1 + 1)) - (FE y1)) ≤ g - f) → (((FE (y1 + 1)) - (FE y1)) - y13 ≤ (n16 : Int)) → To l E_X12_fieldOf (41, [(0, .inr (.inr 60)), (1, .inl f), (2, .inl g), (3, .inl y1), (4, .inl ((FE (y1 + 1)) - (FE y1))), (5, .inl y12), (6, .inl y13)], [], h, 0, 0) (Q_X12_fieldOf h f g) := by
          intro n16
          induction n16 using Nat.strongRecOn with
          | _ n16 ihn16 =>
          intro y12 y13 ry12 ry13 c14 c15 c17
          refine to_iload (dat dk_X12_fieldOf 26 rfl) rfl (to_iload (dat dk_X12_fieldOf 27 rfl) rfl ?_)
          refine to_ige 90 (dat dk_X12_fieldOf 28 rfl) rfl ry13 (by omega) (fun c18 => ?_) (fun c18 => ?_)
          · skip
            refine to_iload (dat dk_X12_fieldOf 51 rfl) rfl ?_
            refine to_ifeq 97 (dat dk_X12_fieldOf 52 rfl) rfl (by omega) (fun c19 => ?_) (fun c19 => ?_)
            · skip
              refine to_iinc (L' := [(0, .inr (.inr 60)), (1, .inl f), (2, .inl g), (3, .inl (y1 + 1)), (4, .inl ((FE (y1 + 1)) - (FE y1))), (5, .inl y12), (6, .inl y13)]) (dat dk_X12_fieldOf 55 rfl) rfl (by decide) rfl (to_goto (dat dk_X12_fieldOf 56 rfl) rfl ?_)
              refine to_pick [0, 1, 2, 3] rfl ?_
              exact ihn3 (n3 - 1) (by omega) (y1 + 1) (by omega) (show 0 ≤ (y1 + 1) ∧ (y1 + 1) ≤ 8 by omega) (show 8 - (y1 + 1) ≤ ((n3 - 1 : Nat) : Int) by omega)
            · skip
              refine to_iload_n (dat dk_X12_fieldOf 53 rfl) rfl ?_
              exact to_iret rfl (dat dk_X12_fieldOf 54 rfl) (ri_mk ry1 ⟨rfl, (show y1 = -1 ∨ (0 ≤ y1 ∧ y1 ≤ 7 ∧ FE (y1 + 1) - FE y1 ≤ g - f) by omega)⟩)
          · skip
            refine to_iload (dat dk_X12_fieldOf 29 rfl) rfl ?_
            refine to_ifeq 90 (dat dk_X12_fieldOf 30 rfl) rfl (by omega) (fun c20 => ?_) (fun c20 => ?_)
            · skip
              refine to_iload (dat dk_X12_fieldOf 51 rfl) rfl ?_
              refine to_ifeq 97 (dat dk_X12_fieldOf 52 rfl) rfl (by omega) (fun c21 => ?_) (fun c21 => ?_)
              · skip
                refine to_iinc (L' := [(0, .inr (.inr 60)), (1, .inl f), (2, .inl g), (3, .inl (y1 + 1)), (4, .inl ((FE (y1 + 1)) - (FE y1))), (5, .inl y12), (6, .inl y13)]) (dat dk_X12_fieldOf 55 rfl) rfl (by decide) rfl (to_goto (dat dk_X12_fieldOf 56 rfl) rfl ?_)
                refine to_pick [0, 1, 2, 3] rfl ?_
                exact ihn3 (n3 - 1) (by omega) (y1 + 1) (by omega) (show 0 ≤ (y1 + 1) ∧ (y1 + 1) ≤ 8 by omega) (show 8 - (y1 + 1) ≤ ((n3 - 1 : Nat) : Int) by omega)
              · skip
                refine to_iload_n (dat dk_X12_fieldOf 53 rfl) rfl ?_
                exact to_iret rfl (dat dk_X12_fieldOf 54 rfl) (ri_mk ry1 ⟨rfl, (show y1 = -1 ∨ (0 ≤ y1 ∧ y1 ≤ 7 ∧ FE (y1 + 1) - FE y1 ≤ g - f) by omega)⟩)
            · skip
              have jn82_n24 : ∀ (y22 : Int), (y22 = 0 ∨ y22 = 1) → (((FE (y1 + 1)) - (FE y1)) ≤ g - f) → To l E_X12_fieldOf (82, [(0, .inr (.inr 60)), (1, .inl f), (2, .inl g), (3, .inl y1), (4, .inl ((FE (y1 + 1)) - (FE y1))), (5, .inl y12), (6, .inl y13)], [.inl y22], h, 0, 0) (Q_X12_fieldOf h f g) := by
                intro y22 ry22 c23
                refine to_istore (L' := [(0, .inr (.inr 60)), (1, .inl f), (2, .inl g), (3, .inl y1), (4, .inl ((FE (y1 + 1)) - (FE y1))), (5, .inl y22), (6, .inl y13)]) (dat dk_X12_fieldOf 48 rfl) (by decide) rfl (to_iinc (L' := [(0, .inr (.inr 60)), (1, .inl f), (2, .inl g), (3, .inl y1), (4, .inl ((FE (y1 + 1)) - (FE y1))), (5, .inl y22), (6, .inl (y13 + 1))]) (dat dk_X12_fieldOf 49 rfl) rfl (by decide) rfl (to_goto (dat dk_X12_fieldOf 50 rfl) rfl ?_))
                exact ihn16 (n16 - 1) (by omega) y22 (y13 + 1) (by omega) (by omega) (show 0 ≤ (y13 + 1) by omega) (show y22 = 0 ∨ ((FE (y1 + 1)) - (FE y1)) ≤ g - f by omega) (show ((FE (y1 + 1)) - (FE y1)) - (y13 + 1) ≤ ((n16 - 1 : Nat) : Int) by omega)
              refine to_aload_n (dat dk_X12_fieldOf 31 rfl) rfl (to_getR 88 g_c13_100 (dat dk_X12_fieldOf 32 rfl) (hI.atS rfl) (hI.atE rfl) (to_iload_n (dat dk_X12_fieldOf 33 rfl) rfl (to_iload (dat dk_X12_fieldOf 34 rfl) rfl (to_iadd (dat dk_X12_fieldOf 35 rfl) ?_))))
              obtain ⟨x25, ex25⟩ : ∃ y : Int, h.2.2 88 (Int.toNat (f + y13)) = y := ⟨_, rfl⟩
              have rx25 := hI.atR (a := 88) (j := Int.toNat (f + y13)) rfl
              rw [ex25] at rx25
              refine to_baldv (q := 1) ex25 (dat dk_X12_fieldOf 36 rfl) (by decide) (hI.atS rfl) rfl (by decide) (by omega) (to_gst (C := "MailArchiveModel") (f9 := "FIELDS") (d9 := "[I") (List.mem_of_getElem? (i := 7) rfl) (tin 7 239 (by decide +kernel) rfl) (dat dk_X12_fieldOf 37 rfl) (to_gst (C := "MailArchiveModel") (f9 := "FIELD_ENDS") (d9 := "[I") (List.mem_of_getElem? (i := 8) rfl) (tin 7 237 (by decide +kernel) rfl) (dat dk_X12_fieldOf 38 rfl) (to_iload_n (dat dk_X12_fieldOf 39 rfl) rfl ?_)))
              refine to_ialdFE (dat dk_X12_fieldOf 40 rfl) (by omega) ?_
              refine to_iload (dat dk_X12_fieldOf 41 rfl) rfl (to_iadd (dat dk_X12_fieldOf 42 rfl) ?_)
              refine to_saInt (List.mem_of_getElem? (i := 5) rfl) (dat dk_X12_fieldOf 43 rfl) (by omega) (fun x27 rx27 => ?_)
              refine to_ine 81 (dat dk_X12_fieldOf 44 rfl) rfl (by omega) (by omega) (fun c28 => ?_) (fun c28 => ?_)
              · skip
                refine to_iconst (dat dk_X12_fieldOf 47 rfl) ?_
                exact jn82_n24 0 (by decide) (show ((FE (y1 + 1)) - (FE y1)) ≤ g - f by omega)
              · skip
                refine to_iconst (dat dk_X12_fieldOf 45 rfl) (to_goto (dat dk_X12_fieldOf 46 rfl) rfl ?_)
                exact jn82_n24 1 (by decide) (show ((FE (y1 + 1)) - (FE y1)) ≤ g - f by omega)
        exact lp41_n16 (((FE (y1 + 1)) - (FE y1)) - (0 : Int)).toNat y9 0 (by omega) (by decide) (show 0 ≤ (0 : Int) by omega) (show y9 = 0 ∨ ((FE (y1 + 1)) - (FE y1)) ≤ g - f by omega) (by omega)
      refine to_iload_n (dat dk_X12_fieldOf 15 rfl) rfl (to_iload_n (dat dk_X12_fieldOf 16 rfl) rfl (to_isub (dat dk_X12_fieldOf 17 rfl) (to_iload (dat dk_X12_fieldOf 18 rfl) rfl ?_)))
      refine to_ilt 35 (dat dk_X12_fieldOf 19 rfl) rfl (by omega) (by omega) (fun c29 => ?_) (fun c29 => ?_)
      · skip
        refine to_iconst (dat dk_X12_fieldOf 22 rfl) ?_
        exact jn36_n11 0 (by decide) (show (0 : Int) = 0 ∨ ((FE (y1 + 1)) - (FE y1)) ≤ g - f by omega)
      · skip
        refine to_iconst (dat dk_X12_fieldOf 20 rfl) (to_goto (dat dk_X12_fieldOf 21 rfl) rfl ?_)
        exact jn36_n11 1 (by decide) (show (1 : Int) = 0 ∨ ((FE (y1 + 1)) - (FE y1)) ≤ g - f by omega)
  exact lp2_n3 (8 - (0 : Int)).toNat 0 (by decide) (show 0 ≤ (0 : Int) ∧ (0 : Int) ≤ 8 by omega) (by omega)
abbrev Q_X12_leaf_vb (h : Hp) (c : Int) (f : Int) (g : Int) (p : Int) : Option V → Hp → Nat → Nat → Prop := RI (fun x H => Inv H ∧ Fr [89, 90, 91, 92, 93, 94, 245] h H ∧ (H.2.2 60 45 = h.2.2 60 45 + 1) ∧ (x = h.2.2 60 45) ∧ (LfOK H))
set_option maxRecDepth 100000 in
theorem ct_X12_leaf_vb (l : Launch) (h : Hp) (hI : Inv h) (c : Int) (hc : I32 c) (f : Int) (hf : I32 f) (g : Int) (hg : I32 g) (p : Int) (hp : p = 0 ∨ p = 1) (g0 : 0 ≤ f ∧ f ≤ 1200) (g1 : 0 ≤ g ∧ g ≤ 1200) (g2 : 0 ≤ c ∧ c ≤ 8) (g3 : h.2.2 60 45 ≤ 809) (g4 : LfOK h) (g5 : f ≤ g ∧ (p = 1 ∨ 1 ≤ g)) : Ct l D_X12_leaf 0 0 [.inr (.inr 60), .inl c, .inl f, .inl g, .inl p] h (Q_X12_leaf_vb h c f g p) := by
  refine ct_of pn_X12_leaf (Nat.le_of_ble_eq_true rfl) ?_
  show To l E_X12_leaf (0, [(0, .inr (.inr 60)), (1, .inl c), (2, .inl f), (3, .inl g), (4, .inl p)], [], h, 0, 0) _
  obtain ⟨x1, ex1⟩ : ∃ y : Int, h.2.2 60 45 = y := ⟨_, rfl⟩
  have rx1 := hI.atR (a := 60) (j := 45) rfl
  rw [ex1] at rx1
  refine to_aload_n (dat dk_X12_leaf 0 rfl) rfl (to_getR 89 g_c13_103 (dat dk_X12_leaf 1 rfl) (hI.atS rfl) (hI.atE rfl) (to_aload_n (dat dk_X12_leaf 2 rfl) rfl (to_getIv (y := x1) ex1 g_c13_394 (dat dk_X12_leaf 3 rfl) (hI.atS rfl) (to_iload_n (dat dk_X12_leaf 4 rfl) rfl (to_iastw (dat dk_X12_leaf 5 rfl) (hI.atS rfl) rfl (by decide) (by omega) ?_)))))
  intro h4 wh4
  have I2 : Inv h4 := by rw [wh4]; exact hI.put (a := 89) (j := (Int.toNat x1)) (x := c) (0) (8) rfl rfl (show (0 : Int) ≤ c ∧ c ≤ 8 by omega)
  have f3 : Fr [89, 90, 91, 92, 93, 94, 245] h h4 := by rw [wh4]; exact Fr.putF (a := 89) (j := (Int.toNat x1)) (x := c) (Fr.rf _ _) rfl
  refine to_aload_n (dat dk_X12_leaf 6 rfl) rfl (to_getR 90 g_c13_106 (dat dk_X12_leaf 7 rfl) (I2.atS rfl) (I2.atE rfl) (to_aload_n (dat dk_X12_leaf 8 rfl) rfl (to_getIv (y := x1) (by rw [wh4]; exact ex1) g_c13_394 (dat dk_X12_leaf 9 rfl) (I2.atS rfl) (to_iload_n (dat dk_X12_leaf 10 rfl) rfl (to_iastw (dat dk_X12_leaf 11 rfl) (I2.atS rfl) rfl (by decide) (by omega) ?_)))))
  intro h7 wh7
  have I5 : Inv h7 := by rw [wh7]; exact I2.put (a := 90) (j := (Int.toNat x1)) (x := f) (0) (1200) rfl rfl (show (0 : Int) ≤ f ∧ f ≤ 1200 by omega)
  have f6 : Fr [89, 90, 91, 92, 93, 94, 245] h h7 := by rw [wh7]; exact Fr.putF (a := 90) (j := (Int.toNat x1)) (x := f) f3 rfl
  refine to_aload_n (dat dk_X12_leaf 12 rfl) rfl (to_getR 91 g_c13_109 (dat dk_X12_leaf 13 rfl) (I5.atS rfl) (I5.atE rfl) (to_aload_n (dat dk_X12_leaf 14 rfl) rfl (to_getIv (y := x1) (by rw [wh7]; exact (show h4.2.2 60 45 = x1 from (by rw [wh4]; exact ex1))) g_c13_394 (dat dk_X12_leaf 15 rfl) (I5.atS rfl) (to_iload_n (dat dk_X12_leaf 16 rfl) rfl (to_iastw (dat dk_X12_leaf 17 rfl) (I5.atS rfl) rfl (by decide) (by omega) ?_)))))
  intro h10 wh10
  have I8 : Inv h10 := by rw [wh10]; exact I5.put (a := 91) (j := (Int.toNat x1)) (x := g) (0) (1200) rfl rfl (show (0 : Int) ≤ g ∧ g ≤ 1200 by omega)
  have f9 : Fr [89, 90, 91, 92, 93, 94, 245] h h10 := by rw [wh10]; exact Fr.putF (a := 91) (j := (Int.toNat x1)) (x := g) f6 rfl
  refine to_aload_n (dat dk_X12_leaf 18 rfl) rfl (to_getR 92 g_c13_112 (dat dk_X12_leaf 19 rfl) (I8.atS rfl) (I8.atE rfl) (to_aload_n (dat dk_X12_leaf 20 rfl) rfl (to_getIv (y := x1) (by rw [wh10]; exact (show h7.2.2 60 45 = x1 from (by rw [wh7]; exact (show h4.2.2 60 45 = x1 from (by rw [wh4]; exact ex1))))) g_c13_394 (dat dk_X12_leaf 21 rfl) (I8.atS rfl) (to_iload (dat dk_X12_leaf 22 rfl) rfl (to_zastw (dat dk_X12_leaf 23 rfl) (I8.atS rfl) rfl (by decide) (by omega) (by omega) ?_)))))
  intro h13 wh13
  have I11 : Inv h13 := by rw [wh13]; exact I8.put (a := 92) (j := (Int.toNat x1)) (x := p) (0) (1) rfl rfl (show (0 : Int) ≤ p ∧ p ≤ 1 by omega)
  have f12 : Fr [89, 90, 91, 92, 93, 94, 245] h h13 := by rw [wh13]; exact Fr.putF (a := 92) (j := (Int.toNat x1)) (x := p) f9 rfl
  refine to_aload_n (dat dk_X12_leaf 24 rfl) rfl (to_getR 93 g_c13_115 (dat dk_X12_leaf 25 rfl) (I11.atS rfl) (I11.atE rfl) (to_aload_n (dat dk_X12_leaf 26 rfl) rfl (to_getIv (y := x1) (by rw [wh13]; exact (show h10.2.2 60 45 = x1 from (by rw [wh10]; exact (show h7.2.2 60 45 = x1 from (by rw [wh7]; exact (show h4.2.2 60 45 = x1 from (by rw [wh4]; exact ex1))))))) g_c13_394 (dat dk_X12_leaf 27 rfl) (I11.atS rfl) (to_ldc2 (v := (-9223372036854775808)) (x := -9223372036854775808) (tin 7 231 (by decide +kernel) rfl) (by decide +kernel) (dat dk_X12_leaf 28 rfl) (to_lastw (dat dk_X12_leaf 29 rfl) (I11.atS rfl) rfl (by decide) (by omega) ?_)))))
  intro h16 wh16
  have I14 : Inv h16 := by rw [wh16]; exact I11.putL (x := (-9223372036854775808)) (a := 93) (j := (Int.toNat x1)) rfl
  have f15 : Fr [89, 90, 91, 92, 93, 94, 245] h h16 := by rw [wh16]; exact Fr.putF (a := 93) (j := (Int.toNat x1)) (x := (-9223372036854775808)) f12 rfl
  refine to_aload_n (dat dk_X12_leaf 30 rfl) rfl (to_getR 94 g_c13_119 (dat dk_X12_leaf 31 rfl) (I14.atS rfl) (I14.atE rfl) (to_aload_n (dat dk_X12_leaf 32 rfl) rfl (to_getIv (y := x1) (by rw [wh16]; exact (show h13.2.2 60 45 = x1 from (by rw [wh13]; exact (show h10.2.2 60 45 = x1 from (by rw [wh10]; exact (show h7.2.2 60 45 = x1 from (by rw [wh7]; exact (show h4.2.2 60 45 = x1 from (by rw [wh4]; exact ex1))))))))) g_c13_394 (dat dk_X12_leaf 33 rfl) (I14.atS rfl) (to_ldc2 (v := 9223372036854775807) (x := 9223372036854775807) (tin 7 232 (by decide +kernel) rfl) (by decide +kernel) (dat dk_X12_leaf 34 rfl) (to_lastw (dat dk_X12_leaf 35 rfl) (I14.atS rfl) rfl (by decide) (by omega) ?_)))))
  intro h19 wh19
  have I17 : Inv h19 := by rw [wh19]; exact I14.putL (x := 9223372036854775807) (a := 94) (j := (Int.toNat x1)) rfl
  have f18 : Fr [89, 90, 91, 92, 93, 94, 245] h h19 := by rw [wh19]; exact Fr.putF (a := 94) (j := (Int.toNat x1)) (x := 9223372036854775807) f15 rfl
  refine to_aload_n (dat dk_X12_leaf 36 rfl) rfl (to_dup (dat dk_X12_leaf 37 rfl) rfl (to_getIv (y := x1) (by rw [wh19]; exact (show h16.2.2 60 45 = x1 from (by rw [wh16]; exact (show h13.2.2 60 45 = x1 from (by rw [wh13]; exact (show h10.2.2 60 45 = x1 from (by rw [wh10]; exact (show h7.2.2 60 45 = x1 from (by rw [wh7]; exact (show h4.2.2 60 45 = x1 from (by rw [wh4]; exact ex1))))))))))) g_c13_394 (dat dk_X12_leaf 38 rfl) (I17.atS rfl) (to_iconst (dat dk_X12_leaf 39 rfl) (to_iadd (dat dk_X12_leaf 40 rfl) (to_putIw p_c13_394 (dat dk_X12_leaf 41 rfl) (I17.atS rfl) ?_)))))
  intro h22 wh22
  have I20 : Inv h22 := by rw [wh22]; exact I17.put (a := 60) (j := 45) (x := (x1 + 1)) (0) (810) rfl rfl (show (0 : Int) ≤ (x1 + 1) ∧ (x1 + 1) ≤ 810 by omega)
  have f21 : Fr [89, 90, 91, 92, 93, 94, 245] h h22 := by rw [wh22]; exact Fr.putF (a := 60) (j := 45) (x := (x1 + 1)) f18 rfl
  refine to_aload_n (dat dk_X12_leaf 42 rfl) rfl (to_getIv (y := (x1 + 1)) (by rw [wh22]; exact wr_eq) g_c13_394 (dat dk_X12_leaf 43 rfl) (I20.atS rfl) (to_iconst (dat dk_X12_leaf 44 rfl) (to_isub (dat dk_X12_leaf 45 rfl) ?_)))
  have e23 : h22.2.2 60 45 = (x1 + 1) := (by rw [wh22]; exact wr_eq)
  exact to_iret rfl (dat dk_X12_leaf 46 rfl) (ri_mk (by omega) ⟨I20, f21, (show h22.2.2 60 45 = h.2.2 60 45 + 1 by omega), (show ((x1 + 1) - 1) = h.2.2 60 45 by omega), (LfOK.leaf ex1 (by omega) wh4 wh7 wh10 wh13 wh16 wh19 wh22 g4 g5)⟩)
abbrev Q_X12_done_vb (h : Hp) (c : Int) : Option V → Hp → Nat → Nat → Prop := RV (fun H => Inv H ∧ Fr [95, 246] h H ∧ (H.2.2 60 46 = h.2.2 60 46 + 1) ∧ (DoneP h H c))
set_option maxRecDepth 100000 in
theorem ct_X12_done_vb (l : Launch) (h : Hp) (hI : Inv h) (c : Int) (hc : I32 c) (g0 : -4 ≤ c ∧ c ≤ 810) (g1 : h.2.2 60 46 ≤ 2999) : Ct l D_X12_done 0 0 [.inr (.inr 60), .inl c] h (Q_X12_done_vb h c) := by
  refine ct_of pn_X12_done (Nat.le_of_ble_eq_true rfl) ?_
  show To l E_X12_done (0, [(0, .inr (.inr 60)), (1, .inl c)], [], h, 0, 0) _
  obtain ⟨x1, ex1⟩ : ∃ y : Int, h.2.2 60 46 = y := ⟨_, rfl⟩
  have rx1 := hI.atR (a := 60) (j := 46) rfl
  rw [ex1] at rx1
  refine to_aload_n (dat dk_X12_done 0 rfl) rfl (to_getR 95 g_c13_122 (dat dk_X12_done 1 rfl) (hI.atS rfl) (hI.atE rfl) (to_aload_n (dat dk_X12_done 2 rfl) rfl (to_getIv (y := x1) ex1 g_c13_403 (dat dk_X12_done 3 rfl) (hI.atS rfl) (to_iload_n (dat dk_X12_done 4 rfl) rfl (to_iastw (dat dk_X12_done 5 rfl) (hI.atS rfl) rfl (by decide) (by omega) ?_)))))
  intro h4 wh4
  have I2 : Inv h4 := by rw [wh4]; exact hI.put (a := 95) (j := (Int.toNat x1)) (x := c) (-4) (810) rfl rfl (show (-4 : Int) ≤ c ∧ c ≤ 810 by omega)
  have f3 : Fr [95, 246] h h4 := by rw [wh4]; exact Fr.putF (a := 95) (j := (Int.toNat x1)) (x := c) (Fr.rf _ _) rfl
  refine to_aload_n (dat dk_X12_done 6 rfl) rfl (to_dup (dat dk_X12_done 7 rfl) rfl (to_getIv (y := x1) (by rw [wh4]; exact ex1) g_c13_403 (dat dk_X12_done 8 rfl) (I2.atS rfl) (to_iconst (dat dk_X12_done 9 rfl) (to_iadd (dat dk_X12_done 10 rfl) (to_putIw p_c13_403 (dat dk_X12_done 11 rfl) (I2.atS rfl) ?_)))))
  intro h7 wh7
  have I5 : Inv h7 := by rw [wh7]; exact I2.put (a := 60) (j := 46) (x := (x1 + 1)) (0) (3000) rfl rfl (show (0 : Int) ≤ (x1 + 1) ∧ (x1 + 1) ≤ 3000 by omega)
  have f6 : Fr [95, 246] h h7 := by rw [wh7]; exact Fr.putF (a := 60) (j := 46) (x := (x1 + 1)) f3 rfl
  have e8 : h7.2.2 60 46 = (x1 + 1) := (by rw [wh7]; exact wr_eq)
  exact to_vret rfl (dat dk_X12_done 12 rfl) (rv_mk ⟨I5, f6, (show h7.2.2 60 46 = h.2.2 60 46 + 1 by omega), (by rw [wh7, wh4]; exact DoneP.mk ex1)⟩)
abbrev Q_X12_later_vb (h : Hp) (c : Int) : Option V → Hp → Nat → Nat → Prop := RV (fun H => Inv H ∧ Fr [96, 247] h H ∧ (H.2.2 60 47 = h.2.2 60 47 + 1) ∧ (LaterP h H c))
set_option maxRecDepth 100000 in
theorem ct_X12_later_vb (l : Launch) (h : Hp) (hI : Inv h) (c : Int) (hc : I32 c) (g0 : 0 ≤ c ∧ c ≤ 4) (g1 : h.2.2 60 47 ≤ 1299) : Ct l D_X12_later 0 0 [.inr (.inr 60), .inl c] h (Q_X12_later_vb h c) := by
  refine ct_of pn_X12_later (Nat.le_of_ble_eq_true rfl) ?_
  show To l E_X12_later (0, [(0, .inr (.inr 60)), (1, .inl c)], [], h, 0, 0) _
  obtain ⟨x1, ex1⟩ : ∃ y : Int, h.2.2 60 47 = y := ⟨_, rfl⟩
  have rx1 := hI.atR (a := 60) (j := 47) rfl
  rw [ex1] at rx1
  refine to_aload_n (dat dk_X12_later 0 rfl) rfl (to_getR 96 g_c13_125 (dat dk_X12_later 1 rfl) (hI.atS rfl) (hI.atE rfl) (to_aload_n (dat dk_X12_later 2 rfl) rfl (to_getIv (y := x1) ex1 g_c13_406 (dat dk_X12_later 3 rfl) (hI.atS rfl) (to_iload_n (dat dk_X12_later 4 rfl) rfl (to_iastw (dat dk_X12_later 5 rfl) (hI.atS rfl) rfl (by decide) (by omega) ?_)))))
  intro h4 wh4
  have I2 : Inv h4 := by rw [wh4]; exact hI.put (a := 96) (j := (Int.toNat x1)) (x := c) (0) (4) rfl rfl (show (0 : Int) ≤ c ∧ c ≤ 4 by omega)
  have f3 : Fr [96, 247] h h4 := by rw [wh4]; exact Fr.putF (a := 96) (j := (Int.toNat x1)) (x := c) (Fr.rf _ _) rfl
  refine to_aload_n (dat dk_X12_later 6 rfl) rfl (to_dup (dat dk_X12_later 7 rfl) rfl (to_getIv (y := x1) (by rw [wh4]; exact ex1) g_c13_406 (dat dk_X12_later 8 rfl) (I2.atS rfl) (to_iconst (dat dk_X12_later 9 rfl) (to_iadd (dat dk_X12_later 10 rfl) (to_putIw p_c13_406 (dat dk_X12_later 11 rfl) (I2.atS rfl) ?_)))))
  intro h7 wh7
  have I5 : Inv h7 := by rw [wh7]; exact I2.put (a := 60) (j := 47) (x := (x1 + 1)) (0) (1300) rfl rfl (show (0 : Int) ≤ (x1 + 1) ∧ (x1 + 1) ≤ 1300 by omega)
  have f6 : Fr [96, 247] h h7 := by rw [wh7]; exact Fr.putF (a := 60) (j := 47) (x := (x1 + 1)) f3 rfl
  have e8 : h7.2.2 60 47 = (x1 + 1) := (by rw [wh7]; exact wr_eq)
  exact to_vret rfl (dat dk_X12_later 12 rfl) (rv_mk ⟨I5, f6, (show h7.2.2 60 47 = h.2.2 60 47 + 1 by omega), (by rw [wh7, wh4]; exact LaterP.mk ex1)⟩)
abbrev Q_X12_unwind_vb (h : Hp) (c : Int) : Option V → Hp → Nat → Nat → Prop := RV (fun H => Inv H ∧ Fr [95, 246, 247] h H ∧ (Val H) ∧ (htq H - binq H = htq h - binq h) ∧ (opnq H = opnq h) ∧ (htq H ≤ htq h) ∧ (H.2.2 60 46 + H.2.2 60 47 = h.2.2 60 46 + h.2.2 60 47) ∧ (H.2.2 60 47 ≤ h.2.2 60 47) ∧ (UTop h (H.2.2 60 47) c))
set_option maxRecDepth 100000 in
theorem ct_X12_unwind_vb (l : Launch) (h : Hp) (hI : Inv h) (c : Int) (hc : I32 c) (g0 : h.2.2 60 46 + h.2.2 60 47 ≤ 3000) (g1 : Val h) (g2 : htq h - binq h = 1 ∨ h.2.2 60 47 = 0) : Ct l D_X12_unwind 1 21 [.inr (.inr 60), .inl c] h (Q_X12_unwind_vb h c) := by
  refine ct_of pn_X12_unwind (Nat.le_of_ble_eq_true rfl) ?_
  show To l E_X12_unwind (0, [(0, .inr (.inr 60)), (1, .inl c)], [], h, 0, 0) _
  obtain ⟨x1, ex1⟩ : ∃ y : Int, h.2.2 60 46 = y := ⟨_, rfl⟩
  have rx1 := hI.atR (a := 60) (j := 46) rfl
  rw [ex1] at rx1
  obtain ⟨x2, ex2⟩ : ∃ y : Int, h.2.2 60 47 = y := ⟨_, rfl⟩
  have rx2 := hI.atR (a := 60) (j := 47) rfl
  rw [ex2] at rx2
  have lp0_n11 : ∀ (n11 : Nat) (h3 : Hp), (Inv h3) → (Fr [95, 246, 247] h h3) → (Val h3) → (htq h3 - binq h3 = htq h - binq h) → (htq h3 - binq h3 = 1 ∨ h3.2.2 60 47 = 0) → (opnq h3 = opnq h) → (htq h3 ≤ htq h) → (h3.2.2 60 46 + h3.2.2 60 47 = h.2.2 60 46 + h.2.2 60 47) → (h3.2.2 60 47 ≤ h.2.2 60 47) → (h3.2.2 60 47 ≤ (n11 : Int)) → To l E_X12_unwind (0, [(0, .inr (.inr 60)), (1, .inl c)], [], h3, 0, 0) (Q_X12_unwind_vb h c) := by
    intro n11
    induction n11 using Nat.strongRecOn with
    | _ n11 ihn11 =>
    intro h3 Ih3 fh3 c4 c5 c6 c7 c8 c9 c10 c12
    obtain ⟨x13, ex13⟩ : ∃ y : Int, h3.2.2 60 47 = y := ⟨_, rfl⟩
    have rx13 := Ih3.atR (a := 60) (j := 47) rfl
    rw [ex13] at rx13
    obtain ⟨x14, ex14⟩ : ∃ y : Int, h3.2.2 60 46 = y := ⟨_, rfl⟩
    have rx14 := Ih3.atR (a := 60) (j := 46) rfl
    rw [ex14] at rx14
    refine to_aload_n (dat dk_X12_unwind 0 rfl) rfl (to_getIv (y := x13) ex13 g_c13_406 (dat dk_X12_unwind 1 rfl) (Ih3.atS rfl) ?_)
    refine to_ifle 64 (dat dk_X12_unwind 2 rfl) rfl (by omega) (fun c15 => ?_) (fun c15 => ?_)
    · skip
      exact to_vret rfl (dat dk_X12_unwind 36 rfl) (rv_mk ⟨Ih3, fh3, c4, (show htq h3 - binq h3 = htq h - binq h by omega), (show opnq h3 = opnq h by omega), (show htq h3 ≤ htq h by omega), (show h3.2.2 60 46 + h3.2.2 60 47 = h.2.2 60 46 + h.2.2 60 47 by omega), (show h3.2.2 60 47 ≤ h.2.2 60 47 by omega), (by rw [show h3.2.2 60 47 = x13 from ex13]; unfold UTop; omega)⟩)
    · skip
      refine to_aload_n (dat dk_X12_unwind 3 rfl) rfl (to_getR 96 g_c13_125 (dat dk_X12_unwind 4 rfl) (Ih3.atS rfl) (Ih3.atE rfl) (to_aload_n (dat dk_X12_unwind 5 rfl) rfl (to_getIv (y := x13) ex13 g_c13_406 (dat dk_X12_unwind 6 rfl) (Ih3.atS rfl) (to_iconst (dat dk_X12_unwind 7 rfl) (to_isub (dat dk_X12_unwind 8 rfl) ?_)))))
      obtain ⟨x16, ex16⟩ : ∃ y : Int, h3.2.2 96 (Int.toNat (x13 - 1)) = y := ⟨_, rfl⟩
      have rx16 := Ih3.atR (a := 96) (j := Int.toNat (x13 - 1)) rfl
      rw [ex16] at rx16
      refine to_ialdv ex16 (dat dk_X12_unwind 9 rfl) (Ih3.atS rfl) rfl (by decide) (by omega) ?_
      have k17 : h.2.2 96 (Int.toNat (x13 - 1)) = x16 := (Fr.getF fh3 hI (by decide) rfl).symm.trans ex16
      refine to_iconst (dat dk_X12_unwind 10 rfl) ?_
      refine to_ieq 64 (dat dk_X12_unwind 11 rfl) rfl (by omega) (by decide) (fun c18 => ?_) (fun c18 => ?_)
      · skip
        exact to_vret rfl (dat dk_X12_unwind 36 rfl) (rv_mk ⟨Ih3, fh3, c4, (show htq h3 - binq h3 = htq h - binq h by omega), (show opnq h3 = opnq h by omega), (show htq h3 ≤ htq h by omega), (show h3.2.2 60 46 + h3.2.2 60 47 = h.2.2 60 46 + h.2.2 60 47 by omega), (show h3.2.2 60 47 ≤ h.2.2 60 47 by omega), (by rw [show h3.2.2 60 47 = x13 from ex13]; unfold UTop; omega)⟩)
      · skip
        refine to_aload_n (dat dk_X12_unwind 12 rfl) rfl (to_getR 96 g_c13_125 (dat dk_X12_unwind 13 rfl) (Ih3.atS rfl) (Ih3.atE rfl) (to_aload_n (dat dk_X12_unwind 14 rfl) rfl (to_getIv (y := x13) ex13 g_c13_406 (dat dk_X12_unwind 15 rfl) (Ih3.atS rfl) (to_iconst (dat dk_X12_unwind 16 rfl) (to_isub (dat dk_X12_unwind 17 rfl) ?_)))))
        obtain ⟨x19, ex19⟩ : ∃ y : Int, h3.2.2 96 (Int.toNat (x13 - 1)) = y := ⟨_, rfl⟩
        have rx19 := Ih3.atR (a := 96) (j := Int.toNat (x13 - 1)) rfl
        rw [ex19] at rx19
        refine to_ialdv ex19 (dat dk_X12_unwind 18 rfl) (Ih3.atS rfl) rfl (by decide) (by omega) ?_
        have k20 : h.2.2 96 (Int.toNat (x13 - 1)) = x19 := (Fr.getF fh3 hI (by decide) rfl).symm.trans ex19
        refine to_iload_n (dat dk_X12_unwind 19 rfl) rfl ?_
        refine to_igt 64 (dat dk_X12_unwind 20 rfl) rfl (by omega) hc (fun c21 => ?_) (fun c21 => ?_)
        · skip
          exact to_vret rfl (dat dk_X12_unwind 36 rfl) (rv_mk ⟨Ih3, fh3, c4, (show htq h3 - binq h3 = htq h - binq h by omega), (show opnq h3 = opnq h by omega), (show htq h3 ≤ htq h by omega), (show h3.2.2 60 46 + h3.2.2 60 47 = h.2.2 60 46 + h.2.2 60 47 by omega), (show h3.2.2 60 47 ≤ h.2.2 60 47 by omega), (by rw [show h3.2.2 60 47 = x13 from ex13]; unfold UTop; omega)⟩)
        · skip
          refine to_aload_n (dat dk_X12_unwind 21 rfl) rfl (to_dup (dat dk_X12_unwind 22 rfl) rfl (to_getIv (y := x13) ex13 g_c13_406 (dat dk_X12_unwind 23 rfl) (Ih3.atS rfl) (to_iconst (dat dk_X12_unwind 24 rfl) (to_isub (dat dk_X12_unwind 25 rfl) (to_putIw p_c13_406 (dat dk_X12_unwind 26 rfl) (Ih3.atS rfl) ?_)))))
          intro h24 wh24
          have I22 : Inv h24 := by rw [wh24]; exact Ih3.put (a := 60) (j := 47) (x := (x13 - 1)) (0) (1300) rfl rfl (show (0 : Int) ≤ (x13 - 1) ∧ (x13 - 1) ≤ 1300 by omega)
          have f23 : Fr [95, 246, 247] h h24 := by rw [wh24]; exact Fr.putF (a := 60) (j := 47) (x := (x13 - 1)) fh3 rfl
          have t25 : Val h24 := by rw [wh24]; exact Val_wr rfl c4
          have t26 : htq h24 = htq h3 := by rw [wh24]; exact htq_wr rfl
          have z27 := pile_pop ex13 (by omega) wh24
          have z28 := binq_ge (h := h24)
          have z29 := opnq_ge (h := h24)
          refine to_aload_n (dat dk_X12_unwind 27 rfl) rfl (to_aload_n (dat dk_X12_unwind 28 rfl) rfl (to_getR 96 g_c13_125 (dat dk_X12_unwind 29 rfl) (I22.atS rfl) (I22.atE rfl) (to_aload_n (dat dk_X12_unwind 30 rfl) rfl (to_getIv (y := (x13 - 1)) (by rw [wh24]; exact wr_eq) g_c13_406 (dat dk_X12_unwind 31 rfl) (I22.atS rfl) ?_))))
          obtain ⟨x30, ex30⟩ : ∃ y : Int, h24.2.2 96 (Int.toNat (x13 - 1)) = y := ⟨_, rfl⟩
          have rx30 := I22.atR (a := 96) (j := Int.toNat (x13 - 1)) rfl
          rw [ex30] at rx30
          refine to_ialdv ex30 (dat dk_X12_unwind 32 rfl) (I22.atS rfl) rfl (by decide) (by omega) ?_
          have k31 : h.2.2 96 (Int.toNat (x13 - 1)) = x30 := (Fr.getF f23 hI (by decide) rfl).symm.trans ex30
          rw [ex30] at z27
          have z32 := bn_c x30
          have z33 := op_c x30
          refine to_ineg (dat dk_X12_unwind 33 rfl) ?_
          have e34 : h24.2.2 60 46 = x14 := (by rw [wh24]; exact ex14)
          refine to_cV ca_c13_409 (dat dk_X12_unwind 34 rfl) (ct_X12_done_vb l h24 I22 (-x30) (by omega) (show -4 ≤ (-x30) ∧ (-x30) ≤ 810 by omega) (show h24.2.2 60 46 ≤ 2999 by omega)) rfl ⟨_, _, rfl, (I22.atS rfl)⟩ rfl (fun h36 p37 => ?_)
          obtain ⟨Ih36, fh36, p37_0, p37_1⟩ := p37
          have f38 : Fr [95, 246, 247] h h36 := Fr.sub f23 fh36 rfl
          have t39 : binq h36 = binq h24 := binq_fr fh36 I22 rfl
          have t40 : opnq h36 = opnq h24 := opnq_fr fh36 I22 rfl
          obtain ⟨x41, ex41⟩ : ∃ y : Int, h36.2.2 60 46 = y := ⟨_, rfl⟩
          have rx41 := Ih36.atR (a := 60) (j := 46) rfl
          rw [ex41] at rx41
          have q42 := DoneP.sum p37_1 (I22.atR (a := 60) (j := 46) rfl).1
          have q43 := hs_c (-x30)
          have q44 := p37_1.2.2.2
          have q45 : Val h36 := DoneP.val p37_1 (I22.atR (a := 60) (j := 46) rfl).1 t25 (by omega) (by omega) (by omega)
          refine to_goto (dat dk_X12_unwind 35 rfl) rfl ?_
          have e46 : h36.2.2 60 47 = (x13 - 1) := ((Fr.get fh36 (by have := I22.1.1; omega) rfl).trans (by rw [wh24]; exact wr_eq))
          exact ihn11 (n11 - 1) (by omega) h36 Ih36 f38 q45 (show htq h36 - binq h36 = htq h - binq h by omega) (show htq h36 - binq h36 = 1 ∨ h36.2.2 60 47 = 0 by omega) (show opnq h36 = opnq h by omega) (show htq h36 ≤ htq h by omega) (show h36.2.2 60 46 + h36.2.2 60 47 = h.2.2 60 46 + h.2.2 60 47 by omega) (show h36.2.2 60 47 ≤ h.2.2 60 47 by omega) (show h36.2.2 60 47 ≤ ((n11 - 1 : Nat) : Int) by omega)
  exact lp0_n11 (h.2.2 60 47).toNat h hI (Fr.rf _ _) g1 (show htq h - binq h = htq h - binq h by omega) (show htq h - binq h = 1 ∨ h.2.2 60 47 = 0 by omega) (show opnq h = opnq h by omega) (show htq h ≤ htq h by omega) (show h.2.2 60 46 + h.2.2 60 47 = h.2.2 60 46 + h.2.2 60 47 by omega) (show h.2.2 60 47 ≤ h.2.2 60 47 by omega) (by omega)
abbrev Q_X12_one (h : Hp) (p : Int) (e : Int) : Option V → Hp → Nat → Nat → Prop := RI (fun x H => Inv H ∧ Fr [89, 90, 91, 92, 93, 94, 95, 245, 246] h H ∧ (Val H) ∧ (LfOK H) ∧ (x = -1 ∨ (p < x ∧ x ≤ H.2.2 60 44 ∧ H.2.2 60 45 = h.2.2 60 45 + 1 ∧ H.2.2 60 46 = h.2.2 60 46 + 1 ∧ htq H = htq h + 1 ∧ (p + 2 ≤ x ∨ (h.2.2 88 (Int.toNat p) ≠ 34 ∧ x = e)))))
set_option maxRecDepth 100000 in
theorem ct_X12_one (l : Launch) (h : Hp) (hI : Inv h) (p : Int) (hp : I32 p) (e : Int) (he : I32 e) (g0 : 0 ≤ p ∧ p < h.2.2 60 44) (g1 : p ≤ e ∧ e ≤ h.2.2 60 44) (g2 : Val h) (g3 : LfOK h) (g4 : htq h ≤ h.2.2 60 45) (g5 : h.2.2 60 45 ≤ 809) (g6 : h.2.2 60 46 ≤ 2999) (g7 : e = h.2.2 60 44 ∨ sp (h.2.2 88 (Int.toNat e)) = 1) (g8 : p < e ∨ h.2.2 88 (Int.toNat p) = 34) : Ct l D_X12_one 5 119 [.inr (.inr 60), .inl p, .inl e] h (Q_X12_one h p e) := by
  refine ct_of pn_X12_one (Nat.le_of_ble_eq_true rfl) ?_
  show To l E_X12_one (0, [(0, .inr (.inr 60)), (1, .inl p), (2, .inl e)], [], h, 0, 0) _
  obtain ⟨x1, ex1⟩ : ∃ y : Int, h.2.2 60 44 = y := ⟨_, rfl⟩
  have rx1 := hI.atR (a := 60) (j := 44) rfl
  rw [ex1] at rx1
  obtain ⟨x2, ex2⟩ : ∃ y : Int, h.2.2 60 45 = y := ⟨_, rfl⟩
  have rx2 := hI.atR (a := 60) (j := 45) rfl
  rw [ex2] at rx2
  obtain ⟨x3, ex3⟩ : ∃ y : Int, h.2.2 60 46 = y := ⟨_, rfl⟩
  have rx3 := hI.atR (a := 60) (j := 46) rfl
  rw [ex3] at rx3
  refine to_aload_n (dat dk_X12_one 0 rfl) rfl (to_getR 88 g_c13_100 (dat dk_X12_one 1 rfl) (hI.atS rfl) (hI.atE rfl) (to_iload_n (dat dk_X12_one 2 rfl) rfl ?_))
  obtain ⟨x4, ex4⟩ : ∃ y : Int, h.2.2 88 (Int.toNat p) = y := ⟨_, rfl⟩
  have rx4 := hI.atR (a := 88) (j := Int.toNat p) rfl
  rw [ex4] at rx4
  refine to_baldv (q := 1) ex4 (dat dk_X12_one 3 rfl) (by decide) (hI.atS rfl) rfl (by decide) (by omega) (to_bipush (dat dk_X12_one 4 rfl) (by decide) ?_)
  refine to_ine 47 (dat dk_X12_one 5 rfl) rfl (by omega) (by decide) (fun c5 => ?_) (fun c5 => ?_)
  · skip
    refine to_aload_n (dat dk_X12_one 33 rfl) rfl (to_iload_n (dat dk_X12_one 34 rfl) rfl (to_iload_n (dat dk_X12_one 35 rfl) rfl ?_))
    refine to_cI ca_c13_434 (dat dk_X12_one 36 rfl) (ct_X12_fieldOf l h hI p hp e he (show 0 ≤ p ∧ p ≤ e by omega) (show e ≤ h.2.2 60 44 by omega)) rfl ⟨_, _, rfl, (hI.atS rfl)⟩ rfl (fun x6 h7 rx6 p8 => ?_)
    obtain ⟨rfl, p8_0⟩ := p8
    refine to_istore_n (L' := [(0, .inr (.inr 60)), (1, .inl p), (2, .inl e), (3, .inl x6)]) (dat dk_X12_one 37 rfl) (by decide) rfl (to_iload_n (dat dk_X12_one 38 rfl) rfl (to_iconst (dat dk_X12_one 39 rfl) ?_))
    refine to_ine 76 (dat dk_X12_one 40 rfl) rfl rx6 (by decide) (fun c9 => ?_) (fun c9 => ?_)
    · skip
      have z10 := FE_c (f := x6) (by omega)
      refine to_iload_n (dat dk_X12_one 53 rfl) rfl (to_gst (C := "MailArchiveModel") (f9 := "FIELD_ENDS") (d9 := "[I") (List.mem_of_getElem? (i := 8) rfl) (tin 7 237 (by decide +kernel) rfl) (dat dk_X12_one 54 rfl) (to_iload_n (dat dk_X12_one 55 rfl) rfl (to_iconst (dat dk_X12_one 56 rfl) (to_iadd (dat dk_X12_one 57 rfl) ?_))))
      refine to_ialdFE (dat dk_X12_one 58 rfl) (by omega) ?_
      refine to_iadd (dat dk_X12_one 59 rfl) (to_gst (C := "MailArchiveModel") (f9 := "FIELD_ENDS") (d9 := "[I") (List.mem_of_getElem? (i := 8) rfl) (tin 7 237 (by decide +kernel) rfl) (dat dk_X12_one 60 rfl) (to_iload_n (dat dk_X12_one 61 rfl) rfl ?_))
      refine to_ialdFE (dat dk_X12_one 62 rfl) (by omega) ?_
      refine to_isub (dat dk_X12_one 63 rfl) (to_istore (L' := [(0, .inr (.inr 60)), (1, .inl p), (2, .inl e), (3, .inl x6), (4, .inl ((p + (FE (x6 + 1))) - (FE x6)))]) (dat dk_X12_one 64 rfl) (by decide) rfl (to_iload (dat dk_X12_one 65 rfl) rfl (to_iload_n (dat dk_X12_one 66 rfl) rfl ?_)))
      refine to_ine 166 (dat dk_X12_one 67 rfl) rfl (by omega) he (fun c13 => ?_) (fun c13 => ?_)
      · skip
        refine to_aload_n (dat dk_X12_one 110 rfl) rfl (to_iload_n (dat dk_X12_one 111 rfl) rfl (to_iload (dat dk_X12_one 112 rfl) rfl (to_iload_n (dat dk_X12_one 113 rfl) rfl (to_iconst (dat dk_X12_one 114 rfl) ?_))))
        refine to_cI ca_c13_430 (dat dk_X12_one 115 rfl) (ct_X12_leaf_vb l h hI x6 rx6 ((p + (FE (x6 + 1))) - (FE x6)) (by omega) e he 0 (by decide) (show 0 ≤ ((p + (FE (x6 + 1))) - (FE x6)) ∧ ((p + (FE (x6 + 1))) - (FE x6)) ≤ 1200 by omega) (show 0 ≤ e ∧ e ≤ 1200 by omega) (show 0 ≤ x6 ∧ x6 ≤ 8 by omega) (show h.2.2 60 45 ≤ 809 by omega) g3 (show ((p + (FE (x6 + 1))) - (FE x6)) ≤ e ∧ ((0 : Int) = 1 ∨ 1 ≤ e) by omega)) rfl ⟨_, _, rfl, (hI.atS rfl)⟩ rfl (fun x14 h15 rx14 p16 => ?_)
        obtain ⟨Ih15, fh15, p16_0, p16_1, p16_2⟩ := p16
        have f17 : Fr [89, 90, 91, 92, 93, 94, 95, 245, 246] h h15 := Fr.sub (Fr.rf _ _) fh15 rfl
        have t18 : htq h15 = htq h := htq_fr fh15 hI rfl
        obtain ⟨x19, ex19⟩ : ∃ y : Int, h15.2.2 60 45 = y := ⟨_, rfl⟩
        have rx19 := Ih15.atR (a := 60) (j := 45) rfl
        rw [ex19] at rx19
        have q20 : Val h15 := Val.mono (fh15.arr hI (a := 95) (by decide) (fun _ => rfl)) (fh15.getF hI (a := 60) (j := 46) (by decide) rfl) (by omega) g2
        refine to_istore (L' := [(0, .inr (.inr 60)), (1, .inl p), (2, .inl e), (3, .inl x6), (4, .inl ((p + (FE (x6 + 1))) - (FE x6))), (5, .inl x14)]) (dat dk_X12_one 116 rfl) (by decide) rfl ?_
        have jn211_n24 : ∀ (h21 : Hp), (Inv h21) → (Fr [89, 90, 91, 92, 93, 94, 95, 245, 246] h h21) → (Val h21) → (LfOK h21) → To l E_X12_one (211, [(0, .inr (.inr 60)), (1, .inl p), (2, .inl e), (3, .inl x6), (4, .inl ((p + (FE (x6 + 1))) - (FE x6))), (5, .inl x14)], [], h21, 0, 0) (Q_X12_one h p e) := by
          intro h21 Ih21 fh21 c22 c23
          refine to_iconst (dat dk_X12_one 134 rfl) ?_
          have e25 : h21.2.2 60 44 = x1 := ((Fr.get fh21 (by have := hI.1.1; omega) rfl).trans ex1)
          exact to_iret rfl (dat dk_X12_one 135 rfl) (ri_mk (by decide) ⟨Ih21, fh21, c22, c23, (show (-1 : Int) = -1 ∨ (p < (-1 : Int) ∧ (-1 : Int) ≤ h21.2.2 60 44 ∧ h21.2.2 60 45 = h.2.2 60 45 + 1 ∧ h21.2.2 60 46 = h.2.2 60 46 + 1 ∧ htq h21 = htq h + 1 ∧ (p + 2 ≤ (-1 : Int) ∨ (h.2.2 88 (Int.toNat p) ≠ 34 ∧ (-1 : Int) = e))) by omega)⟩)
        have jn213_n32 : ∀ (h26 : Hp), (Inv h26) → (Fr [89, 90, 91, 92, 93, 94, 95, 245, 246] h h26) → (Val h26) → (LfOK h26) → (htq h26 = htq h) → (h26.2.2 60 45 = h.2.2 60 45 + 1) → (h26.2.2 60 46 = h.2.2 60 46) → To l E_X12_one (213, [(0, .inr (.inr 60)), (1, .inl p), (2, .inl e), (3, .inl x6), (4, .inl ((p + (FE (x6 + 1))) - (FE x6))), (5, .inl x14)], [], h26, 0, 0) (Q_X12_one h p e) := by
          intro h26 Ih26 fh26 c27 c28 c29 c30 c31
          obtain ⟨x33, ex33⟩ : ∃ y : Int, h26.2.2 60 45 = y := ⟨_, rfl⟩
          have rx33 := Ih26.atR (a := 60) (j := 45) rfl
          rw [ex33] at rx33
          obtain ⟨x34, ex34⟩ : ∃ y : Int, h26.2.2 60 46 = y := ⟨_, rfl⟩
          have rx34 := Ih26.atR (a := 60) (j := 46) rfl
          rw [ex34] at rx34
          refine to_aload_n (dat dk_X12_one 136 rfl) rfl (to_iconst (dat dk_X12_one 137 rfl) (to_iload (dat dk_X12_one 138 rfl) rfl (to_iadd (dat dk_X12_one 139 rfl) ?_)))
          refine to_cV ca_c13_409 (dat dk_X12_one 140 rfl) (ct_X12_done_vb l h26 Ih26 (1 + x14) (by omega) (show -4 ≤ (1 + x14) ∧ (1 + x14) ≤ 810 by omega) (show h26.2.2 60 46 ≤ 2999 by omega)) rfl ⟨_, _, rfl, (Ih26.atS rfl)⟩ rfl (fun h36 p37 => ?_)
          obtain ⟨Ih36, fh36, p37_0, p37_1⟩ := p37
          have f38 : Fr [89, 90, 91, 92, 93, 94, 95, 245, 246] h h36 := Fr.sub fh26 fh36 rfl
          have t39 : LfOK h36 := LfOK_fr fh36 Ih26 rfl c28
          obtain ⟨x40, ex40⟩ : ∃ y : Int, h36.2.2 60 46 = y := ⟨_, rfl⟩
          have rx40 := Ih36.atR (a := 60) (j := 46) rfl
          rw [ex40] at rx40
          have q41 := DoneP.sum p37_1 (Ih26.atR (a := 60) (j := 46) rfl).1
          have q42 := hs_c (1 + x14)
          have q43 := p37_1.2.2.2
          have q44 : Val h36 := DoneP.val p37_1 (Ih26.atR (a := 60) (j := 46) rfl).1 c27 (by omega) (by omega) (by omega)
          refine to_iload_n (dat dk_X12_one 141 rfl) rfl ?_
          have e45 : h36.2.2 60 44 = x1 := ((Fr.get fh36 (by have := Ih26.1.1; omega) rfl).trans ((Fr.get fh26 (by have := hI.1.1; omega) rfl).trans ex1))
          have e46 : h36.2.2 60 45 = x33 := ((Fr.get fh36 (by have := Ih26.1.1; omega) rfl).trans ex33)
          exact to_iret rfl (dat dk_X12_one 142 rfl) (ri_mk he ⟨Ih36, f38, q44, t39, (show e = -1 ∨ (p < e ∧ e ≤ h36.2.2 60 44 ∧ h36.2.2 60 45 = h.2.2 60 45 + 1 ∧ h36.2.2 60 46 = h.2.2 60 46 + 1 ∧ htq h36 = htq h + 1 ∧ (p + 2 ≤ e ∨ (h.2.2 88 (Int.toNat p) ≠ 34 ∧ e = e))) by omega)⟩)
        refine to_iload_n (dat dk_X12_one 117 rfl) rfl (to_bipush (dat dk_X12_one 118 rfl) (by decide) ?_)
        refine to_ine 193 (dat dk_X12_one 119 rfl) rfl rx6 (by decide) (fun c47 => ?_) (fun c47 => ?_)
        · skip
          refine to_iload_n (dat dk_X12_one 125 rfl) rfl (to_bipush (dat dk_X12_one 126 rfl) (by decide) ?_)
          refine to_ine 213 (dat dk_X12_one 127 rfl) rfl rx6 (by decide) (fun c48 => ?_) (fun c48 => ?_)
          · skip
            have e49 : h15.2.2 60 46 = x3 := ((Fr.get fh15 (by have := hI.1.1; omega) rfl).trans ex3)
            exact jn213_n32 h15 Ih15 f17 q20 p16_2 t18 (show h15.2.2 60 45 = h.2.2 60 45 + 1 by omega) (show h15.2.2 60 46 = h.2.2 60 46 by omega)
          · skip
            refine to_aload_n (dat dk_X12_one 128 rfl) rfl (to_iload (dat dk_X12_one 129 rfl) rfl (to_iload_n (dat dk_X12_one 130 rfl) rfl (to_iload (dat dk_X12_one 131 rfl) rfl ?_)))
            refine to_cI ca_c13_440 (dat dk_X12_one 132 rfl) (ct_X12_isDate l h15 Ih15 ((p + (FE (x6 + 1))) - (FE x6)) (by omega) e he x14 rx14 (show 0 ≤ ((p + (FE (x6 + 1))) - (FE x6)) ∧ ((p + (FE (x6 + 1))) - (FE x6)) ≤ 1200 by omega) (show 0 ≤ e ∧ e ≤ 1200 by omega) (show 0 ≤ x14 ∧ x14 ≤ 809 by omega)) rfl ⟨_, _, rfl, (Ih15.atS rfl)⟩ rfl (fun x50 h51 rx50 p52 => ?_)
            obtain ⟨Ih51, fh51, zx50⟩ := p52
            have f53 : Fr [89, 90, 91, 92, 93, 94, 95, 245, 246] h h51 := Fr.sub f17 fh51 rfl
            have t54 : Val h51 := Val_fr fh51 Ih15 rfl q20
            have t55 : LfOK h51 := LfOK_fr fh51 Ih15 rfl p16_2
            have t56 : htq h51 = htq h15 := htq_fr fh51 Ih15 rfl
            refine to_ifne 213 (dat dk_X12_one 133 rfl) rfl rx50 (fun c57 => ?_) (fun c57 => ?_)
            · skip
              have e58 : h51.2.2 60 45 = x19 := ((Fr.get fh51 (by have := Ih15.1.1; omega) rfl).trans ex19)
              have e59 : h51.2.2 60 46 = x3 := ((Fr.get fh51 (by have := Ih15.1.1; omega) rfl).trans ((Fr.get fh15 (by have := hI.1.1; omega) rfl).trans ex3))
              exact jn213_n32 h51 Ih51 f53 t54 t55 (t56.trans t18) (show h51.2.2 60 45 = h.2.2 60 45 + 1 by omega) (show h51.2.2 60 46 = h.2.2 60 46 by omega)
            · skip
              exact jn211_n24 h51 Ih51 f53 t54 t55
        · skip
          refine to_aload_n (dat dk_X12_one 120 rfl) rfl (to_iload (dat dk_X12_one 121 rfl) rfl (to_iload_n (dat dk_X12_one 122 rfl) rfl ?_))
          refine to_cI ca_c13_437 (dat dk_X12_one 123 rfl) (ct_X12_isNumber l h15 Ih15 ((p + (FE (x6 + 1))) - (FE x6)) (by omega) e he (show 0 ≤ ((p + (FE (x6 + 1))) - (FE x6)) ∧ ((p + (FE (x6 + 1))) - (FE x6)) ≤ 1200 by omega) (show 0 ≤ e ∧ e ≤ 1200 by omega)) rfl ⟨_, _, rfl, (Ih15.atS rfl)⟩ rfl (fun x60 h61 rx60 p62 => ?_)
          obtain ⟨rfl, zx60⟩ := p62
          refine to_ifeq 211 (dat dk_X12_one 124 rfl) rfl rx60 (fun c63 => ?_) (fun c63 => ?_)
          · skip
            exact jn211_n24 h15 Ih15 f17 q20 p16_2
          · skip
            refine to_iload_n (dat dk_X12_one 125 rfl) rfl (to_bipush (dat dk_X12_one 126 rfl) (by decide) ?_)
            refine to_ine 213 (dat dk_X12_one 127 rfl) rfl rx6 (by decide) (fun c64 => ?_) (fun c64 => ?_)
            · skip
              have e65 : h15.2.2 60 46 = x3 := ((Fr.get fh15 (by have := hI.1.1; omega) rfl).trans ex3)
              exact jn213_n32 h15 Ih15 f17 q20 p16_2 t18 (show h15.2.2 60 45 = h.2.2 60 45 + 1 by omega) (show h15.2.2 60 46 = h.2.2 60 46 by omega)
            · skip
              refine to_aload_n (dat dk_X12_one 128 rfl) rfl (to_iload (dat dk_X12_one 129 rfl) rfl (to_iload_n (dat dk_X12_one 130 rfl) rfl (to_iload (dat dk_X12_one 131 rfl) rfl ?_)))
              refine to_cI ca_c13_440 (dat dk_X12_one 132 rfl) (ct_X12_isDate l h15 Ih15 ((p + (FE (x6 + 1))) - (FE x6)) (by omega) e he x14 rx14 (show 0 ≤ ((p + (FE (x6 + 1))) - (FE x6)) ∧ ((p + (FE (x6 + 1))) - (FE x6)) ≤ 1200 by omega) (show 0 ≤ e ∧ e ≤ 1200 by omega) (show 0 ≤ x14 ∧ x14 ≤ 809 by omega)) rfl ⟨_, _, rfl, (Ih15.atS rfl)⟩ rfl (fun x66 h67 rx66 p68 => ?_)
              obtain ⟨Ih67, fh67, zx66⟩ := p68
              have f69 : Fr [89, 90, 91, 92, 93, 94, 95, 245, 246] h h67 := Fr.sub f17 fh67 rfl
              have t70 : Val h67 := Val_fr fh67 Ih15 rfl q20
              have t71 : LfOK h67 := LfOK_fr fh67 Ih15 rfl p16_2
              have t72 : htq h67 = htq h15 := htq_fr fh67 Ih15 rfl
              refine to_ifne 213 (dat dk_X12_one 133 rfl) rfl rx66 (fun c73 => ?_) (fun c73 => ?_)
              · skip
                have e74 : h67.2.2 60 45 = x19 := ((Fr.get fh67 (by have := Ih15.1.1; omega) rfl).trans ex19)
                have e75 : h67.2.2 60 46 = x3 := ((Fr.get fh67 (by have := Ih15.1.1; omega) rfl).trans ((Fr.get fh15 (by have := hI.1.1; omega) rfl).trans ex3))
                exact jn213_n32 h67 Ih67 f69 t70 t71 (t72.trans t18) (show h67.2.2 60 45 = h.2.2 60 45 + 1 by omega) (show h67.2.2 60 46 = h.2.2 60 46 by omega)
              · skip
                exact jn211_n24 h67 Ih67 f69 t70 t71
      · skip
        have jn134_n78 : ∀ (y76 : Int), (I32 y76) → (y76 = -1 ∨ (e < y76 ∧ y76 < h.2.2 60 44)) → To l E_X12_one (134, [(0, .inr (.inr 60)), (1, .inl p), (2, .inl e), (3, .inl x6), (4, .inl ((p + (FE (x6 + 1))) - (FE x6)))], [.inl y76], h, 0, 0) (Q_X12_one h p e) := by
          intro y76 ry76 c77
          refine to_istore (L' := [(0, .inr (.inr 60)), (1, .inl p), (2, .inl e), (3, .inl x6), (4, .inl ((p + (FE (x6 + 1))) - (FE x6))), (5, .inl y76)]) (dat dk_X12_one 88 rfl) (by decide) rfl (to_iload (dat dk_X12_one 89 rfl) rfl (to_iconst (dat dk_X12_one 90 rfl) ?_))
          refine to_ine 144 (dat dk_X12_one 91 rfl) rfl ry76 (by decide) (fun c79 => ?_) (fun c79 => ?_)
          · skip
            refine to_aload_n (dat dk_X12_one 94 rfl) rfl (to_iconst (dat dk_X12_one 95 rfl) (to_aload_n (dat dk_X12_one 96 rfl) rfl (to_iload_n (dat dk_X12_one 97 rfl) rfl (to_iload_n (dat dk_X12_one 98 rfl) rfl (to_iconst (dat dk_X12_one 99 rfl) (to_iadd (dat dk_X12_one 100 rfl) (to_iload (dat dk_X12_one 101 rfl) rfl (to_iconst (dat dk_X12_one 102 rfl) ?_))))))))
            refine to_cI ca_c13_430 (dat dk_X12_one 103 rfl) (ct_X12_leaf_vb l h hI x6 rx6 (e + 1) (by omega) y76 ry76 1 (by decide) (show 0 ≤ (e + 1) ∧ (e + 1) ≤ 1200 by omega) (show 0 ≤ y76 ∧ y76 ≤ 1200 by omega) (show 0 ≤ x6 ∧ x6 ≤ 8 by omega) (show h.2.2 60 45 ≤ 809 by omega) g3 (show (e + 1) ≤ y76 ∧ ((1 : Int) = 1 ∨ 1 ≤ y76) by omega)) rfl ⟨_, _, rfl, (hI.atS rfl)⟩ rfl (fun x80 h81 rx80 p82 => ?_)
            obtain ⟨Ih81, fh81, p82_0, p82_1, p82_2⟩ := p82
            have f83 : Fr [89, 90, 91, 92, 93, 94, 95, 245, 246] h h81 := Fr.sub (Fr.rf _ _) fh81 rfl
            have t84 : htq h81 = htq h := htq_fr fh81 hI rfl
            obtain ⟨x85, ex85⟩ : ∃ y : Int, h81.2.2 60 45 = y := ⟨_, rfl⟩
            have rx85 := Ih81.atR (a := 60) (j := 45) rfl
            rw [ex85] at rx85
            have q86 : Val h81 := Val.mono (fh81.arr hI (a := 95) (by decide) (fun _ => rfl)) (fh81.getF hI (a := 60) (j := 46) (by decide) rfl) (by omega) g2
            refine to_iadd (dat dk_X12_one 104 rfl) ?_
            have e87 : h81.2.2 60 46 = x3 := ((Fr.get fh81 (by have := hI.1.1; omega) rfl).trans ex3)
            refine to_cV ca_c13_409 (dat dk_X12_one 105 rfl) (ct_X12_done_vb l h81 Ih81 (1 + x80) (by omega) (show -4 ≤ (1 + x80) ∧ (1 + x80) ≤ 810 by omega) (show h81.2.2 60 46 ≤ 2999 by omega)) rfl ⟨_, _, rfl, (Ih81.atS rfl)⟩ rfl (fun h89 p90 => ?_)
            obtain ⟨Ih89, fh89, p90_0, p90_1⟩ := p90
            have f91 : Fr [89, 90, 91, 92, 93, 94, 95, 245, 246] h h89 := Fr.sub f83 fh89 rfl
            have t92 : LfOK h89 := LfOK_fr fh89 Ih81 rfl p82_2
            obtain ⟨x93, ex93⟩ : ∃ y : Int, h89.2.2 60 46 = y := ⟨_, rfl⟩
            have rx93 := Ih89.atR (a := 60) (j := 46) rfl
            rw [ex93] at rx93
            have q94 := DoneP.sum p90_1 (Ih81.atR (a := 60) (j := 46) rfl).1
            have q95 := hs_c (1 + x80)
            have q96 := p90_1.2.2.2
            have q97 : Val h89 := DoneP.val p90_1 (Ih81.atR (a := 60) (j := 46) rfl).1 q86 (by omega) (by omega) (by omega)
            refine to_iload (dat dk_X12_one 106 rfl) rfl (to_iconst (dat dk_X12_one 107 rfl) (to_iadd (dat dk_X12_one 108 rfl) ?_))
            have e98 : h89.2.2 60 44 = x1 := ((Fr.get fh89 (by have := Ih81.1.1; omega) rfl).trans ((Fr.get fh81 (by have := hI.1.1; omega) rfl).trans ex1))
            have e99 : h89.2.2 60 45 = x85 := ((Fr.get fh89 (by have := Ih81.1.1; omega) rfl).trans ex85)
            exact to_iret rfl (dat dk_X12_one 109 rfl) (ri_mk (by omega) ⟨Ih89, f91, q97, t92, (show (y76 + 1) = -1 ∨ (p < (y76 + 1) ∧ (y76 + 1) ≤ h89.2.2 60 44 ∧ h89.2.2 60 45 = h.2.2 60 45 + 1 ∧ h89.2.2 60 46 = h.2.2 60 46 + 1 ∧ htq h89 = htq h + 1 ∧ (p + 2 ≤ (y76 + 1) ∨ (h.2.2 88 (Int.toNat p) ≠ 34 ∧ (y76 + 1) = e))) by omega)⟩)
          · skip
            refine to_iconst (dat dk_X12_one 92 rfl) ?_
            exact to_iret rfl (dat dk_X12_one 93 rfl) (ri_mk (by decide) ⟨hI, (Fr.rf _ _), g2, g3, (show (-1 : Int) = -1 ∨ (p < (-1 : Int) ∧ (-1 : Int) ≤ h.2.2 60 44 ∧ h.2.2 60 45 = h.2.2 60 45 + 1 ∧ h.2.2 60 46 = h.2.2 60 46 + 1 ∧ htq h = htq h + 1 ∧ (p + 2 ≤ (-1 : Int) ∨ (h.2.2 88 (Int.toNat p) ≠ 34 ∧ (-1 : Int) = e))) by omega)⟩)
        refine to_iload_n (dat dk_X12_one 68 rfl) rfl (to_iconst (dat dk_X12_one 69 rfl) ?_)
        refine to_ige 133 (dat dk_X12_one 70 rfl) rfl rx6 (by decide) (fun c100 => ?_) (fun c100 => ?_)
        · skip
          refine to_iconst (dat dk_X12_one 87 rfl) ?_
          exact jn134_n78 (-1) (by decide) (show (-1 : Int) = -1 ∨ (e < (-1 : Int) ∧ (-1 : Int) < h.2.2 60 44) by omega)
        · skip
          refine to_iload_n (dat dk_X12_one 71 rfl) rfl (to_aload_n (dat dk_X12_one 72 rfl) rfl (to_getIv (y := x1) ex1 g_c13_412 (dat dk_X12_one 73 rfl) (hI.atS rfl) ?_))
          refine to_ige 133 (dat dk_X12_one 74 rfl) rfl he (by omega) (fun c101 => ?_) (fun c101 => ?_)
          · skip
            refine to_iconst (dat dk_X12_one 87 rfl) ?_
            exact jn134_n78 (-1) (by decide) (show (-1 : Int) = -1 ∨ (e < (-1 : Int) ∧ (-1 : Int) < h.2.2 60 44) by omega)
          · skip
            refine to_aload_n (dat dk_X12_one 75 rfl) rfl (to_getR 88 g_c13_100 (dat dk_X12_one 76 rfl) (hI.atS rfl) (hI.atE rfl) (to_iload_n (dat dk_X12_one 77 rfl) rfl ?_))
            obtain ⟨x102, ex102⟩ : ∃ y : Int, h.2.2 88 (Int.toNat e) = y := ⟨_, rfl⟩
            have rx102 := hI.atR (a := 88) (j := Int.toNat e) rfl
            rw [ex102] at rx102
            refine to_baldv (q := 1) ex102 (dat dk_X12_one 78 rfl) (by decide) (hI.atS rfl) rfl (by decide) (by omega) (to_bipush (dat dk_X12_one 79 rfl) (by decide) ?_)
            refine to_ine 133 (dat dk_X12_one 80 rfl) rfl (by omega) (by decide) (fun c103 => ?_) (fun c103 => ?_)
            · skip
              refine to_iconst (dat dk_X12_one 87 rfl) ?_
              exact jn134_n78 (-1) (by decide) (show (-1 : Int) = -1 ∨ (e < (-1 : Int) ∧ (-1 : Int) < h.2.2 60 44) by omega)
            · skip
              refine to_aload_n (dat dk_X12_one 81 rfl) rfl (to_iload_n (dat dk_X12_one 82 rfl) rfl (to_iconst (dat dk_X12_one 83 rfl) (to_iadd (dat dk_X12_one 84 rfl) ?_)))
              refine to_cI ca_c13_427 (dat dk_X12_one 85 rfl) (ct_X12_phraseEnd l h hI (e + 1) (by omega) (show 0 ≤ (e + 1) ∧ (e + 1) ≤ 1201 by omega)) rfl ⟨_, _, rfl, (hI.atS rfl)⟩ rfl (fun x104 h105 rx104 p106 => ?_)
              obtain ⟨rfl, p106_0⟩ := p106
              refine to_goto (dat dk_X12_one 86 rfl) rfl ?_
              exact jn134_n78 x104 rx104 (show x104 = -1 ∨ (e < x104 ∧ x104 < h.2.2 60 44) by omega)
    · skip
      refine to_aload_n (dat dk_X12_one 41 rfl) rfl (to_iconst (dat dk_X12_one 42 rfl) (to_aload_n (dat dk_X12_one 43 rfl) rfl (to_bipush (dat dk_X12_one 44 rfl) (by decide) (to_iload_n (dat dk_X12_one 45 rfl) rfl (to_iload_n (dat dk_X12_one 46 rfl) rfl (to_iconst (dat dk_X12_one 47 rfl) ?_))))))
      refine to_cI ca_c13_430 (dat dk_X12_one 48 rfl) (ct_X12_leaf_vb l h hI 8 (by decide) p hp e he 0 (by decide) (show 0 ≤ p ∧ p ≤ 1200 by omega) (show 0 ≤ e ∧ e ≤ 1200 by omega) (show 0 ≤ (8 : Int) ∧ (8 : Int) ≤ 8 by omega) (show h.2.2 60 45 ≤ 809 by omega) g3 (show p ≤ e ∧ ((0 : Int) = 1 ∨ 1 ≤ e) by omega)) rfl ⟨_, _, rfl, (hI.atS rfl)⟩ rfl (fun x107 h108 rx107 p109 => ?_)
      obtain ⟨Ih108, fh108, p109_0, p109_1, p109_2⟩ := p109
      have f110 : Fr [89, 90, 91, 92, 93, 94, 95, 245, 246] h h108 := Fr.sub (Fr.rf _ _) fh108 rfl
      have t111 : htq h108 = htq h := htq_fr fh108 hI rfl
      obtain ⟨x112, ex112⟩ : ∃ y : Int, h108.2.2 60 45 = y := ⟨_, rfl⟩
      have rx112 := Ih108.atR (a := 60) (j := 45) rfl
      rw [ex112] at rx112
      have q113 : Val h108 := Val.mono (fh108.arr hI (a := 95) (by decide) (fun _ => rfl)) (fh108.getF hI (a := 60) (j := 46) (by decide) rfl) (by omega) g2
      refine to_iadd (dat dk_X12_one 49 rfl) ?_
      have e114 : h108.2.2 60 46 = x3 := ((Fr.get fh108 (by have := hI.1.1; omega) rfl).trans ex3)
      refine to_cV ca_c13_409 (dat dk_X12_one 50 rfl) (ct_X12_done_vb l h108 Ih108 (1 + x107) (by omega) (show -4 ≤ (1 + x107) ∧ (1 + x107) ≤ 810 by omega) (show h108.2.2 60 46 ≤ 2999 by omega)) rfl ⟨_, _, rfl, (Ih108.atS rfl)⟩ rfl (fun h116 p117 => ?_)
      obtain ⟨Ih116, fh116, p117_0, p117_1⟩ := p117
      have f118 : Fr [89, 90, 91, 92, 93, 94, 95, 245, 246] h h116 := Fr.sub f110 fh116 rfl
      have t119 : LfOK h116 := LfOK_fr fh116 Ih108 rfl p109_2
      obtain ⟨x120, ex120⟩ : ∃ y : Int, h116.2.2 60 46 = y := ⟨_, rfl⟩
      have rx120 := Ih116.atR (a := 60) (j := 46) rfl
      rw [ex120] at rx120
      have q121 := DoneP.sum p117_1 (Ih108.atR (a := 60) (j := 46) rfl).1
      have q122 := hs_c (1 + x107)
      have q123 := p117_1.2.2.2
      have q124 : Val h116 := DoneP.val p117_1 (Ih108.atR (a := 60) (j := 46) rfl).1 q113 (by omega) (by omega) (by omega)
      refine to_iload_n (dat dk_X12_one 51 rfl) rfl ?_
      have e125 : h116.2.2 60 44 = x1 := ((Fr.get fh116 (by have := Ih108.1.1; omega) rfl).trans ((Fr.get fh108 (by have := hI.1.1; omega) rfl).trans ex1))
      have e126 : h116.2.2 60 45 = x112 := ((Fr.get fh116 (by have := Ih108.1.1; omega) rfl).trans ex112)
      exact to_iret rfl (dat dk_X12_one 52 rfl) (ri_mk he ⟨Ih116, f118, q124, t119, (show e = -1 ∨ (p < e ∧ e ≤ h116.2.2 60 44 ∧ h116.2.2 60 45 = h.2.2 60 45 + 1 ∧ h116.2.2 60 46 = h.2.2 60 46 + 1 ∧ htq h116 = htq h + 1 ∧ (p + 2 ≤ e ∨ (h.2.2 88 (Int.toNat p) ≠ 34 ∧ e = e))) by omega)⟩)
  · skip
    refine to_aload_n (dat dk_X12_one 6 rfl) rfl (to_iload_n (dat dk_X12_one 7 rfl) rfl (to_iconst (dat dk_X12_one 8 rfl) (to_iadd (dat dk_X12_one 9 rfl) ?_)))
    refine to_cI ca_c13_427 (dat dk_X12_one 10 rfl) (ct_X12_phraseEnd l h hI (p + 1) (by omega) (show 0 ≤ (p + 1) ∧ (p + 1) ≤ 1201 by omega)) rfl ⟨_, _, rfl, (hI.atS rfl)⟩ rfl (fun x127 h128 rx127 p129 => ?_)
    obtain ⟨rfl, p129_0⟩ := p129
    refine to_istore_n (L' := [(0, .inr (.inr 60)), (1, .inl p), (2, .inl e), (3, .inl x127)]) (dat dk_X12_one 11 rfl) (by decide) rfl (to_iload_n (dat dk_X12_one 12 rfl) rfl (to_iconst (dat dk_X12_one 13 rfl) ?_))
    refine to_ine 26 (dat dk_X12_one 14 rfl) rfl rx127 (by decide) (fun c130 => ?_) (fun c130 => ?_)
    · skip
      refine to_aload_n (dat dk_X12_one 17 rfl) rfl (to_iconst (dat dk_X12_one 18 rfl) (to_aload_n (dat dk_X12_one 19 rfl) rfl (to_bipush (dat dk_X12_one 20 rfl) (by decide) (to_iload_n (dat dk_X12_one 21 rfl) rfl (to_iconst (dat dk_X12_one 22 rfl) (to_iadd (dat dk_X12_one 23 rfl) (to_iload_n (dat dk_X12_one 24 rfl) rfl (to_iconst (dat dk_X12_one 25 rfl) ?_))))))))
      refine to_cI ca_c13_430 (dat dk_X12_one 26 rfl) (ct_X12_leaf_vb l h hI 8 (by decide) (p + 1) (by omega) x127 rx127 1 (by decide) (show 0 ≤ (p + 1) ∧ (p + 1) ≤ 1200 by omega) (show 0 ≤ x127 ∧ x127 ≤ 1200 by omega) (show 0 ≤ (8 : Int) ∧ (8 : Int) ≤ 8 by omega) (show h.2.2 60 45 ≤ 809 by omega) g3 (show (p + 1) ≤ x127 ∧ ((1 : Int) = 1 ∨ 1 ≤ x127) by omega)) rfl ⟨_, _, rfl, (hI.atS rfl)⟩ rfl (fun x131 h132 rx131 p133 => ?_)
      obtain ⟨Ih132, fh132, p133_0, p133_1, p133_2⟩ := p133
      have f134 : Fr [89, 90, 91, 92, 93, 94, 95, 245, 246] h h132 := Fr.sub (Fr.rf _ _) fh132 rfl
      have t135 : htq h132 = htq h := htq_fr fh132 hI rfl
      obtain ⟨x136, ex136⟩ : ∃ y : Int, h132.2.2 60 45 = y := ⟨_, rfl⟩
      have rx136 := Ih132.atR (a := 60) (j := 45) rfl
      rw [ex136] at rx136
      have q137 : Val h132 := Val.mono (fh132.arr hI (a := 95) (by decide) (fun _ => rfl)) (fh132.getF hI (a := 60) (j := 46) (by decide) rfl) (by omega) g2
      refine to_iadd (dat dk_X12_one 27 rfl) ?_
      have e138 : h132.2.2 60 46 = x3 := ((Fr.get fh132 (by have := hI.1.1; omega) rfl).trans ex3)
      refine to_cV ca_c13_409 (dat dk_X12_one 28 rfl) (ct_X12_done_vb l h132 Ih132 (1 + x131) (by omega) (show -4 ≤ (1 + x131) ∧ (1 + x131) ≤ 810 by omega) (show h132.2.2 60 46 ≤ 2999 by omega)) rfl ⟨_, _, rfl, (Ih132.atS rfl)⟩ rfl (fun h140 p141 => ?_)
      obtain ⟨Ih140, fh140, p141_0, p141_1⟩ := p141
      have f142 : Fr [89, 90, 91, 92, 93, 94, 95, 245, 246] h h140 := Fr.sub f134 fh140 rfl
      have t143 : LfOK h140 := LfOK_fr fh140 Ih132 rfl p133_2
      obtain ⟨x144, ex144⟩ : ∃ y : Int, h140.2.2 60 46 = y := ⟨_, rfl⟩
      have rx144 := Ih140.atR (a := 60) (j := 46) rfl
      rw [ex144] at rx144
      have q145 := DoneP.sum p141_1 (Ih132.atR (a := 60) (j := 46) rfl).1
      have q146 := hs_c (1 + x131)
      have q147 := p141_1.2.2.2
      have q148 : Val h140 := DoneP.val p141_1 (Ih132.atR (a := 60) (j := 46) rfl).1 q137 (by omega) (by omega) (by omega)
      refine to_iload_n (dat dk_X12_one 29 rfl) rfl (to_iconst (dat dk_X12_one 30 rfl) (to_iadd (dat dk_X12_one 31 rfl) ?_))
      have e149 : h140.2.2 60 44 = x1 := ((Fr.get fh140 (by have := Ih132.1.1; omega) rfl).trans ((Fr.get fh132 (by have := hI.1.1; omega) rfl).trans ex1))
      have e150 : h140.2.2 60 45 = x136 := ((Fr.get fh140 (by have := Ih132.1.1; omega) rfl).trans ex136)
      exact to_iret rfl (dat dk_X12_one 32 rfl) (ri_mk (by omega) ⟨Ih140, f142, q148, t143, (show (x127 + 1) = -1 ∨ (p < (x127 + 1) ∧ (x127 + 1) ≤ h140.2.2 60 44 ∧ h140.2.2 60 45 = h.2.2 60 45 + 1 ∧ h140.2.2 60 46 = h.2.2 60 46 + 1 ∧ htq h140 = htq h + 1 ∧ (p + 2 ≤ (x127 + 1) ∨ (h.2.2 88 (Int.toNat p) ≠ 34 ∧ (x127 + 1) = e))) by omega)⟩)
    · skip
      refine to_iconst (dat dk_X12_one 15 rfl) ?_
      exact to_iret rfl (dat dk_X12_one 16 rfl) (ri_mk (by decide) ⟨hI, (Fr.rf _ _), g2, g3, (show (-1 : Int) = -1 ∨ (p < (-1 : Int) ∧ (-1 : Int) ≤ h.2.2 60 44 ∧ h.2.2 60 45 = h.2.2 60 45 + 1 ∧ h.2.2 60 46 = h.2.2 60 46 + 1 ∧ htq h = htq h + 1 ∧ (p + 2 ≤ (-1 : Int) ∨ (h.2.2 88 (Int.toNat p) ≠ 34 ∧ (-1 : Int) = e))) by omega)⟩)
