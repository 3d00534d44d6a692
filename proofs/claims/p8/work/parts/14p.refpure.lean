/-! Contracts, by program. -/
abbrev Q_X12_wordEnd_vx (h : Hp) (f : Int) : Option V → Hp → Nat → Nat → Prop := RI (fun x H => h = H ∧ (f ≤ x ∧ x ≤ H.2.2 60 44) ∧ ((f < x ∧ sp (H.2.2 88 (Int.toNat f)) = 0) ∨ (x = f ∧ (f = H.2.2 60 44 ∨ sp (H.2.2 88 (Int.toNat f)) = 1))) ∧ (x = H.2.2 60 44 ∨ sp (H.2.2 88 (Int.toNat x)) = 1) ∧ (x = (skp noSg (hr H) (hn H) (Int.toNat f) : Nat)))
set_option maxRecDepth 100000 in
theorem ct_X12_wordEnd_vx (l : Launch) (h : Hp) (hI : Inv h) (f : Int) (hf : I32 f) (g0 : 0 ≤ f ∧ f ≤ h.2.2 60 44) : Ct l D_X12_wordEnd 1 20 [.inr (.inr 60), .inl f] h (Q_X12_wordEnd_vx h f) := by
  refine ct_of pn_X12_wordEnd (Nat.le_of_ble_eq_true rfl) ?_
  show To l E_X12_wordEnd (0, [(0, .inr (.inr 60)), (1, .inl f)], [], h, 0, 0) _
  have zh := hn_is hI
  refine to_iload_n (dat dk_X12_wordEnd 0 rfl) rfl (to_istore_n (L' := [(0, .inr (.inr 60)), (1, .inl f), (2, .inl f)]) (dat dk_X12_wordEnd 1 rfl) (by decide) rfl (to_iload_n (dat dk_X12_wordEnd 2 rfl) rfl (to_aload_n (dat dk_X12_wordEnd 3 rfl) rfl ?_)))
  obtain ⟨x1, ex1⟩ : ∃ y : Int, h.2.2 60 44 = y := ⟨_, rfl⟩
  have rx1 := hI.atR (a := 60) (j := 44) rfl
  rw [ex1] at rx1
  refine to_getIv (y := x1) ex1 g_c13_412 (dat dk_X12_wordEnd 4 rfl) (hI.atS rfl) ?_
  refine to_ige 61 (dat dk_X12_wordEnd 5 rfl) rfl hf (by omega) (fun c2 => ?_) (fun c2 => ?_)
  · skip
    refine to_iload_n (dat dk_X12_wordEnd 32 rfl) rfl ?_
    exact to_iret rfl (dat dk_X12_wordEnd 33 rfl) (ri_mk hf ⟨rfl, (show f ≤ f ∧ f ≤ h.2.2 60 44 by omega), (show (f < f ∧ sp (h.2.2 88 (Int.toNat f)) = 0) ∨ (f = f ∧ (f = h.2.2 60 44 ∨ sp (h.2.2 88 (Int.toNat f)) = 1)) by omega), (show f = h.2.2 60 44 ∨ sp (h.2.2 88 (Int.toNat f)) = 1 by omega), (by rw [skp_end (P := noSg) (r := hr h) (n := hn h) (p := Int.toNat f) (Or.inl (by omega))]; omega)⟩)
  · skip
    refine to_aload_n (dat dk_X12_wordEnd 6 rfl) rfl (to_getR 88 g_c13_100 (dat dk_X12_wordEnd 7 rfl) (hI.atS rfl) (hI.atE rfl) (to_iload_n (dat dk_X12_wordEnd 8 rfl) rfl ?_))
    obtain ⟨x3, ex3⟩ : ∃ y : Int, h.2.2 88 (Int.toNat f) = y := ⟨_, rfl⟩
    have rx3 := hI.atR (a := 88) (j := Int.toNat f) rfl
    rw [ex3] at rx3
    refine to_baldv (q := 1) ex3 (dat dk_X12_wordEnd 9 rfl) (by decide) (hI.atS rfl) rfl (by decide) (by omega) ?_
    have z4 := sp_c x3
    have z5 : sp (h.2.2 88 (Int.toNat f)) = sp x3 := by rw [ex3]
    refine to_cI ca_c13_182 (dat dk_X12_wordEnd 10 rfl) (ct_X12_isBlank_vb l h hI x3 (by omega)) rfl trivial rfl (fun x6 h7 rx6 p8 => ?_)
    obtain ⟨rfl, zx6, p8_0⟩ := p8
    refine to_ifne 61 (dat dk_X12_wordEnd 11 rfl) rfl rx6 (fun c9 => ?_) (fun c9 => ?_)
    · skip
      refine to_iload_n (dat dk_X12_wordEnd 32 rfl) rfl ?_
      exact to_iret rfl (dat dk_X12_wordEnd 33 rfl) (ri_mk hf ⟨rfl, (show f ≤ f ∧ f ≤ h.2.2 60 44 by omega), (show (f < f ∧ sp (h.2.2 88 (Int.toNat f)) = 0) ∨ (f = f ∧ (f = h.2.2 60 44 ∨ sp (h.2.2 88 (Int.toNat f)) = 1)) by omega), (show f = h.2.2 60 44 ∨ sp (h.2.2 88 (Int.toNat f)) = 1 by omega), (by rw [skp_end (P := noSg) (r := hr h) (n := hn h) (p := Int.toNat f) (Or.inr (nsg_no (by omega)))]; omega)⟩)
    · skip
      refine to_aload_n (dat dk_X12_wordEnd 12 rfl) rfl (to_getR 88 g_c13_100 (dat dk_X12_wordEnd 13 rfl) (hI.atS rfl) (hI.atE rfl) (to_iload_n (dat dk_X12_wordEnd 14 rfl) rfl ?_))
      obtain ⟨x10, ex10⟩ : ∃ y : Int, h.2.2 88 (Int.toNat f) = y := ⟨_, rfl⟩
      have rx10 := hI.atR (a := 88) (j := Int.toNat f) rfl
      rw [ex10] at rx10
      refine to_baldv (q := 1) ex10 (dat dk_X12_wordEnd 15 rfl) (by decide) (hI.atS rfl) rfl (by decide) (by omega) (to_bipush (dat dk_X12_wordEnd 16 rfl) (by decide) ?_)
      refine to_ieq 61 (dat dk_X12_wordEnd 17 rfl) rfl (by omega) (by decide) (fun c11 => ?_) (fun c11 => ?_)
      · skip
        refine to_iload_n (dat dk_X12_wordEnd 32 rfl) rfl ?_
        exact to_iret rfl (dat dk_X12_wordEnd 33 rfl) (ri_mk hf ⟨rfl, (show f ≤ f ∧ f ≤ h.2.2 60 44 by omega), (show (f < f ∧ sp (h.2.2 88 (Int.toNat f)) = 0) ∨ (f = f ∧ (f = h.2.2 60 44 ∨ sp (h.2.2 88 (Int.toNat f)) = 1)) by omega), (show f = h.2.2 60 44 ∨ sp (h.2.2 88 (Int.toNat f)) = 1 by omega), (by rw [skp_end (P := noSg) (r := hr h) (n := hn h) (p := Int.toNat f) (Or.inr (nsg_no (by omega)))]; omega)⟩)
      · skip
        refine to_aload_n (dat dk_X12_wordEnd 18 rfl) rfl (to_getR 88 g_c13_100 (dat dk_X12_wordEnd 19 rfl) (hI.atS rfl) (hI.atE rfl) (to_iload_n (dat dk_X12_wordEnd 20 rfl) rfl ?_))
        obtain ⟨x12, ex12⟩ : ∃ y : Int, h.2.2 88 (Int.toNat f) = y := ⟨_, rfl⟩
        have rx12 := hI.atR (a := 88) (j := Int.toNat f) rfl
        rw [ex12] at rx12
        refine to_baldv (q := 1) ex12 (dat dk_X12_wordEnd 21 rfl) (by decide) (hI.atS rfl) rfl (by decide) (by omega) (to_bipush (dat dk_X12_wordEnd 22 rfl) (by decide) ?_)
        refine to_ieq 61 (dat dk_X12_wordEnd 23 rfl) rfl (by omega) (by decide) (fun c13 => ?_) (fun c13 => ?_)
        · skip
          refine to_iload_n (dat dk_X12_wordEnd 32 rfl) rfl ?_
          exact to_iret rfl (dat dk_X12_wordEnd 33 rfl) (ri_mk hf ⟨rfl, (show f ≤ f ∧ f ≤ h.2.2 60 44 by omega), (show (f < f ∧ sp (h.2.2 88 (Int.toNat f)) = 0) ∨ (f = f ∧ (f = h.2.2 60 44 ∨ sp (h.2.2 88 (Int.toNat f)) = 1)) by omega), (show f = h.2.2 60 44 ∨ sp (h.2.2 88 (Int.toNat f)) = 1 by omega), (by rw [skp_end (P := noSg) (r := hr h) (n := hn h) (p := Int.toNat f) (Or.inr (nsg_no (by omega)))]; omega)⟩)
        · skip
          refine to_aload_n (dat dk_X12_wordEnd 24 rfl) rfl (to_getR 88 g_c13_100 (dat dk_X12_wordEnd 25 rfl) (hI.atS rfl) (hI.atE rfl) (to_iload_n (dat dk_X12_wordEnd 26 rfl) rfl ?_))
          obtain ⟨x14, ex14⟩ : ∃ y : Int, h.2.2 88 (Int.toNat f) = y := ⟨_, rfl⟩
          have rx14 := hI.atR (a := 88) (j := Int.toNat f) rfl
          rw [ex14] at rx14
          refine to_baldv (q := 1) ex14 (dat dk_X12_wordEnd 27 rfl) (by decide) (hI.atS rfl) rfl (by decide) (by omega) (to_bipush (dat dk_X12_wordEnd 28 rfl) (by decide) ?_)
          refine to_ieq 61 (dat dk_X12_wordEnd 29 rfl) rfl (by omega) (by decide) (fun c15 => ?_) (fun c15 => ?_)
          · skip
            refine to_iload_n (dat dk_X12_wordEnd 32 rfl) rfl ?_
            exact to_iret rfl (dat dk_X12_wordEnd 33 rfl) (ri_mk hf ⟨rfl, (show f ≤ f ∧ f ≤ h.2.2 60 44 by omega), (show (f < f ∧ sp (h.2.2 88 (Int.toNat f)) = 0) ∨ (f = f ∧ (f = h.2.2 60 44 ∨ sp (h.2.2 88 (Int.toNat f)) = 1)) by omega), (show f = h.2.2 60 44 ∨ sp (h.2.2 88 (Int.toNat f)) = 1 by omega), (by rw [skp_end (P := noSg) (r := hr h) (n := hn h) (p := Int.toNat f) (Or.inr (nsg_no (by omega)))]; omega)⟩)
          · skip
            refine to_iinc (L' := [(0, .inr (.inr 60)), (1, .inl f), (2, .inl (f + 1))]) (dat dk_X12_wordEnd 30 rfl) rfl (by decide) rfl (to_goto (dat dk_X12_wordEnd 31 rfl) rfl ?_)
            have lp2_n20 : ∀ (n20 : Nat) (y16 : Int), (I32 y16) → (f < y16 ∧ y16 ≤ h.2.2 60 44) → (f < h.2.2 60 44 ∧ sp (h.2.2 88 (Int.toNat f)) = 0) → (skp noSg (hr h) (hn h) (Int.toNat f) = skp noSg (hr h) (hn h) (Int.toNat y16)) → (h.2.2 60 44 - y16 ≤ (n20 : Int)) → To l E_X12_wordEnd (2, [(0, .inr (.inr 60)), (1, .inl f), (2, .inl y16)], [], h, 0, 0) (Q_X12_wordEnd_vx h f) := by
              intro n20
              induction n20 using Nat.strongRecOn with
              | _ n20 ihn20 =>
              intro y16 ry16 c17 c18 c19 c21
              refine to_iload_n (dat dk_X12_wordEnd 2 rfl) rfl (to_aload_n (dat dk_X12_wordEnd 3 rfl) rfl (to_getIv (y := x1) ex1 g_c13_412 (dat dk_X12_wordEnd 4 rfl) (hI.atS rfl) ?_))
              refine to_ige 61 (dat dk_X12_wordEnd 5 rfl) rfl ry16 (by omega) (fun c22 => ?_) (fun c22 => ?_)
              · skip
                refine to_iload_n (dat dk_X12_wordEnd 32 rfl) rfl ?_
                exact to_iret rfl (dat dk_X12_wordEnd 33 rfl) (ri_mk ry16 ⟨rfl, (show f ≤ y16 ∧ y16 ≤ h.2.2 60 44 by omega), (show (f < y16 ∧ sp (h.2.2 88 (Int.toNat f)) = 0) ∨ (y16 = f ∧ (f = h.2.2 60 44 ∨ sp (h.2.2 88 (Int.toNat f)) = 1)) by omega), (show y16 = h.2.2 60 44 ∨ sp (h.2.2 88 (Int.toNat y16)) = 1 by omega), (by rw [c19, skp_end (P := noSg) (r := hr h) (n := hn h) (p := Int.toNat y16) (Or.inl (by omega))]; omega)⟩)
              · skip
                refine to_aload_n (dat dk_X12_wordEnd 6 rfl) rfl (to_getR 88 g_c13_100 (dat dk_X12_wordEnd 7 rfl) (hI.atS rfl) (hI.atE rfl) (to_iload_n (dat dk_X12_wordEnd 8 rfl) rfl ?_))
                obtain ⟨x23, ex23⟩ : ∃ y : Int, h.2.2 88 (Int.toNat y16) = y := ⟨_, rfl⟩
                have rx23 := hI.atR (a := 88) (j := Int.toNat y16) rfl
                rw [ex23] at rx23
                refine to_baldv (q := 1) ex23 (dat dk_X12_wordEnd 9 rfl) (by decide) (hI.atS rfl) rfl (by decide) (by omega) ?_
                have z24 := sp_c x23
                have z25 : sp (h.2.2 88 (Int.toNat y16)) = sp x23 := by rw [ex23]
                refine to_cI ca_c13_182 (dat dk_X12_wordEnd 10 rfl) (ct_X12_isBlank_vb l h hI x23 (by omega)) rfl trivial rfl (fun x26 h27 rx26 p28 => ?_)
                obtain ⟨rfl, zx26, p28_0⟩ := p28
                refine to_ifne 61 (dat dk_X12_wordEnd 11 rfl) rfl rx26 (fun c29 => ?_) (fun c29 => ?_)
                · skip
                  refine to_iload_n (dat dk_X12_wordEnd 32 rfl) rfl ?_
                  exact to_iret rfl (dat dk_X12_wordEnd 33 rfl) (ri_mk ry16 ⟨rfl, (show f ≤ y16 ∧ y16 ≤ h.2.2 60 44 by omega), (show (f < y16 ∧ sp (h.2.2 88 (Int.toNat f)) = 0) ∨ (y16 = f ∧ (f = h.2.2 60 44 ∨ sp (h.2.2 88 (Int.toNat f)) = 1)) by omega), (show y16 = h.2.2 60 44 ∨ sp (h.2.2 88 (Int.toNat y16)) = 1 by omega), (by rw [c19, skp_end (P := noSg) (r := hr h) (n := hn h) (p := Int.toNat y16) (Or.inr (nsg_no (by omega)))]; omega)⟩)
                · skip
                  refine to_aload_n (dat dk_X12_wordEnd 12 rfl) rfl (to_getR 88 g_c13_100 (dat dk_X12_wordEnd 13 rfl) (hI.atS rfl) (hI.atE rfl) (to_iload_n (dat dk_X12_wordEnd 14 rfl) rfl ?_))
                  obtain ⟨x30, ex30⟩ : ∃ y : Int, h.2.2 88 (Int.toNat y16) = y := ⟨_, rfl⟩
                  have rx30 := hI.atR (a := 88) (j := Int.toNat y16) rfl
                  rw [ex30] at rx30
                  refine to_baldv (q := 1) ex30 (dat dk_X12_wordEnd 15 rfl) (by decide) (hI.atS rfl) rfl (by decide) (by omega) (to_bipush (dat dk_X12_wordEnd 16 rfl) (by decide) ?_)
                  refine to_ieq 61 (dat dk_X12_wordEnd 17 rfl) rfl (by omega) (by decide) (fun c31 => ?_) (fun c31 => ?_)
                  · skip
                    refine to_iload_n (dat dk_X12_wordEnd 32 rfl) rfl ?_
                    exact to_iret rfl (dat dk_X12_wordEnd 33 rfl) (ri_mk ry16 ⟨rfl, (show f ≤ y16 ∧ y16 ≤ h.2.2 60 44 by omega), (show (f < y16 ∧ sp (h.2.2 88 (Int.toNat f)) = 0) ∨ (y16 = f ∧ (f = h.2.2 60 44 ∨ sp (h.2.2 88 (Int.toNat f)) = 1)) by omega), (show y16 = h.2.2 60 44 ∨ sp (h.2.2 88 (Int.toNat y16)) = 1 by omega), (by rw [c19, skp_end (P := noSg) (r := hr h) (n := hn h) (p := Int.toNat y16) (Or.inr (nsg_no (by omega)))]; omega)⟩)
                  · skip
                    refine to_aload_n (dat dk_X12_wordEnd 18 rfl) rfl (to_getR 88 g_c13_100 (dat dk_X12_wordEnd 19 rfl) (hI.atS rfl) (hI.atE rfl) (to_iload_n (dat dk_X12_wordEnd 20 rfl) rfl ?_))
                    obtain ⟨x32, ex32⟩ : ∃ y : Int, h.2.2 88 (Int.toNat y16) = y := ⟨_, rfl⟩
                    have rx32 := hI.atR (a := 88) (j := Int.toNat y16) rfl
                    rw [ex32] at rx32
                    refine to_baldv (q := 1) ex32 (dat dk_X12_wordEnd 21 rfl) (by decide) (hI.atS rfl) rfl (by decide) (by omega) (to_bipush (dat dk_X12_wordEnd 22 rfl) (by decide) ?_)
                    refine to_ieq 61 (dat dk_X12_wordEnd 23 rfl) rfl (by omega) (by decide) (fun c33 => ?_) (fun c33 => ?_)
                    · skip
                      refine to_iload_n (dat dk_X12_wordEnd 32 rfl) rfl ?_
                      exact to_iret rfl (dat dk_X12_wordEnd 33 rfl) (ri_mk ry16 ⟨rfl, (show f ≤ y16 ∧ y16 ≤ h.2.2 60 44 by omega), (show (f < y16 ∧ sp (h.2.2 88 (Int.toNat f)) = 0) ∨ (y16 = f ∧ (f = h.2.2 60 44 ∨ sp (h.2.2 88 (Int.toNat f)) = 1)) by omega), (show y16 = h.2.2 60 44 ∨ sp (h.2.2 88 (Int.toNat y16)) = 1 by omega), (by rw [c19, skp_end (P := noSg) (r := hr h) (n := hn h) (p := Int.toNat y16) (Or.inr (nsg_no (by omega)))]; omega)⟩)
                    · skip
                      refine to_aload_n (dat dk_X12_wordEnd 24 rfl) rfl (to_getR 88 g_c13_100 (dat dk_X12_wordEnd 25 rfl) (hI.atS rfl) (hI.atE rfl) (to_iload_n (dat dk_X12_wordEnd 26 rfl) rfl ?_))
                      obtain ⟨x34, ex34⟩ : ∃ y : Int, h.2.2 88 (Int.toNat y16) = y := ⟨_, rfl⟩
                      have rx34 := hI.atR (a := 88) (j := Int.toNat y16) rfl
                      rw [ex34] at rx34
                      refine to_baldv (q := 1) ex34 (dat dk_X12_wordEnd 27 rfl) (by decide) (hI.atS rfl) rfl (by decide) (by omega) (to_bipush (dat dk_X12_wordEnd 28 rfl) (by decide) ?_)
                      refine to_ieq 61 (dat dk_X12_wordEnd 29 rfl) rfl (by omega) (by decide) (fun c35 => ?_) (fun c35 => ?_)
                      · skip
                        refine to_iload_n (dat dk_X12_wordEnd 32 rfl) rfl ?_
                        exact to_iret rfl (dat dk_X12_wordEnd 33 rfl) (ri_mk ry16 ⟨rfl, (show f ≤ y16 ∧ y16 ≤ h.2.2 60 44 by omega), (show (f < y16 ∧ sp (h.2.2 88 (Int.toNat f)) = 0) ∨ (y16 = f ∧ (f = h.2.2 60 44 ∨ sp (h.2.2 88 (Int.toNat f)) = 1)) by omega), (show y16 = h.2.2 60 44 ∨ sp (h.2.2 88 (Int.toNat y16)) = 1 by omega), (by rw [c19, skp_end (P := noSg) (r := hr h) (n := hn h) (p := Int.toNat y16) (Or.inr (nsg_no (by omega)))]; omega)⟩)
                      · skip
                        refine to_iinc (L' := [(0, .inr (.inr 60)), (1, .inl f), (2, .inl (y16 + 1))]) (dat dk_X12_wordEnd 30 rfl) rfl (by decide) rfl (to_goto (dat dk_X12_wordEnd 31 rfl) rfl ?_)
                        exact ihn20 (n20 - 1) (by omega) (y16 + 1) (by omega) (show f < (y16 + 1) ∧ (y16 + 1) ≤ h.2.2 60 44 by omega) (show f < h.2.2 60 44 ∧ sp (h.2.2 88 (Int.toNat f)) = 0 by omega) (by rw [c19, skp_more (P := noSg) (r := hr h) (n := hn h) (p := Int.toNat y16) (by omega) (nsg_at (by omega))]; exact congrArg (skp noSg (hr h) (hn h)) (by omega)) (show h.2.2 60 44 - (y16 + 1) ≤ ((n20 - 1 : Nat) : Int) by omega)
            exact lp2_n20 (h.2.2 60 44 - (f + 1)).toNat (f + 1) (by omega) (show f < (f + 1) ∧ (f + 1) ≤ h.2.2 60 44 by omega) (show f < h.2.2 60 44 ∧ sp (h.2.2 88 (Int.toNat f)) = 0 by omega) (by rw [skp_more (P := noSg) (r := hr h) (n := hn h) (p := Int.toNat f) (by omega) (nsg_at (by omega))]; exact congrArg (skp noSg (hr h) (hn h)) (by omega)) (by omega)
abbrev Q_X12_just_vx (h : Hp) (a : Nat) (f : Int) (g : Int) (w nw : Nat) : Option V → Hp → Nat → Nat → Prop := RI (fun x H => h = H ∧ (x = 0 ∨ x = 1) ∧ (x = 0 ∨ g - f = (nw : Int)) ∧ (x = bi (isW (H.2.2 a) (Int.toNat f) (Int.toNat g) (icod w))))
set_option maxRecDepth 100000 in
theorem ct_X12_just_vx (l : Launch) (h : Hp) (hI : Inv h) (a : Nat) (na : Nat) (ha : isA a na = true) (f : Int) (hf : I32 f) (g : Int) (hg : I32 g) (w nw : Nat) (hw : (w, nw) ∈ saL) (g0 : 0 ≤ f ∧ f ≤ 640000) (g1 : -1 ≤ g ∧ g ≤ (na : Int)) (g2 : f ≤ g) : Ct l D_X12_just 0 0 [.inr (.inr a), .inl f, .inl g, .inr (.inr w)] h (Q_X12_just_vx h a f g w nw) := by
  refine ct_of pn_X12_just (Nat.le_of_ble_eq_true rfl) ?_
  show To l E_X12_just (0, [(0, .inr (.inr a)), (1, .inl f), (2, .inl g), (3, .inr (.inr w))], [], h, 0, 0) _
  have la := isA_le ha
  have lw := sa_n hw
  refine to_iload_n (dat dk_X12_just 0 rfl) rfl (to_iload_n (dat dk_X12_just 1 rfl) rfl (to_isub (dat dk_X12_just 2 rfl) (to_aload_np (dat dk_X12_just 3 rfl) (sa_pos hw) rfl (to_saLen hw (dat dk_X12_just 4 rfl) ?_))))
  refine to_ieq 10 (dat dk_X12_just 5 rfl) rfl (by omega) (by omega) (fun c1 => ?_) (fun c1 => ?_)
  · skip
    refine to_iconst (dat dk_X12_just 8 rfl) (to_istore (L' := [(0, .inr (.inr a)), (1, .inl f), (2, .inl g), (3, .inr (.inr w)), (4, .inl 0)]) (dat dk_X12_just 9 rfl) (by decide) rfl ?_)
    have lp13_n5 : ∀ (n5 : Nat) (y2 : Int), (I32 y2) → (0 ≤ y2 ∧ y2 ≤ (nw : Int)) → (∀ j : Nat, (j : Int) < y2 → h.2.2 a (Int.toNat f + j) = (icod w).getD j 0) → ((nw : Int) - y2 ≤ (n5 : Int)) → To l E_X12_just (13, [(0, .inr (.inr a)), (1, .inl f), (2, .inl g), (3, .inr (.inr w)), (4, .inl y2)], [], h, 0, 0) (Q_X12_just_vx h a f g w nw) := by
      intro n5
      induction n5 using Nat.strongRecOn with
      | _ n5 ihn5 =>
      intro y2 ry2 c3 c4 c6
      refine to_iload (dat dk_X12_just 10 rfl) rfl (to_aload_np (dat dk_X12_just 11 rfl) (sa_pos hw) rfl (to_saLen hw (dat dk_X12_just 12 rfl) ?_))
      refine to_ige 41 (dat dk_X12_just 13 rfl) rfl ry2 (by omega) (fun c7 => ?_) (fun c7 => ?_)
      · skip
        refine to_iconst (dat dk_X12_just 27 rfl) ?_
        exact to_zret rfl (dat dk_X12_just 28 rfl) (by decide) (ri_mk (by decide) ⟨rfl, (by decide), (show (1 : Int) = 0 ∨ g - f = (nw : Int) by omega), (by rw [bi_1 (isW_yes (r := h.2.2 a) (p := Int.toNat f) (e := Int.toNat g) (w := icod w) (by have := icod_len hw; omega) (fun j hj => c4 j (by have := icod_len hw; omega)))])⟩)
      · skip
        refine to_aload_np (dat dk_X12_just 14 rfl) (hI.posN (hI.aT ha)) rfl (to_iload_n (dat dk_X12_just 15 rfl) rfl (to_iload (dat dk_X12_just 16 rfl) rfl (to_iadd (dat dk_X12_just 17 rfl) ?_)))
        obtain ⟨x8, ex8⟩ : ∃ y : Int, h.2.2 a (Int.toNat (f + y2)) = y := ⟨_, rfl⟩
        have rx8 := hI.aC (j := Int.toNat (f + y2)) ha
        rw [ex8] at rx8
        refine to_baldv (q := 1) ex8 (dat dk_X12_just 18 rfl) (by decide) (hI.aT ha) rfl (isA_n ha) (by omega) (to_aload_np (dat dk_X12_just 19 rfl) (sa_pos hw) rfl (to_iload (dat dk_X12_just 20 rfl) rfl ?_))
        obtain ⟨x9, ex9⟩ : ∃ y : Int, (icod w).getD (Int.toNat y2) 0 = y := ⟨_, rfl⟩
        have rx9 := icod_in hw (Int.toNat y2)
        rw [ex9] at rx9
        refine to_saIntx hw ex9 (dat dk_X12_just 21 rfl) (by omega) ?_
        refine to_ieq 35 (dat dk_X12_just 22 rfl) rfl (by omega) (by omega) (fun c10 => ?_) (fun c10 => ?_)
        · skip
          refine to_iinc (L' := [(0, .inr (.inr a)), (1, .inl f), (2, .inl g), (3, .inr (.inr w)), (4, .inl (y2 + 1))]) (dat dk_X12_just 25 rfl) rfl (by decide) rfl (to_goto (dat dk_X12_just 26 rfl) rfl ?_)
          exact ihn5 (n5 - 1) (by omega) (y2 + 1) (by omega) (show 0 ≤ (y2 + 1) ∧ (y2 + 1) ≤ (nw : Int) by omega) (fun j hj => if cj : (j : Int) = y2 then (by have z1 : Int.toNat f + j = Int.toNat (f + y2) := (by omega); rw [z1]; have z2 : j = Int.toNat y2 := (by omega); rw [z2]; omega) else c4 j (by omega)) (show (nw : Int) - (y2 + 1) ≤ ((n5 - 1 : Nat) : Int) by omega)
        · skip
          refine to_iconst (dat dk_X12_just 23 rfl) ?_
          exact to_zret rfl (dat dk_X12_just 24 rfl) (by decide) (ri_mk (by decide) ⟨rfl, (by decide), (show (0 : Int) = 0 ∨ g - f = (nw : Int) by omega), (by rw [bi_0 (isW_mis (r := h.2.2 a) (p := Int.toNat f) (e := Int.toNat g) (w := icod w) (j := Int.toNat y2) (by have := icod_len hw; omega) (by have z1 : Int.toNat f + Int.toNat y2 = Int.toNat (f + y2) := (by omega); rw [z1]; omega))])⟩)
    exact lp13_n5 ((nw : Int) - (0 : Int)).toNat 0 (by decide) (show 0 ≤ (0 : Int) ∧ (0 : Int) ≤ (nw : Int) by omega) (fun j hj => absurd hj (by omega)) (by omega)
  · skip
    refine to_iconst (dat dk_X12_just 6 rfl) ?_
    exact to_zret rfl (dat dk_X12_just 7 rfl) (by decide) (ri_mk (by decide) ⟨rfl, (by decide), (show (0 : Int) = 0 ∨ g - f = (nw : Int) by omega), (by rw [bi_0 (isW_no (r := h.2.2 a) (by have := icod_len hw; omega))])⟩)
abbrev Q_X12_phraseEnd_vx (h : Hp) (f : Int) : Option V → Hp → Nat → Nat → Prop := RI (fun x H => h = H ∧ (x = -1 ∨ (f ≤ x ∧ x < H.2.2 60 44)) ∧ (x = phE (hr H) (hn H) (Int.toNat f)))
set_option maxRecDepth 100000 in
theorem ct_X12_phraseEnd_vx (l : Launch) (h : Hp) (hI : Inv h) (f : Int) (hf : I32 f) (g0 : 0 ≤ f ∧ f ≤ 1201) : Ct l D_X12_phraseEnd 0 0 [.inr (.inr 60), .inl f] h (Q_X12_phraseEnd_vx h f) := by
  refine ct_of pn_X12_phraseEnd (Nat.le_of_ble_eq_true rfl) ?_
  show To l E_X12_phraseEnd (0, [(0, .inr (.inr 60)), (1, .inl f)], [], h, 0, 0) _
  have zh := hn_is hI
  refine to_iload_n (dat dk_X12_phraseEnd 0 rfl) rfl (to_istore_n (L' := [(0, .inr (.inr 60)), (1, .inl f), (2, .inl f)]) (dat dk_X12_phraseEnd 1 rfl) (by decide) rfl ?_)
  have lp2_n5 : ∀ (n5 : Nat) (y1 : Int), (I32 y1) → (f ≤ y1) → (y1 = f ∨ y1 ≤ h.2.2 60 44) → (phE (hr h) (hn h) (Int.toNat f) = phE (hr h) (hn h) (Int.toNat y1)) → (h.2.2 60 44 - y1 ≤ (n5 : Int)) → To l E_X12_phraseEnd (2, [(0, .inr (.inr 60)), (1, .inl f), (2, .inl y1)], [], h, 0, 0) (Q_X12_phraseEnd_vx h f) := by
    intro n5
    induction n5 using Nat.strongRecOn with
    | _ n5 ihn5 =>
    intro y1 ry1 c2 c3 c4 c6
    refine to_iload_n (dat dk_X12_phraseEnd 2 rfl) rfl (to_aload_n (dat dk_X12_phraseEnd 3 rfl) rfl ?_)
    obtain ⟨x7, ex7⟩ : ∃ y : Int, h.2.2 60 44 = y := ⟨_, rfl⟩
    have rx7 := hI.atR (a := 60) (j := 44) rfl
    rw [ex7] at rx7
    refine to_getIv (y := x7) ex7 g_c13_412 (dat dk_X12_phraseEnd 4 rfl) (hI.atS rfl) ?_
    refine to_ige 27 (dat dk_X12_phraseEnd 5 rfl) rfl ry1 (by omega) (fun c8 => ?_) (fun c8 => ?_)
    · skip
      refine to_iload_n (dat dk_X12_phraseEnd 14 rfl) rfl (to_aload_n (dat dk_X12_phraseEnd 15 rfl) rfl (to_getIv (y := x7) ex7 g_c13_412 (dat dk_X12_phraseEnd 16 rfl) (hI.atS rfl) ?_))
      refine to_ige 39 (dat dk_X12_phraseEnd 17 rfl) rfl ry1 (by omega) (fun c9 => ?_) (fun c9 => ?_)
      · skip
        refine to_iconst (dat dk_X12_phraseEnd 20 rfl) ?_
        exact to_iret rfl (dat dk_X12_phraseEnd 21 rfl) (ri_mk (by decide) ⟨rfl, (show (-1 : Int) = -1 ∨ (f ≤ (-1 : Int) ∧ (-1 : Int) < h.2.2 60 44) by omega), (by rw [c4, phE_none (r := hr h) (n := hn h) (p := Int.toNat y1) (by omega)])⟩)
      · skip
        refine to_iload_n (dat dk_X12_phraseEnd 18 rfl) rfl (to_goto (dat dk_X12_phraseEnd 19 rfl) rfl ?_)
        exact to_iret rfl (dat dk_X12_phraseEnd 21 rfl) (ri_mk ry1 ⟨rfl, (show y1 = -1 ∨ (f ≤ y1 ∧ y1 < h.2.2 60 44) by omega), (by rw [c4, phE_at (r := hr h) (n := hn h) (p := Int.toNat y1) (by omega) (show h.2.2 88 (Int.toNat y1) = 34 by omega)]; omega)⟩)
    · skip
      refine to_aload_n (dat dk_X12_phraseEnd 6 rfl) rfl (to_getR 88 g_c13_100 (dat dk_X12_phraseEnd 7 rfl) (hI.atS rfl) (hI.atE rfl) (to_iload_n (dat dk_X12_phraseEnd 8 rfl) rfl ?_))
      obtain ⟨x10, ex10⟩ : ∃ y : Int, h.2.2 88 (Int.toNat y1) = y := ⟨_, rfl⟩
      have rx10 := hI.atR (a := 88) (j := Int.toNat y1) rfl
      rw [ex10] at rx10
      refine to_baldv (q := 1) ex10 (dat dk_X12_phraseEnd 9 rfl) (by decide) (hI.atS rfl) rfl (by decide) (by omega) (to_bipush (dat dk_X12_phraseEnd 10 rfl) (by decide) ?_)
      refine to_ieq 27 (dat dk_X12_phraseEnd 11 rfl) rfl (by omega) (by decide) (fun c11 => ?_) (fun c11 => ?_)
      · skip
        refine to_iload_n (dat dk_X12_phraseEnd 14 rfl) rfl (to_aload_n (dat dk_X12_phraseEnd 15 rfl) rfl (to_getIv (y := x7) ex7 g_c13_412 (dat dk_X12_phraseEnd 16 rfl) (hI.atS rfl) ?_))
        refine to_ige 39 (dat dk_X12_phraseEnd 17 rfl) rfl ry1 (by omega) (fun c12 => ?_) (fun c12 => ?_)
        · skip
          refine to_iconst (dat dk_X12_phraseEnd 20 rfl) ?_
          exact to_iret rfl (dat dk_X12_phraseEnd 21 rfl) (ri_mk (by decide) ⟨rfl, (show (-1 : Int) = -1 ∨ (f ≤ (-1 : Int) ∧ (-1 : Int) < h.2.2 60 44) by omega), (by rw [c4, phE_none (r := hr h) (n := hn h) (p := Int.toNat y1) (by omega)])⟩)
        · skip
          refine to_iload_n (dat dk_X12_phraseEnd 18 rfl) rfl (to_goto (dat dk_X12_phraseEnd 19 rfl) rfl ?_)
          exact to_iret rfl (dat dk_X12_phraseEnd 21 rfl) (ri_mk ry1 ⟨rfl, (show y1 = -1 ∨ (f ≤ y1 ∧ y1 < h.2.2 60 44) by omega), (by rw [c4, phE_at (r := hr h) (n := hn h) (p := Int.toNat y1) (by omega) (show h.2.2 88 (Int.toNat y1) = 34 by omega)]; omega)⟩)
      · skip
        refine to_iinc (L' := [(0, .inr (.inr 60)), (1, .inl f), (2, .inl (y1 + 1))]) (dat dk_X12_phraseEnd 12 rfl) rfl (by decide) rfl (to_goto (dat dk_X12_phraseEnd 13 rfl) rfl ?_)
        exact ihn5 (n5 - 1) (by omega) (y1 + 1) (by omega) (show f ≤ (y1 + 1) by omega) (show (y1 + 1) = f ∨ (y1 + 1) ≤ h.2.2 60 44 by omega) (by rw [c4, phE_more (r := hr h) (n := hn h) (p := Int.toNat y1) (by omega) (show h.2.2 88 (Int.toNat y1) ≠ 34 by omega)]; exact congrArg (phE (hr h) (hn h)) (by omega)) (show h.2.2 60 44 - (y1 + 1) ≤ ((n5 - 1 : Nat) : Int) by omega)
  exact lp2_n5 (h.2.2 60 44 - f).toNat f hf (show f ≤ f by omega) (show f = f ∨ f ≤ h.2.2 60 44 by omega) rfl (by omega)
abbrev Q_X12_fieldOf_vx (h : Hp) (f : Int) (g : Int) : Option V → Hp → Nat → Nat → Prop := RI (fun x H => h = H ∧ (x = -1 ∨ (0 ≤ x ∧ x ≤ 7 ∧ FE (x + 1) - FE x ≤ g - f)) ∧ ((x = -1 ∧ fld (hr H) (Int.toNat f) (Int.toNat g) = 8) ∨ (0 ≤ x ∧ x ≤ 7 ∧ (fld (hr H) (Int.toNat f) (Int.toNat g) : Nat) = x)))
set_option maxRecDepth 100000 in
theorem ct_X12_fieldOf_vx (l : Launch) (h : Hp) (hI : Inv h) (f : Int) (hf : I32 f) (g : Int) (hg : I32 g) (g0 : 0 ≤ f ∧ f ≤ g) (g1 : g ≤ h.2.2 60 44) : Ct l D_X12_fieldOf 0 0 [.inr (.inr 60), .inl f, .inl g] h (Q_X12_fieldOf_vx h f g) := by
  refine ct_of pn_X12_fieldOf (Nat.le_of_ble_eq_true rfl) ?_
  show To l E_X12_fieldOf (0, [(0, .inr (.inr 60)), (1, .inl f), (2, .inl g)], [], h, 0, 0) _
  have z44 := hI.atR (a := 60) (j := 44) rfl
  refine to_iconst (dat dk_X12_fieldOf 0 rfl) (to_istore_n (L' := [(0, .inr (.inr 60)), (1, .inl f), (2, .inl g), (3, .inl 0)]) (dat dk_X12_fieldOf 1 rfl) (by decide) rfl ?_)
  have lp2_n4 : ∀ (n4 : Nat) (y1 : Int), (I32 y1) → (0 ≤ y1 ∧ y1 ≤ 8) → (fld (hr h) (Int.toNat f) (Int.toNat g) = fdF (hr h) (Int.toNat f) (Int.toNat g) (Int.toNat (8 - y1)) (Int.toNat y1)) → (8 - y1 ≤ (n4 : Int)) → To l E_X12_fieldOf (2, [(0, .inr (.inr 60)), (1, .inl f), (2, .inl g), (3, .inl y1)], [], h, 0, 0) (Q_X12_fieldOf_vx h f g) := by
    intro n4
    induction n4 using Nat.strongRecOn with
    | _ n4 ihn4 =>
    intro y1 ry1 c2 c3 c5
    refine to_iload_n (dat dk_X12_fieldOf 2 rfl) rfl (to_bipush (dat dk_X12_fieldOf 3 rfl) (by decide) ?_)
    refine to_ige 103 (dat dk_X12_fieldOf 4 rfl) rfl ry1 (by decide) (fun c6 => ?_) (fun c6 => ?_)
    · skip
      refine to_iconst (dat dk_X12_fieldOf 57 rfl) ?_
      exact to_iret rfl (dat dk_X12_fieldOf 58 rfl) (ri_mk (by decide) ⟨rfl, (show (-1 : Int) = -1 ∨ (0 ≤ (-1 : Int) ∧ (-1 : Int) ≤ 7 ∧ FE ((-1 : Int) + 1) - FE (-1 : Int) ≤ g - f) by omega), (Or.inl ⟨by omega, by rw [c3, show Int.toNat (8 - y1) = 0 by omega]; rfl⟩)⟩)
    · skip
      have z7 := FE_c (f := y1) (by omega)
      have zF := FE_len (f := y1) (by omega)
      refine to_gst (C := "MailArchiveModel") (f9 := "FIELD_ENDS") (d9 := "[I") (List.mem_of_getElem? (i := 8) rfl) (tin 7 233 (by decide +kernel) rfl) (dat dk_X12_fieldOf 5 rfl) (to_iload_n (dat dk_X12_fieldOf 6 rfl) rfl (to_iconst (dat dk_X12_fieldOf 7 rfl) (to_iadd (dat dk_X12_fieldOf 8 rfl) ?_)))
      refine to_ialdFE (dat dk_X12_fieldOf 9 rfl) (by omega) ?_
      refine to_gst (C := "MailArchiveModel") (f9 := "FIELD_ENDS") (d9 := "[I") (List.mem_of_getElem? (i := 8) rfl) (tin 7 233 (by decide +kernel) rfl) (dat dk_X12_fieldOf 10 rfl) (to_iload_n (dat dk_X12_fieldOf 11 rfl) rfl ?_)
      refine to_ialdFE (dat dk_X12_fieldOf 12 rfl) (by omega) ?_
      refine to_isub (dat dk_X12_fieldOf 13 rfl) (to_istore (L' := [(0, .inr (.inr 60)), (1, .inl f), (2, .inl g), (3, .inl y1), (4, .inl ((FE (y1 + 1)) - (FE y1)))]) (dat dk_X12_fieldOf 14 rfl) (by decide) rfl ?_)
      have jn36_n12 : ∀ (y10 : Int), (y10 = 0 ∨ y10 = 1) → ((y10 = 0 ∧ g - f < ((FE (y1 + 1)) - (FE y1))) ∨ (y10 = 1 ∧ ((FE (y1 + 1)) - (FE y1)) ≤ g - f)) → To l E_X12_fieldOf (36, [(0, .inr (.inr 60)), (1, .inl f), (2, .inl g), (3, .inl y1), (4, .inl ((FE (y1 + 1)) - (FE y1)))], [.inl y10], h, 0, 0) (Q_X12_fieldOf_vx h f g) := by
        intro y10 ry10 c11
        refine to_istore (L' := [(0, .inr (.inr 60)), (1, .inl f), (2, .inl g), (3, .inl y1), (4, .inl ((FE (y1 + 1)) - (FE y1))), (5, .inl y10)]) (dat dk_X12_fieldOf 23 rfl) (by decide) rfl (to_iconst (dat dk_X12_fieldOf 24 rfl) (to_istore (L' := [(0, .inr (.inr 60)), (1, .inl f), (2, .inl g), (3, .inl y1), (4, .inl ((FE (y1 + 1)) - (FE y1))), (5, .inl y10), (6, .inl 0)]) (dat dk_X12_fieldOf 25 rfl) (by decide) rfl ?_))
        have lp41_n18 : ∀ (n18 : Nat) (y13 : Int) (y14 : Int), (y13 = 0 ∨ y13 = 1) → (I32 y14) → (0 ≤ y14 ∧ y14 ≤ ((FE (y1 + 1)) - (FE y1))) → (y13 = 0 ∨ ((FE (y1 + 1)) - (FE y1)) ≤ g - f) → (FMt h f g y1 y14 y13) → (((FE (y1 + 1)) - (FE y1)) - y14 ≤ (n18 : Int)) → To l E_X12_fieldOf (41, [(0, .inr (.inr 60)), (1, .inl f), (2, .inl g), (3, .inl y1), (4, .inl ((FE (y1 + 1)) - (FE y1))), (5, .inl y13), (6, .inl y14)], [], h, 0, 0) (Q_X12_fieldOf_vx h f g) := by
          intro n18
          induction n18 using Nat.strongRecOn with
          | _ n18 ihn18 =>
          intro y13 y14 ry13 ry14 c15 c16 c17 c19
          refine to_iload (dat dk_X12_fieldOf 26 rfl) rfl (to_iload (dat dk_X12_fieldOf 27 rfl) rfl ?_)
          refine to_ige 90 (dat dk_X12_fieldOf 28 rfl) rfl ry14 (by omega) (fun c20 => ?_) (fun c20 => ?_)
          · skip
            refine to_iload (dat dk_X12_fieldOf 51 rfl) rfl ?_
            refine to_ifeq 97 (dat dk_X12_fieldOf 52 rfl) rfl (by omega) (fun c21 => ?_) (fun c21 => ?_)
            · skip
              refine to_iinc (L' := [(0, .inr (.inr 60)), (1, .inl f), (2, .inl g), (3, .inl (y1 + 1)), (4, .inl ((FE (y1 + 1)) - (FE y1))), (5, .inl y13), (6, .inl y14)]) (dat dk_X12_fieldOf 55 rfl) rfl (by decide) rfl (to_goto (dat dk_X12_fieldOf 56 rfl) rfl ?_)
              refine to_pick [0, 1, 2, 3] rfl ?_
              exact ihn4 (n4 - 1) (by omega) (y1 + 1) (by omega) (show 0 ≤ (y1 + 1) ∧ (y1 + 1) ≤ 8 by omega) (by rw [c3, show Int.toNat (8 - y1) = Int.toNat (8 - (y1 + 1)) + 1 by omega, fd_no (FMt.non c17 (by omega))]; exact congrArg (fdF (hr h) (Int.toNat f) (Int.toNat g) (Int.toNat (8 - (y1 + 1)))) (by omega)) (show 8 - (y1 + 1) ≤ ((n4 - 1 : Nat) : Int) by omega)
            · skip
              refine to_iload_n (dat dk_X12_fieldOf 53 rfl) rfl ?_
              exact to_iret rfl (dat dk_X12_fieldOf 54 rfl) (ri_mk ry1 ⟨rfl, (show y1 = -1 ∨ (0 ≤ y1 ∧ y1 ≤ 7 ∧ FE (y1 + 1) - FE y1 ≤ g - f) by omega), (Or.inr ⟨by omega, by omega, by have ze : fld (hr h) (Int.toNat f) (Int.toNat g) = Int.toNat y1 := (by rw [c3, show Int.toNat (8 - y1) = Int.toNat (8 - (y1 + 1)) + 1 by omega, fd_hit (FMt.hit c17 (by omega) (by omega) (by omega))]); omega⟩)⟩)
          · skip
            refine to_iload (dat dk_X12_fieldOf 29 rfl) rfl ?_
            refine to_ifeq 90 (dat dk_X12_fieldOf 30 rfl) rfl (by omega) (fun c22 => ?_) (fun c22 => ?_)
            · skip
              refine to_iload (dat dk_X12_fieldOf 51 rfl) rfl ?_
              refine to_ifeq 97 (dat dk_X12_fieldOf 52 rfl) rfl (by omega) (fun c23 => ?_) (fun c23 => ?_)
              · skip
                refine to_iinc (L' := [(0, .inr (.inr 60)), (1, .inl f), (2, .inl g), (3, .inl (y1 + 1)), (4, .inl ((FE (y1 + 1)) - (FE y1))), (5, .inl y13), (6, .inl y14)]) (dat dk_X12_fieldOf 55 rfl) rfl (by decide) rfl (to_goto (dat dk_X12_fieldOf 56 rfl) rfl ?_)
                refine to_pick [0, 1, 2, 3] rfl ?_
                exact ihn4 (n4 - 1) (by omega) (y1 + 1) (by omega) (show 0 ≤ (y1 + 1) ∧ (y1 + 1) ≤ 8 by omega) (by rw [c3, show Int.toNat (8 - y1) = Int.toNat (8 - (y1 + 1)) + 1 by omega, fd_no (FMt.non c17 (by omega))]; exact congrArg (fdF (hr h) (Int.toNat f) (Int.toNat g) (Int.toNat (8 - (y1 + 1)))) (by omega)) (show 8 - (y1 + 1) ≤ ((n4 - 1 : Nat) : Int) by omega)
              · skip
                refine to_iload_n (dat dk_X12_fieldOf 53 rfl) rfl ?_
                exact to_iret rfl (dat dk_X12_fieldOf 54 rfl) (ri_mk ry1 ⟨rfl, (show y1 = -1 ∨ (0 ≤ y1 ∧ y1 ≤ 7 ∧ FE (y1 + 1) - FE y1 ≤ g - f) by omega), (Or.inr ⟨by omega, by omega, by have ze : fld (hr h) (Int.toNat f) (Int.toNat g) = Int.toNat y1 := (by rw [c3, show Int.toNat (8 - y1) = Int.toNat (8 - (y1 + 1)) + 1 by omega, fd_hit (FMt.hit c17 (by omega) (by omega) (by omega))]); omega⟩)⟩)
            · skip
              have jn82_n27 : ∀ (y24 : Int), (y24 = 0 ∨ y24 = 1) → (((FE (y1 + 1)) - (FE y1)) ≤ g - f) → (FMt h f g y1 (y14 + 1) y24) → To l E_X12_fieldOf (82, [(0, .inr (.inr 60)), (1, .inl f), (2, .inl g), (3, .inl y1), (4, .inl ((FE (y1 + 1)) - (FE y1))), (5, .inl y13), (6, .inl y14)], [.inl y24], h, 0, 0) (Q_X12_fieldOf_vx h f g) := by
                intro y24 ry24 c25 c26
                refine to_istore (L' := [(0, .inr (.inr 60)), (1, .inl f), (2, .inl g), (3, .inl y1), (4, .inl ((FE (y1 + 1)) - (FE y1))), (5, .inl y24), (6, .inl y14)]) (dat dk_X12_fieldOf 48 rfl) (by decide) rfl (to_iinc (L' := [(0, .inr (.inr 60)), (1, .inl f), (2, .inl g), (3, .inl y1), (4, .inl ((FE (y1 + 1)) - (FE y1))), (5, .inl y24), (6, .inl (y14 + 1))]) (dat dk_X12_fieldOf 49 rfl) rfl (by decide) rfl (to_goto (dat dk_X12_fieldOf 50 rfl) rfl ?_))
                exact ihn18 (n18 - 1) (by omega) y24 (y14 + 1) (by omega) (by omega) (show 0 ≤ (y14 + 1) ∧ (y14 + 1) ≤ ((FE (y1 + 1)) - (FE y1)) by omega) (show y24 = 0 ∨ ((FE (y1 + 1)) - (FE y1)) ≤ g - f by omega) c26 (show ((FE (y1 + 1)) - (FE y1)) - (y14 + 1) ≤ ((n18 - 1 : Nat) : Int) by omega)
              refine to_aload_n (dat dk_X12_fieldOf 31 rfl) rfl (to_getR 88 g_c13_100 (dat dk_X12_fieldOf 32 rfl) (hI.atS rfl) (hI.atE rfl) (to_iload_n (dat dk_X12_fieldOf 33 rfl) rfl (to_iload (dat dk_X12_fieldOf 34 rfl) rfl (to_iadd (dat dk_X12_fieldOf 35 rfl) ?_))))
              obtain ⟨x28, ex28⟩ : ∃ y : Int, h.2.2 88 (Int.toNat (f + y14)) = y := ⟨_, rfl⟩
              have rx28 := hI.atR (a := 88) (j := Int.toNat (f + y14)) rfl
              rw [ex28] at rx28
              refine to_baldv (q := 1) ex28 (dat dk_X12_fieldOf 36 rfl) (by decide) (hI.atS rfl) rfl (by decide) (by omega) (to_gst (C := "MailArchiveModel") (f9 := "FIELDS") (d9 := "[I") (List.mem_of_getElem? (i := 7) rfl) (tin 7 235 (by decide +kernel) rfl) (dat dk_X12_fieldOf 37 rfl) (to_gst (C := "MailArchiveModel") (f9 := "FIELD_ENDS") (d9 := "[I") (List.mem_of_getElem? (i := 8) rfl) (tin 7 233 (by decide +kernel) rfl) (dat dk_X12_fieldOf 38 rfl) (to_iload_n (dat dk_X12_fieldOf 39 rfl) rfl ?_)))
              refine to_ialdFE (dat dk_X12_fieldOf 40 rfl) (by omega) ?_
              refine to_iload (dat dk_X12_fieldOf 41 rfl) rfl (to_iadd (dat dk_X12_fieldOf 42 rfl) ?_)
              obtain ⟨x30, ex30⟩ : ∃ y : Int, (icod 1000206).getD (Int.toNat ((FE y1) + y14)) 0 = y := ⟨_, rfl⟩
              have rx30 := icod_in (List.mem_of_getElem? (i := 5) rfl) (Int.toNat ((FE y1) + y14))
              rw [ex30] at rx30
              refine to_saIntx (List.mem_of_getElem? (i := 5) rfl) ex30 (dat dk_X12_fieldOf 43 rfl) (by omega) ?_
              refine to_ine 81 (dat dk_X12_fieldOf 44 rfl) rfl (by omega) (by omega) (fun c31 => ?_) (fun c31 => ?_)
              · skip
                refine to_iconst (dat dk_X12_fieldOf 47 rfl) ?_
                exact jn82_n27 0 (by decide) (show ((FE (y1 + 1)) - (FE y1)) ≤ g - f by omega) (FMt.no c17 (by omega) (by omega) (by omega) (by omega) (by omega) ex28 ex30 (by omega))
              · skip
                refine to_iconst (dat dk_X12_fieldOf 45 rfl) (to_goto (dat dk_X12_fieldOf 46 rfl) rfl ?_)
                exact jn82_n27 1 (by decide) (show ((FE (y1 + 1)) - (FE y1)) ≤ g - f by omega) (FMt.yes c17 (by omega) (by omega) (by omega) (by omega) (by omega) ex28 ex30 (by omega))
        exact lp41_n18 (((FE (y1 + 1)) - (FE y1)) - (0 : Int)).toNat y10 0 (by omega) (by decide) (show 0 ≤ (0 : Int) ∧ (0 : Int) ≤ ((FE (y1 + 1)) - (FE y1)) by omega) (show y10 = 0 ∨ ((FE (y1 + 1)) - (FE y1)) ≤ g - f by omega) (FMt.s (by omega) (by omega) (by omega)) (by omega)
      refine to_iload_n (dat dk_X12_fieldOf 15 rfl) rfl (to_iload_n (dat dk_X12_fieldOf 16 rfl) rfl (to_isub (dat dk_X12_fieldOf 17 rfl) (to_iload (dat dk_X12_fieldOf 18 rfl) rfl ?_)))
      refine to_ilt 35 (dat dk_X12_fieldOf 19 rfl) rfl (by omega) (by omega) (fun c32 => ?_) (fun c32 => ?_)
      · skip
        refine to_iconst (dat dk_X12_fieldOf 22 rfl) ?_
        exact jn36_n12 0 (by decide) (show ((0 : Int) = 0 ∧ g - f < ((FE (y1 + 1)) - (FE y1))) ∨ ((0 : Int) = 1 ∧ ((FE (y1 + 1)) - (FE y1)) ≤ g - f) by omega)
      · skip
        refine to_iconst (dat dk_X12_fieldOf 20 rfl) (to_goto (dat dk_X12_fieldOf 21 rfl) rfl ?_)
        exact jn36_n12 1 (by decide) (show ((1 : Int) = 0 ∧ g - f < ((FE (y1 + 1)) - (FE y1))) ∨ ((1 : Int) = 1 ∧ ((FE (y1 + 1)) - (FE y1)) ≤ g - f) by omega)
  exact lp2_n4 (8 - (0 : Int)).toNat 0 (by decide) (show 0 ≤ (0 : Int) ∧ (0 : Int) ≤ 8 by omega) (by rw [fld_eq]; rfl) (by omega)
abbrev Q_X12_isNumber_vx (h : Hp) (f : Int) (g : Int) : Option V → Hp → Nat → Nat → Prop := RI (fun x H => h = H ∧ (x = 0 ∨ x = 1) ∧ (x = bi (numOK (hr H) (Int.toNat f) (Int.toNat g))))
set_option maxRecDepth 100000 in
theorem ct_X12_isNumber_vx (l : Launch) (h : Hp) (hI : Inv h) (f : Int) (hf : I32 f) (g : Int) (hg : I32 g) (g0 : 0 ≤ f ∧ f ≤ 1200) (g1 : 0 ≤ g ∧ g ≤ 1200) : Ct l D_X12_isNumber 1 20 [.inr (.inr 60), .inl f, .inl g] h (Q_X12_isNumber_vx h f g) := by
  refine ct_of pn_X12_isNumber (Nat.le_of_ble_eq_true rfl) ?_
  show To l E_X12_isNumber (0, [(0, .inr (.inr 60)), (1, .inl f), (2, .inl g)], [], h, 0, 0) _
  refine to_iload_n (dat dk_X12_isNumber 0 rfl) rfl (to_iload_n (dat dk_X12_isNumber 1 rfl) rfl (to_isub (dat dk_X12_isNumber 2 rfl) (to_iconst (dat dk_X12_isNumber 3 rfl) ?_)))
  refine to_ilt 15 (dat dk_X12_isNumber 4 rfl) rfl (by omega) (by decide) (fun c1 => ?_) (fun c1 => ?_)
  · skip
    refine to_iconst (dat dk_X12_isNumber 10 rfl) ?_
    exact to_zret rfl (dat dk_X12_isNumber 11 rfl) (by decide) (ri_mk (by decide) ⟨rfl, (by decide), (by rw [bi_0 (numOK_no1 (by omega))])⟩)
  · skip
    refine to_iload_n (dat dk_X12_isNumber 5 rfl) rfl (to_iload_n (dat dk_X12_isNumber 6 rfl) rfl (to_isub (dat dk_X12_isNumber 7 rfl) (to_bipush (dat dk_X12_isNumber 8 rfl) (by decide) ?_)))
    refine to_ile 17 (dat dk_X12_isNumber 9 rfl) rfl (by omega) (by decide) (fun c2 => ?_) (fun c2 => ?_)
    · skip
      refine to_iload_n (dat dk_X12_isNumber 12 rfl) rfl (to_istore_n (L' := [(0, .inr (.inr 60)), (1, .inl f), (2, .inl g), (3, .inl f)]) (dat dk_X12_isNumber 13 rfl) (by decide) rfl ?_)
      have lp19_n6 : ∀ (n6 : Nat) (y3 : Int), (I32 y3) → (f ≤ y3 ∧ y3 ≤ g) → (∀ i : Nat, (i : Int) < y3 - f → isDg (hr h (Int.toNat f + i)) = true) → (g - y3 ≤ (n6 : Int)) → To l E_X12_isNumber (19, [(0, .inr (.inr 60)), (1, .inl f), (2, .inl g), (3, .inl y3)], [], h, 0, 0) (Q_X12_isNumber_vx h f g) := by
        intro n6
        induction n6 using Nat.strongRecOn with
        | _ n6 ihn6 =>
        intro y3 ry3 c4 c5 c7
        refine to_iload_n (dat dk_X12_isNumber 14 rfl) rfl (to_iload_n (dat dk_X12_isNumber 15 rfl) rfl ?_)
        refine to_ige 44 (dat dk_X12_isNumber 16 rfl) rfl ry3 hg (fun c8 => ?_) (fun c8 => ?_)
        · skip
          refine to_iconst (dat dk_X12_isNumber 27 rfl) ?_
          exact to_zret rfl (dat dk_X12_isNumber 28 rfl) (by decide) (ri_mk (by decide) ⟨rfl, (by decide), (by rw [bi_1 (numOK_of (by omega) (by omega) (fun i hi => c5 i (by omega)))])⟩)
        · skip
          refine to_aload_n (dat dk_X12_isNumber 17 rfl) rfl (to_getR 88 g_c13_100 (dat dk_X12_isNumber 18 rfl) (hI.atS rfl) (hI.atE rfl) (to_iload_n (dat dk_X12_isNumber 19 rfl) rfl ?_))
          obtain ⟨x9, ex9⟩ : ∃ y : Int, h.2.2 88 (Int.toNat y3) = y := ⟨_, rfl⟩
          have rx9 := hI.atR (a := 88) (j := Int.toNat y3) rfl
          rw [ex9] at rx9
          refine to_baldv (q := 1) ex9 (dat dk_X12_isNumber 20 rfl) (by decide) (hI.atS rfl) rfl (by decide) (by omega) ?_
          refine to_cI ca_c13_161 (dat dk_X12_isNumber 21 rfl) (ct_X12_isDigit_vx l h hI x9 (by omega)) rfl trivial rfl (fun x10 h11 rx10 p12 => ?_)
          obtain ⟨rfl, zx10, p12_0⟩ := p12
          refine to_ifne 38 (dat dk_X12_isNumber 22 rfl) rfl rx10 (fun c13 => ?_) (fun c13 => ?_)
          · skip
            refine to_iinc (L' := [(0, .inr (.inr 60)), (1, .inl f), (2, .inl g), (3, .inl (y3 + 1))]) (dat dk_X12_isNumber 25 rfl) rfl (by decide) rfl (to_goto (dat dk_X12_isNumber 26 rfl) rfl ?_)
            exact ihn6 (n6 - 1) (by omega) (y3 + 1) (by omega) (show f ≤ (y3 + 1) ∧ (y3 + 1) ≤ g by omega) (fun i hi => if ci : (i : Int) = y3 - f then (by have z1 : Int.toNat f + i = Int.toNat y3 := (by omega); rw [z1]; exact dg_at (by omega)) else c5 i (by omega)) (show g - (y3 + 1) ≤ ((n6 - 1 : Nat) : Int) by omega)
          · skip
            refine to_iconst (dat dk_X12_isNumber 23 rfl) ?_
            exact to_zret rfl (dat dk_X12_isNumber 24 rfl) (by decide) (ri_mk (by decide) ⟨rfl, (by decide), (by rw [bi_0 (numOK_no2 (i := Int.toNat (y3 - f)) (by omega) (by rw [show Int.toNat f + Int.toNat (y3 - f) = Int.toNat y3 by omega]; exact dg_no (by omega)))])⟩)
      exact lp19_n6 (g - f).toNat f hf (show f ≤ f ∧ f ≤ g by omega) (fun i hi => absurd hi (by omega)) (by omega)
    · skip
      refine to_iconst (dat dk_X12_isNumber 10 rfl) ?_
      exact to_zret rfl (dat dk_X12_isNumber 11 rfl) (by decide) (ri_mk (by decide) ⟨rfl, (by decide), (by rw [bi_0 (numOK_no1 (by omega))])⟩)
abbrev Q_X12_isLeap_vx (h : Hp) (y : Int) : Option V → Hp → Nat → Nat → Prop := RI (fun x H => h = H ∧ (x = 0 ∨ x = 1) ∧ ((x = 1 ∧ y % 4 = 0 ∧ (y % 100 ≠ 0 ∨ y % 400 = 0)) ∨ (x = 0 ∧ (y % 4 ≠ 0 ∨ (y % 100 = 0 ∧ y % 400 ≠ 0)))))
set_option maxRecDepth 100000 in
theorem ct_X12_isLeap_vx (l : Launch) (h : Hp) (hI : Inv h) (y : Int) (hy : I32 y) (g0 : 0 ≤ y ∧ y ≤ 9999) : Ct l D_X12_isLeap 0 0 [.inl y] h (Q_X12_isLeap_vx h y) := by
  refine ct_of pn_X12_isLeap (Nat.le_of_ble_eq_true rfl) ?_
  show To l E_X12_isLeap (0, [(0, .inl y)], [], h, 0, 0) _
  refine to_iload_n (dat dk_X12_isLeap 0 rfl) rfl (to_iconst (dat dk_X12_isLeap 1 rfl) (to_iremx (by omega) (by decide) (dat dk_X12_isLeap 2 rfl) ?_))
  refine to_ifne 25 (dat dk_X12_isLeap 3 rfl) rfl (by omega) (fun c1 => ?_) (fun c1 => ?_)
  · skip
    refine to_iconst (dat dk_X12_isLeap 14 rfl) ?_
    exact to_zret rfl (dat dk_X12_isLeap 15 rfl) (by decide) (ri_mk (by decide) ⟨rfl, (by decide), (show ((0 : Int) = 1 ∧ y % 4 = 0 ∧ (y % 100 ≠ 0 ∨ y % 400 = 0)) ∨ ((0 : Int) = 0 ∧ (y % 4 ≠ 0 ∨ (y % 100 = 0 ∧ y % 400 ≠ 0))) by omega)⟩)
  · skip
    refine to_iload_n (dat dk_X12_isLeap 4 rfl) rfl (to_bipush (dat dk_X12_isLeap 5 rfl) (by decide) (to_iremx (by omega) (by decide) (dat dk_X12_isLeap 6 rfl) ?_))
    refine to_ifne 21 (dat dk_X12_isLeap 7 rfl) rfl (by omega) (fun c2 => ?_) (fun c2 => ?_)
    · skip
      refine to_iconst (dat dk_X12_isLeap 12 rfl) (to_goto (dat dk_X12_isLeap 13 rfl) rfl ?_)
      exact to_zret rfl (dat dk_X12_isLeap 15 rfl) (by decide) (ri_mk (by decide) ⟨rfl, (by decide), (show ((1 : Int) = 1 ∧ y % 4 = 0 ∧ (y % 100 ≠ 0 ∨ y % 400 = 0)) ∨ ((1 : Int) = 0 ∧ (y % 4 ≠ 0 ∨ (y % 100 = 0 ∧ y % 400 ≠ 0))) by omega)⟩)
    · skip
      refine to_iload_n (dat dk_X12_isLeap 8 rfl) rfl (to_sipush (dat dk_X12_isLeap 9 rfl) (by decide) (to_iremx (by omega) (by decide) (dat dk_X12_isLeap 10 rfl) ?_))
      refine to_ifne 25 (dat dk_X12_isLeap 11 rfl) rfl (by omega) (fun c3 => ?_) (fun c3 => ?_)
      · skip
        refine to_iconst (dat dk_X12_isLeap 14 rfl) ?_
        exact to_zret rfl (dat dk_X12_isLeap 15 rfl) (by decide) (ri_mk (by decide) ⟨rfl, (by decide), (show ((0 : Int) = 1 ∧ y % 4 = 0 ∧ (y % 100 ≠ 0 ∨ y % 400 = 0)) ∨ ((0 : Int) = 0 ∧ (y % 4 ≠ 0 ∨ (y % 100 = 0 ∧ y % 400 ≠ 0))) by omega)⟩)
      · skip
        refine to_iconst (dat dk_X12_isLeap 12 rfl) (to_goto (dat dk_X12_isLeap 13 rfl) rfl ?_)
        exact to_zret rfl (dat dk_X12_isLeap 15 rfl) (by decide) (ri_mk (by decide) ⟨rfl, (by decide), (show ((1 : Int) = 1 ∧ y % 4 = 0 ∧ (y % 100 ≠ 0 ∨ y % 400 = 0)) ∨ ((1 : Int) = 0 ∧ (y % 4 ≠ 0 ∨ (y % 100 = 0 ∧ y % 400 ≠ 0))) by omega)⟩)
abbrev Q_X12_monthDays_vx (h : Hp) (y : Int) (m : Int) : Option V → Hp → Nat → Nat → Prop := RI (fun x H => h = H ∧ (x = mD y m) ∧ (28 ≤ x ∧ x ≤ 31))
set_option maxRecDepth 100000 in
theorem ct_X12_monthDays_vx (l : Launch) (h : Hp) (hI : Inv h) (y : Int) (hy : I32 y) (m : Int) (hm : I32 m) (g0 : 0 ≤ y ∧ y ≤ 9999) : Ct l D_X12_monthDays 1 20 [.inl y, .inl m] h (Q_X12_monthDays_vx h y m) := by
  refine ct_of pn_X12_monthDays (Nat.le_of_ble_eq_true rfl) ?_
  show To l E_X12_monthDays (0, [(0, .inl y), (1, .inl m)], [], h, 0, 0) _
  refine to_iload_n (dat dk_X12_monthDays 0 rfl) rfl (to_iconst (dat dk_X12_monthDays 1 rfl) ?_)
  refine to_ine 22 (dat dk_X12_monthDays 2 rfl) rfl hm (by decide) (fun c1 => ?_) (fun c1 => ?_)
  · skip
    refine to_iload_n (dat dk_X12_monthDays 10 rfl) rfl (to_iconst (dat dk_X12_monthDays 11 rfl) ?_)
    refine to_ieq 45 (dat dk_X12_monthDays 12 rfl) rfl hm (by decide) (fun c2 => ?_) (fun c2 => ?_)
    · skip
      refine to_bipush (dat dk_X12_monthDays 22 rfl) (by decide) (to_goto (dat dk_X12_monthDays 23 rfl) rfl ?_)
      exact to_iret rfl (dat dk_X12_monthDays 25 rfl) (ri_mk (by decide) ⟨rfl, (by unfold mD; (repeat' split) <;> omega), (show 28 ≤ (30 : Int) ∧ (30 : Int) ≤ 31 by omega)⟩)
    · skip
      refine to_iload_n (dat dk_X12_monthDays 13 rfl) rfl (to_bipush (dat dk_X12_monthDays 14 rfl) (by decide) ?_)
      refine to_ieq 45 (dat dk_X12_monthDays 15 rfl) rfl hm (by decide) (fun c3 => ?_) (fun c3 => ?_)
      · skip
        refine to_bipush (dat dk_X12_monthDays 22 rfl) (by decide) (to_goto (dat dk_X12_monthDays 23 rfl) rfl ?_)
        exact to_iret rfl (dat dk_X12_monthDays 25 rfl) (ri_mk (by decide) ⟨rfl, (by unfold mD; (repeat' split) <;> omega), (show 28 ≤ (30 : Int) ∧ (30 : Int) ≤ 31 by omega)⟩)
      · skip
        refine to_iload_n (dat dk_X12_monthDays 16 rfl) rfl (to_bipush (dat dk_X12_monthDays 17 rfl) (by decide) ?_)
        refine to_ieq 45 (dat dk_X12_monthDays 18 rfl) rfl hm (by decide) (fun c4 => ?_) (fun c4 => ?_)
        · skip
          refine to_bipush (dat dk_X12_monthDays 22 rfl) (by decide) (to_goto (dat dk_X12_monthDays 23 rfl) rfl ?_)
          exact to_iret rfl (dat dk_X12_monthDays 25 rfl) (ri_mk (by decide) ⟨rfl, (by unfold mD; (repeat' split) <;> omega), (show 28 ≤ (30 : Int) ∧ (30 : Int) ≤ 31 by omega)⟩)
        · skip
          refine to_iload_n (dat dk_X12_monthDays 19 rfl) rfl (to_bipush (dat dk_X12_monthDays 20 rfl) (by decide) ?_)
          refine to_ine 50 (dat dk_X12_monthDays 21 rfl) rfl hm (by decide) (fun c5 => ?_) (fun c5 => ?_)
          · skip
            refine to_bipush (dat dk_X12_monthDays 24 rfl) (by decide) ?_
            exact to_iret rfl (dat dk_X12_monthDays 25 rfl) (ri_mk (by decide) ⟨rfl, (by unfold mD; (repeat' split) <;> omega), (show 28 ≤ (31 : Int) ∧ (31 : Int) ≤ 31 by omega)⟩)
          · skip
            refine to_bipush (dat dk_X12_monthDays 22 rfl) (by decide) (to_goto (dat dk_X12_monthDays 23 rfl) rfl ?_)
            exact to_iret rfl (dat dk_X12_monthDays 25 rfl) (ri_mk (by decide) ⟨rfl, (by unfold mD; (repeat' split) <;> omega), (show 28 ≤ (30 : Int) ∧ (30 : Int) ≤ 31 by omega)⟩)
  · skip
    refine to_iload_n (dat dk_X12_monthDays 3 rfl) rfl ?_
    refine to_cI ca_c13_300 (dat dk_X12_monthDays 4 rfl) (ct_X12_isLeap_vx l h hI y hy (show 0 ≤ y ∧ y ≤ 9999 by omega)) rfl trivial rfl (fun x6 h7 rx6 p8 => ?_)
    obtain ⟨rfl, zx6, p8_0⟩ := p8
    refine to_ifeq 17 (dat dk_X12_monthDays 5 rfl) rfl rx6 (fun c9 => ?_) (fun c9 => ?_)
    · skip
      refine to_bipush (dat dk_X12_monthDays 8 rfl) (by decide) (to_goto (dat dk_X12_monthDays 9 rfl) rfl ?_)
      exact to_iret rfl (dat dk_X12_monthDays 25 rfl) (ri_mk (by decide) ⟨rfl, (by unfold mD; (repeat' split) <;> omega), (show 28 ≤ (28 : Int) ∧ (28 : Int) ≤ 31 by omega)⟩)
    · skip
      refine to_bipush (dat dk_X12_monthDays 6 rfl) (by decide) (to_goto (dat dk_X12_monthDays 7 rfl) rfl ?_)
      exact to_iret rfl (dat dk_X12_monthDays 25 rfl) (ri_mk (by decide) ⟨rfl, (by unfold mD; (repeat' split) <;> omega), (show 28 ≤ (29 : Int) ∧ (29 : Int) ≤ 31 by omega)⟩)
abbrev Q_X12_days_vx (h : Hp) (y : Int) (m : Int) (d : Int) : Option V → Hp → Nat → Nat → Prop := RLo (fun x H => h = H ∧ (0 ≤ x ∧ x ≤ 4000000))
set_option maxRecDepth 100000 in
theorem ct_X12_days_vx (l : Launch) (h : Hp) (hI : Inv h) (y : Int) (hy : I32 y) (m : Int) (hm : I32 m) (d : Int) (hd : I32 d) (g0 : 0 ≤ y ∧ y ≤ 9999) (g1 : 1 ≤ m ∧ m ≤ 12) (g2 : 1 ≤ d ∧ d ≤ 31) : Ct l D_X12_days 2 41 [.inl y, .inl m, .inl d] h (Q_X12_days_vx h y m d) := by
  refine ct_of pn_X12_days (Nat.le_of_ble_eq_true rfl) ?_
  show To l E_X12_days (0, [(0, .inl y), (1, .inl m), (2, .inl d)], [], h, 0, 0) _
  refine to_ldc2 (v := 365) (x := 365) (tin 8 19 (by decide +kernel) rfl) (by decide +kernel) (dat dk_X12_days 0 rfl) (to_iload_n (dat dk_X12_days 1 rfl) rfl (to_i2ly hy (dat dk_X12_days 2 rfl) (to_lmulx (dat dk_X12_days 3 rfl) (to_iload_n (dat dk_X12_days 4 rfl) rfl (to_iconst (dat dk_X12_days 5 rfl) (to_iadd (dat dk_X12_days 6 rfl) (to_iconst (dat dk_X12_days 7 rfl) (to_idivx (by omega) (by decide) (dat dk_X12_days 8 rfl) (to_i2ly (by omega) (dat dk_X12_days 9 rfl) (to_laddx (dat dk_X12_days 10 rfl) (to_iload_n (dat dk_X12_days 11 rfl) rfl (to_bipush (dat dk_X12_days 12 rfl) (by decide) (to_iadd (dat dk_X12_days 13 rfl) (to_bipush (dat dk_X12_days 14 rfl) (by decide) (to_idivx (by omega) (by decide) (dat dk_X12_days 15 rfl) (to_i2ly (by omega) (dat dk_X12_days 16 rfl) (to_lsubx (dat dk_X12_days 17 rfl) (to_iload_n (dat dk_X12_days 18 rfl) rfl (to_sipush (dat dk_X12_days 19 rfl) (by decide) (to_iadd (dat dk_X12_days 20 rfl) (to_sipush (dat dk_X12_days 21 rfl) (by decide) (to_idivx (by omega) (by decide) (dat dk_X12_days 22 rfl) (to_i2ly (by omega) (dat dk_X12_days 23 rfl) (to_laddx (dat dk_X12_days 24 rfl) (to_lstore_n (L' := [(3, .inr (.inl ((((365 * y) + ((y + 3) / 4)) - ((y + 99) / 100)) + ((y + 399) / 400)))), (0, .inl y), (1, .inl m), (2, .inl d)]) (dat dk_X12_days 25 rfl) (by decide) rfl (to_iconst (dat dk_X12_days 26 rfl) (to_istore (L' := [(3, .inr (.inl ((((365 * y) + ((y + 3) / 4)) - ((y + 99) / 100)) + ((y + 399) / 400)))), (0, .inl y), (1, .inl m), (2, .inl d), (5, .inl 1)]) (dat dk_X12_days 27 rfl) (by decide) rfl ?_)))))))))))))))))))))))))))
  have lp37_n5 : ∀ (n5 : Nat) (w1 : Int) (y2 : Int), (I32 y2) → (1 ≤ y2 ∧ y2 ≤ m) → (0 ≤ w1 ∧ w1 ≤ 3660000 + 31 * y2) → (m - y2 ≤ (n5 : Int)) → To l E_X12_days (37, [(3, .inr (.inl w1)), (0, .inl y), (1, .inl m), (2, .inl d), (5, .inl y2)], [], h, 0, 0) (Q_X12_days_vx h y m d) := by
    intro n5
    induction n5 using Nat.strongRecOn with
    | _ n5 ihn5 =>
    intro w1 y2 ry2 c3 c4 c6
    refine to_iload (dat dk_X12_days 28 rfl) rfl (to_iload_n (dat dk_X12_days 29 rfl) rfl ?_)
    refine to_ige 59 (dat dk_X12_days 30 rfl) rfl ry2 hm (fun c7 => ?_) (fun c7 => ?_)
    · skip
      refine to_lload_n (dat dk_X12_days 40 rfl) rfl (to_iload_n (dat dk_X12_days 41 rfl) rfl (to_i2ly hd (dat dk_X12_days 42 rfl) (to_laddx (dat dk_X12_days 43 rfl) (to_lconst (v := 1) (dat dk_X12_days 44 rfl) rfl (to_lsubx (dat dk_X12_days 45 rfl) ?_)))))
      exact to_lret rfl (dat dk_X12_days 46 rfl) (rl_mk ⟨rfl, (show 0 ≤ ((w1 + d) - 1) ∧ ((w1 + d) - 1) ≤ 4000000 by omega)⟩)
    · skip
      refine to_lload_n (dat dk_X12_days 31 rfl) rfl (to_iload_n (dat dk_X12_days 32 rfl) rfl (to_iload (dat dk_X12_days 33 rfl) rfl ?_))
      refine to_cI ca_c13_305 (dat dk_X12_days 34 rfl) (ct_X12_monthDays_vx l h hI y hy y2 ry2 (show 0 ≤ y ∧ y ≤ 9999 by omega)) rfl trivial rfl (fun x8 h9 rx8 p10 => ?_)
      obtain ⟨rfl, p10_0, p10_1⟩ := p10
      refine to_i2ly rx8 (dat dk_X12_days 35 rfl) (to_laddx (dat dk_X12_days 36 rfl) (to_lstore_n (L' := [(3, .inr (.inl (w1 + x8))), (0, .inl y), (1, .inl m), (2, .inl d), (5, .inl y2)]) (dat dk_X12_days 37 rfl) (by decide) rfl (to_iinc (L' := [(3, .inr (.inl (w1 + x8))), (0, .inl y), (1, .inl m), (2, .inl d), (5, .inl (y2 + 1))]) (dat dk_X12_days 38 rfl) rfl (by decide) rfl (to_goto (dat dk_X12_days 39 rfl) rfl ?_))))
      exact ihn5 (n5 - 1) (by omega) (w1 + x8) (y2 + 1) (by omega) (show 1 ≤ (y2 + 1) ∧ (y2 + 1) ≤ m by omega) (show 0 ≤ (w1 + x8) ∧ (w1 + x8) ≤ 3660000 + 31 * (y2 + 1) by omega) (show m - (y2 + 1) ≤ ((n5 - 1 : Nat) : Int) by omega)
  exact lp37_n5 (m - (1 : Int)).toNat ((((365 * y) + ((y + 3) / 4)) - ((y + 99) / 100)) + ((y + 399) / 400)) 1 (by decide) (show 1 ≤ (1 : Int) ∧ (1 : Int) ≤ m by omega) (show 0 ≤ ((((365 * y) + ((y + 3) / 4)) - ((y + 99) / 100)) + ((y + 399) / 400)) ∧ ((((365 * y) + ((y + 3) / 4)) - ((y + 99) / 100)) + ((y + 399) / 400)) ≤ 3660000 + 31 * (1 : Int) by omega) (by omega)
abbrev Q_X12_day_vx (h : Hp) (f : Int) : Option V → Hp → Nat → Nat → Prop := RLo (fun x H => h = H ∧ ((x = -1 ∧ bi (dayOK (hr H) (Int.toNat f)) = 0) ∨ (0 ≤ x ∧ x ≤ 4000000 ∧ bi (dayOK (hr H) (Int.toNat f)) = 1)))
set_option maxRecDepth 100000 in
theorem ct_X12_day_vx (l : Launch) (h : Hp) (hI : Inv h) (f : Int) (hf : I32 f) (g0 : 0 ≤ f ∧ f + 8 ≤ 1200) : Ct l D_X12_day 3 66 [.inr (.inr 60), .inl f] h (Q_X12_day_vx h f) := by
  refine ct_of pn_X12_day (Nat.le_of_ble_eq_true rfl) ?_
  show To l E_X12_day (0, [(0, .inr (.inr 60)), (1, .inl f)], [], h, 0, 0) _
  have zh := hn_is hI
  refine to_iconst (dat dk_X12_day 0 rfl) (to_istore_n (L' := [(0, .inr (.inr 60)), (1, .inl f), (2, .inl 0)]) (dat dk_X12_day 1 rfl) (by decide) rfl (to_iload_n (dat dk_X12_day 2 rfl) rfl (to_istore_n (L' := [(0, .inr (.inr 60)), (1, .inl f), (2, .inl 0), (3, .inl f)]) (dat dk_X12_day 3 rfl) (by decide) rfl ?_)))
  have lp4_n7 : ∀ (n7 : Nat) (y1 : Int) (y2 : Int), (I32 y1) → (I32 y2) → (f ≤ y2 ∧ y2 ≤ f + 8) → (∀ i : Nat, i < Int.toNat (y2 - f) → isDg (hr h (Int.toNat f + i)) = true) → (y1 = nv (hr h) (Int.toNat f) (Int.toNat (y2 - f))) → (0 ≤ y1 ∧ y1 ≤ 999999999) → (f + 8 - y2 ≤ (n7 : Int)) → To l E_X12_day (4, [(0, .inr (.inr 60)), (1, .inl f), (2, .inl y1), (3, .inl y2)], [], h, 0, 0) (Q_X12_day_vx h f) := by
    intro n7
    induction n7 using Nat.strongRecOn with
    | _ n7 ihn7 =>
    intro y1 y2 ry1 ry2 c3 c4 c5 c6 c8
    refine to_iload_n (dat dk_X12_day 4 rfl) rfl (to_iload_n (dat dk_X12_day 5 rfl) rfl (to_bipush (dat dk_X12_day 6 rfl) (by decide) (to_iadd (dat dk_X12_day 7 rfl) ?_)))
    refine to_ige 49 (dat dk_X12_day 8 rfl) rfl ry2 (by omega) (fun c9 => ?_) (fun c9 => ?_)
    · skip
      have zn := day_n (r := hr h) (a := Int.toNat f) (v := y1) (fun i hi => c4 i (by omega)) (by rw [c5, show Int.toNat (y2 - f) = 8 by omega])
      refine to_iload_n (dat dk_X12_day 30 rfl) rfl (to_sipush (dat dk_X12_day 31 rfl) (by decide) (to_idivx (by omega) (by decide) (dat dk_X12_day 32 rfl) (to_istore_n (L' := [(0, .inr (.inr 60)), (1, .inl f), (2, .inl y1), (3, .inl (y1 / 10000))]) (dat dk_X12_day 33 rfl) (by decide) rfl (to_iload_n (dat dk_X12_day 34 rfl) rfl (to_bipush (dat dk_X12_day 35 rfl) (by decide) (to_idivx (by omega) (by decide) (dat dk_X12_day 36 rfl) (to_bipush (dat dk_X12_day 37 rfl) (by decide) (to_iremx (by omega) (by decide) (dat dk_X12_day 38 rfl) (to_istore (L' := [(0, .inr (.inr 60)), (1, .inl f), (2, .inl y1), (3, .inl (y1 / 10000)), (4, .inl ((y1 / 100) % 100))]) (dat dk_X12_day 39 rfl) (by decide) rfl (to_iload (dat dk_X12_day 40 rfl) rfl (to_iconst (dat dk_X12_day 41 rfl) ?_)))))))))))
      refine to_ilt 98 (dat dk_X12_day 42 rfl) rfl (by omega) (by decide) (fun c10 => ?_) (fun c10 => ?_)
      · skip
        refine to_ldc2 (v := (-1)) (x := -1) (tin 8 9 (by decide +kernel) rfl) (by decide +kernel) (dat dk_X12_day 58 rfl) (to_goto (dat dk_X12_day 59 rfl) rfl ?_)
        exact to_lret rfl (dat dk_X12_day 66 rfl) (rl_mk ⟨rfl, (show ((-1 : Int) = -1 ∧ bi (dayOK (hr h) (Int.toNat f)) = 0) ∨ (0 ≤ (-1 : Int) ∧ (-1 : Int) ≤ 4000000 ∧ bi (dayOK (hr h) (Int.toNat f)) = 1) by omega)⟩)
      · skip
        refine to_iload (dat dk_X12_day 43 rfl) rfl (to_bipush (dat dk_X12_day 44 rfl) (by decide) ?_)
        refine to_igt 98 (dat dk_X12_day 45 rfl) rfl (by omega) (by decide) (fun c11 => ?_) (fun c11 => ?_)
        · skip
          refine to_ldc2 (v := (-1)) (x := -1) (tin 8 9 (by decide +kernel) rfl) (by decide +kernel) (dat dk_X12_day 58 rfl) (to_goto (dat dk_X12_day 59 rfl) rfl ?_)
          exact to_lret rfl (dat dk_X12_day 66 rfl) (rl_mk ⟨rfl, (show ((-1 : Int) = -1 ∧ bi (dayOK (hr h) (Int.toNat f)) = 0) ∨ (0 ≤ (-1 : Int) ∧ (-1 : Int) ≤ 4000000 ∧ bi (dayOK (hr h) (Int.toNat f)) = 1) by omega)⟩)
        · skip
          refine to_iload_n (dat dk_X12_day 46 rfl) rfl (to_bipush (dat dk_X12_day 47 rfl) (by decide) (to_iremx (by omega) (by decide) (dat dk_X12_day 48 rfl) (to_iconst (dat dk_X12_day 49 rfl) ?_)))
          refine to_ilt 98 (dat dk_X12_day 50 rfl) rfl (by omega) (by decide) (fun c12 => ?_) (fun c12 => ?_)
          · skip
            refine to_ldc2 (v := (-1)) (x := -1) (tin 8 9 (by decide +kernel) rfl) (by decide +kernel) (dat dk_X12_day 58 rfl) (to_goto (dat dk_X12_day 59 rfl) rfl ?_)
            exact to_lret rfl (dat dk_X12_day 66 rfl) (rl_mk ⟨rfl, (show ((-1 : Int) = -1 ∧ bi (dayOK (hr h) (Int.toNat f)) = 0) ∨ (0 ≤ (-1 : Int) ∧ (-1 : Int) ≤ 4000000 ∧ bi (dayOK (hr h) (Int.toNat f)) = 1) by omega)⟩)
          · skip
            refine to_iload_n (dat dk_X12_day 51 rfl) rfl (to_bipush (dat dk_X12_day 52 rfl) (by decide) (to_iremx (by omega) (by decide) (dat dk_X12_day 53 rfl) (to_iload_n (dat dk_X12_day 54 rfl) rfl (to_iload (dat dk_X12_day 55 rfl) rfl ?_))))
            refine to_cI ca_c13_305 (dat dk_X12_day 56 rfl) (ct_X12_monthDays_vx l h hI (y1 / 10000) (by omega) ((y1 / 100) % 100) (by omega) (show 0 ≤ (y1 / 10000) ∧ (y1 / 10000) ≤ 9999 by omega)) rfl trivial rfl (fun x13 h14 rx13 p15 => ?_)
            obtain ⟨rfl, p15_0, p15_1⟩ := p15
            refine to_ile 104 (dat dk_X12_day 57 rfl) rfl (by omega) rx13 (fun c16 => ?_) (fun c16 => ?_)
            · skip
              refine to_iload_n (dat dk_X12_day 60 rfl) rfl (to_iload (dat dk_X12_day 61 rfl) rfl (to_iload_n (dat dk_X12_day 62 rfl) rfl (to_bipush (dat dk_X12_day 63 rfl) (by decide) (to_iremx (by omega) (by decide) (dat dk_X12_day 64 rfl) ?_))))
              refine to_cL ca_c13_332 (dat dk_X12_day 65 rfl) (ct_X12_days_vx l h hI (y1 / 10000) (by omega) ((y1 / 100) % 100) (by omega) (y1 % 100) (by omega) (show 0 ≤ (y1 / 10000) ∧ (y1 / 10000) ≤ 9999 by omega) (show 1 ≤ ((y1 / 100) % 100) ∧ ((y1 / 100) % 100) ≤ 12 by omega) (show 1 ≤ (y1 % 100) ∧ (y1 % 100) ≤ 31 by omega)) rfl trivial rfl (fun x17 h18 p19 => ?_)
              obtain ⟨rfl, p19_0⟩ := p19
              exact to_lret rfl (dat dk_X12_day 66 rfl) (rl_mk ⟨rfl, (show (x17 = -1 ∧ bi (dayOK (hr h) (Int.toNat f)) = 0) ∨ (0 ≤ x17 ∧ x17 ≤ 4000000 ∧ bi (dayOK (hr h) (Int.toNat f)) = 1) by omega)⟩)
            · skip
              refine to_ldc2 (v := (-1)) (x := -1) (tin 8 9 (by decide +kernel) rfl) (by decide +kernel) (dat dk_X12_day 58 rfl) (to_goto (dat dk_X12_day 59 rfl) rfl ?_)
              exact to_lret rfl (dat dk_X12_day 66 rfl) (rl_mk ⟨rfl, (show ((-1 : Int) = -1 ∧ bi (dayOK (hr h) (Int.toNat f)) = 0) ∨ (0 ≤ (-1 : Int) ∧ (-1 : Int) ≤ 4000000 ∧ bi (dayOK (hr h) (Int.toNat f)) = 1) by omega)⟩)
    · skip
      refine to_aload_n (dat dk_X12_day 9 rfl) rfl (to_getR 88 g_c13_100 (dat dk_X12_day 10 rfl) (hI.atS rfl) (hI.atE rfl) (to_iload_n (dat dk_X12_day 11 rfl) rfl ?_))
      obtain ⟨x20, ex20⟩ : ∃ y : Int, h.2.2 88 (Int.toNat y2) = y := ⟨_, rfl⟩
      have rx20 := hI.atR (a := 88) (j := Int.toNat y2) rfl
      rw [ex20] at rx20
      refine to_baldv (q := 1) ex20 (dat dk_X12_day 12 rfl) (by decide) (hI.atS rfl) rfl (by decide) (by omega) ?_
      refine to_cI ca_c13_161 (dat dk_X12_day 13 rfl) (ct_X12_isDigit_vx l h hI x20 (by omega)) rfl trivial rfl (fun x21 h22 rx21 p23 => ?_)
      obtain ⟨rfl, zx21, p23_0⟩ := p23
      refine to_ifne 28 (dat dk_X12_day 14 rfl) rfl rx21 (fun c24 => ?_) (fun c24 => ?_)
      · skip
        have zk : Int.toNat (y2 + 1 - f) = Int.toNat (y2 - f) + 1 := by omega
        have zi : Int.toNat f + Int.toNat (y2 - f) = Int.toNat y2 := by omega
        have zd : ∀ i : Nat, i < Int.toNat (y2 + 1 - f) → isDg (hr h (Int.toNat f + i)) = true := fun i hi => if ci : i = Int.toNat (y2 - f) then (by rw [ci, zi]; exact dg_at (by omega)) else c4 i (by omega)
        have zv : nv (hr h) (Int.toNat f) (Int.toNat (y2 + 1 - f)) = 10 * nv (hr h) (Int.toNat f) (Int.toNat (y2 - f)) + (h.2.2 88 (Int.toNat y2) - 48) := by rw [zk, nv_1, zi]; rfl
        have z9 := nv_9 (r := hr h) (a := Int.toNat f) (k := Int.toNat (y2 + 1 - f)) (by omega) zd
        refine to_bipush (dat dk_X12_day 17 rfl) (by decide) (to_iload_n (dat dk_X12_day 18 rfl) rfl (to_imul (dat dk_X12_day 19 rfl) (to_aload_n (dat dk_X12_day 20 rfl) rfl (to_getR 88 g_c13_100 (dat dk_X12_day 21 rfl) (hI.atS rfl) (hI.atE rfl) (to_iload_n (dat dk_X12_day 22 rfl) rfl ?_)))))
        obtain ⟨x25, ex25⟩ : ∃ y : Int, h.2.2 88 (Int.toNat y2) = y := ⟨_, rfl⟩
        have rx25 := hI.atR (a := 88) (j := Int.toNat y2) rfl
        rw [ex25] at rx25
        refine to_baldv (q := 1) ex25 (dat dk_X12_day 23 rfl) (by decide) (hI.atS rfl) rfl (by decide) (by omega) (to_iadd (dat dk_X12_day 24 rfl) (to_bipush (dat dk_X12_day 25 rfl) (by decide) (to_isub (dat dk_X12_day 26 rfl) (to_istore_n (L' := [(0, .inr (.inr 60)), (1, .inl f), (2, .inl (((10 * y1) + x25) - 48)), (3, .inl y2)]) (dat dk_X12_day 27 rfl) (by decide) rfl (to_iinc (L' := [(0, .inr (.inr 60)), (1, .inl f), (2, .inl (((10 * y1) + x25) - 48)), (3, .inl (y2 + 1))]) (dat dk_X12_day 28 rfl) rfl (by decide) rfl (to_goto (dat dk_X12_day 29 rfl) rfl ?_))))))
        exact ihn7 (n7 - 1) (by omega) (((10 * y1) + x25) - 48) (y2 + 1) (by omega) (by omega) (show f ≤ (y2 + 1) ∧ (y2 + 1) ≤ f + 8 by omega) zd (show (((10 * y1) + x25) - 48) = nv (hr h) (Int.toNat f) (Int.toNat ((y2 + 1) - f)) by omega) (show 0 ≤ (((10 * y1) + x25) - 48) ∧ (((10 * y1) + x25) - 48) ≤ 999999999 by omega) (show f + 8 - (y2 + 1) ≤ ((n7 - 1 : Nat) : Int) by omega)
      · skip
        refine to_ldc2 (v := (-1)) (x := -1) (tin 8 9 (by decide +kernel) rfl) (by decide +kernel) (dat dk_X12_day 15 rfl) ?_
        exact to_lret rfl (dat dk_X12_day 16 rfl) (rl_mk ⟨rfl, (Or.inl ⟨by omega, day_nd (r := hr h) (a := Int.toNat f) (i := Int.toNat (y2 - f)) (by omega) (by rw [show Int.toNat f + Int.toNat (y2 - f) = Int.toNat y2 by omega]; exact dg_no (by omega))⟩)⟩)
  exact lp4_n7 (f + 8 - f).toNat 0 f (by decide) hf (show f ≤ f ∧ f ≤ f + 8 by omega) (fun i hi => absurd hi (by omega)) (by rw [show Int.toNat (f - f) = 0 by omega]; rfl) (show 0 ≤ (0 : Int) ∧ (0 : Int) ≤ 999999999 by omega) (by omega)
