/-! Contracts, by program. -/
abbrev Q_X1_byteAt_v6x (h : Hp) (i : Int) : Option V → Hp → Nat → Nat → Prop := RI (fun x H => h = H ∧ ((i < 0 ∨ H.2.2 6 1 ≤ i) ∧ x = -1 ∨ 0 ≤ i ∧ i < H.2.2 6 1 ∧ x = qr H (Int.toNat i) % 256))
set_option maxRecDepth 100000 in
theorem ct_X1_byteAt_v6x (l : Launch) (h : Hp) (hI : Inv h) (i : Int) (hi : I32 i) : Ct l D_X1_byteAt 0 0 [.inr (.inr 6), .inl i] h (Q_X1_byteAt_v6x h i) := by
  refine ct_of pn_X1_byteAt (Nat.le_of_ble_eq_true rfl) ?_
  show To l E_X1_byteAt (0, [(0, .inr (.inr 6)), (1, .inl i)], [], h, 0, 0) _
  refine to_iload_n (dat dk_X1_byteAt 0 rfl) rfl ?_
  refine to_iflt 34 (dat dk_X1_byteAt 1 rfl) rfl hi (fun c1 => ?_) (fun c1 => ?_)
  · skip
    refine to_iconst (dat dk_X1_byteAt 18 rfl) ?_
    exact to_iret rfl (dat dk_X1_byteAt 19 rfl) (ri_mk (by decide) ⟨rfl, (Or.inl ⟨by omega, by omega⟩)⟩)
  · skip
    refine to_iload_n (dat dk_X1_byteAt 2 rfl) rfl (to_aload_n (dat dk_X1_byteAt 3 rfl) rfl ?_)
    obtain ⟨x2, ex2⟩ : ∃ y : Int, h.2.2 6 1 = y := ⟨_, rfl⟩
    have rx2 := hI.atR (a := 6) (j := 1) rfl
    rw [ex2] at rx2
    refine to_getIv (y := x2) ex2 g_c2_15 (dat dk_X1_byteAt 4 rfl) (hI.atS rfl) ?_
    refine to_ige 34 (dat dk_X1_byteAt 5 rfl) rfl hi (by omega) (fun c3 => ?_) (fun c3 => ?_)
    · skip
      refine to_iconst (dat dk_X1_byteAt 18 rfl) ?_
      exact to_iret rfl (dat dk_X1_byteAt 19 rfl) (ri_mk (by decide) ⟨rfl, (Or.inl ⟨by omega, by omega⟩)⟩)
    · skip
      refine to_iload_n (dat dk_X1_byteAt 6 rfl) rfl (to_aload_n (dat dk_X1_byteAt 7 rfl) rfl (to_getR 7 g_c2_9 (dat dk_X1_byteAt 8 rfl) (hI.atS rfl) (hI.atE rfl) (to_alen (dat dk_X1_byteAt 9 rfl) (hI.atS rfl) (by decide) ?_)))
      refine to_ige 34 (dat dk_X1_byteAt 10 rfl) rfl hi (by decide) (fun c4 => ?_) (fun c4 => ?_)
      · skip
        refine to_iconst (dat dk_X1_byteAt 18 rfl) ?_
        exact to_iret rfl (dat dk_X1_byteAt 19 rfl) (ri_mk (by decide) ⟨rfl, (Or.inl ⟨by omega, by omega⟩)⟩)
      · skip
        refine to_aload_n (dat dk_X1_byteAt 11 rfl) rfl (to_getR 7 g_c2_9 (dat dk_X1_byteAt 12 rfl) (hI.atS rfl) (hI.atE rfl) (to_iload_n (dat dk_X1_byteAt 13 rfl) rfl ?_))
        obtain ⟨x5, ex5⟩ : ∃ y : Int, h.2.2 7 (Int.toNat i) = y := ⟨_, rfl⟩
        have rx5 := hI.atR (a := 7) (j := Int.toNat i) rfl
        rw [ex5] at rx5
        refine to_baldv (q := 1) ex5 (dat dk_X1_byteAt 14 rfl) (by decide) (hI.atS rfl) rfl (by decide) (by omega) (to_sipush (dat dk_X1_byteAt 15 rfl) (by decide) (to_iand255 (dat dk_X1_byteAt 16 rfl) (to_goto (dat dk_X1_byteAt 17 rfl) rfl ?_)))
        exact to_iret rfl (dat dk_X1_byteAt 19 rfl) (ri_mk (by omega) ⟨rfl, (Or.inr ⟨by omega, by omega, by rw [← ex5]; rfl⟩)⟩)
abbrev Q_X1_blanksOn_vx (h : Hp) (f : Int) (t : Int) : Option V → Hp → Nat → Nat → Prop := RI (fun x H => h = H ∧ (x = (skp isBl (qr H) (qn H) (Int.toNat (f)) : Nat)))
set_option maxRecDepth 100000 in
theorem ct_X1_blanksOn_vx (l : Launch) (h : Hp) (hI : Inv h) (f : Int) (hf : I32 f) (t : Int) (ht : I32 t) (g0 : 0 ≤ f ∧ f ≤ t) (g1 : t = h.2.2 6 1) : Ct l D_X1_blanksOn 1 21 [.inr (.inr 6), .inl f, .inl t] h (Q_X1_blanksOn_vx h f t) := by
  refine ct_of pn_X1_blanksOn (Nat.le_of_ble_eq_true rfl) ?_
  show To l E_X1_blanksOn (0, [(0, .inr (.inr 6)), (1, .inl f), (2, .inl t)], [], h, 0, 0) _
  have zq := qn_is hI
  refine to_iload_n (dat dk_X1_blanksOn 0 rfl) rfl (to_istore_n (L' := [(0, .inr (.inr 6)), (1, .inl f), (2, .inl t), (3, .inl f)]) (dat dk_X1_blanksOn 1 rfl) (by decide) rfl ?_)
  have lp2_n4 : ∀ (n4 : Nat) (y1 : Int), (I32 y1) → (f ≤ y1 ∧ y1 ≤ t) → (skp isBl (qr h) (qn h) (Int.toNat (f)) = skp isBl (qr h) (qn h) (Int.toNat y1)) → (t - y1 ≤ (n4 : Int)) → To l E_X1_blanksOn (2, [(0, .inr (.inr 6)), (1, .inl f), (2, .inl t), (3, .inl y1)], [], h, 0, 0) (Q_X1_blanksOn_vx h f t) := by
    intro n4
    induction n4 using Nat.strongRecOn with
    | _ n4 ihn4 =>
    intro y1 ry1 c2 c3 c5
    refine to_iload_n (dat dk_X1_blanksOn 2 rfl) rfl (to_iload_n (dat dk_X1_blanksOn 3 rfl) rfl ?_)
    refine to_ige 24 (dat dk_X1_blanksOn 4 rfl) rfl ry1 ht (fun c6 => ?_) (fun c6 => ?_)
    · skip
      refine to_iload_n (dat dk_X1_blanksOn 12 rfl) rfl ?_
      exact to_iret rfl (dat dk_X1_blanksOn 13 rfl) (ri_mk ry1 ⟨rfl, (by rw [c3, skp_end (P := isBl) (r := qr h) (n := qn h) (p := Int.toNat y1) (Or.inl (by omega))]; omega)⟩)
    · skip
      refine to_aload_n (dat dk_X1_blanksOn 5 rfl) rfl (to_iload_n (dat dk_X1_blanksOn 6 rfl) rfl ?_)
      obtain ⟨x7, ex7⟩ : ∃ y : Int, h.2.2 6 1 = y := ⟨_, rfl⟩
      have rx7 := hI.atR (a := 6) (j := 1) rfl
      rw [ex7] at rx7
      refine to_cI ca_c2_23 (dat dk_X1_blanksOn 7 rfl) (ct_X1_byteAt_v6x l h hI y1 ry1) rfl ⟨_, _, rfl, (hI.atS rfl)⟩ rfl (fun x8 h9 rx8 p10 => ?_)
      obtain ⟨rfl, p10_0⟩ := p10
      refine to_cI ca_c2_27 (dat dk_X1_blanksOn 8 rfl) (ct_X9_isBlank_vx l h hI x8 rx8) rfl trivial rfl (fun x11 h12 rx11 p13 => ?_)
      obtain ⟨rfl, zx11, p13_0⟩ := p13
      refine to_ifeq 24 (dat dk_X1_blanksOn 9 rfl) rfl rx11 (fun c14 => ?_) (fun c14 => ?_)
      · skip
        refine to_iload_n (dat dk_X1_blanksOn 12 rfl) rfl ?_
        exact to_iret rfl (dat dk_X1_blanksOn 13 rfl) (ri_mk ry1 ⟨rfl, (by rw [c3, skp_end (P := isBl) (r := qr h) (n := qn h) (p := Int.toNat y1) (Or.inr (isBl_no (b := x8) (qr_in hI (Int.toNat y1)) (by omega) (by omega)))]; omega)⟩)
      · skip
        refine to_iinc (L' := [(0, .inr (.inr 6)), (1, .inl f), (2, .inl t), (3, .inl (y1 + 1))]) (dat dk_X1_blanksOn 10 rfl) rfl (by decide) rfl (to_goto (dat dk_X1_blanksOn 11 rfl) rfl ?_)
        exact ihn4 (n4 - 1) (by omega) (y1 + 1) (by omega) (show f ≤ (y1 + 1) ∧ (y1 + 1) ≤ t by omega) (by rw [c3, skp_more (P := isBl) (r := qr h) (n := qn h) (p := Int.toNat y1) (by omega) (isBl_of (b := x8) (qr_in hI (Int.toNat y1)) (by omega) (by omega))]; exact congrArg (skp isBl (qr h) (qn h)) (by omega)) (show t - (y1 + 1) ≤ ((n4 - 1 : Nat) : Int) by omega)
  exact lp2_n4 (t - f).toNat f hf (show f ≤ f ∧ f ≤ t by omega) rfl (by omega)
abbrev Q_X1_seek_vx (h : Hp) (b : Int) (f : Int) (t : Int) : Option V → Hp → Nat → Nat → Prop := RI (fun x H => h = H ∧ (x = phE (qr H) (qn H) (Int.toNat f)))
set_option maxRecDepth 100000 in
theorem ct_X1_seek_vx (l : Launch) (h : Hp) (hI : Inv h) (b : Int) (hb : I32 b) (f : Int) (hf : I32 f) (t : Int) (ht : I32 t) (g0 : b = 34) (g1 : 0 ≤ f ∧ f ≤ t) (g2 : t = h.2.2 6 1) : Ct l D_X1_seek 1 21 [.inr (.inr 6), .inl b, .inl f, .inl t] h (Q_X1_seek_vx h b f t) := by
  refine ct_of pn_X1_seek (Nat.le_of_ble_eq_true rfl) ?_
  show To l E_X1_seek (0, [(0, .inr (.inr 6)), (1, .inl b), (2, .inl f), (3, .inl t)], [], h, 0, 0) _
  have zq := qn_is hI
  refine to_iload_n (dat dk_X1_seek 0 rfl) rfl (to_istore (L' := [(0, .inr (.inr 6)), (1, .inl b), (2, .inl f), (3, .inl t), (4, .inl f)]) (dat dk_X1_seek 1 rfl) (by decide) rfl ?_)
  have lp3_n4 : ∀ (n4 : Nat) (y1 : Int), (I32 y1) → (f ≤ y1 ∧ y1 ≤ t) → (phE (qr h) (qn h) (Int.toNat f) = phE (qr h) (qn h) (Int.toNat y1)) → (t - y1 ≤ (n4 : Int)) → To l E_X1_seek (3, [(0, .inr (.inr 6)), (1, .inl b), (2, .inl f), (3, .inl t), (4, .inl y1)], [], h, 0, 0) (Q_X1_seek_vx h b f t) := by
    intro n4
    induction n4 using Nat.strongRecOn with
    | _ n4 ihn4 =>
    intro y1 ry1 c2 c3 c5
    refine to_iload (dat dk_X1_seek 2 rfl) rfl (to_iload_n (dat dk_X1_seek 3 rfl) rfl ?_)
    refine to_ige 28 (dat dk_X1_seek 4 rfl) rfl ry1 ht (fun c6 => ?_) (fun c6 => ?_)
    · skip
      refine to_iconst (dat dk_X1_seek 14 rfl) ?_
      exact to_iret rfl (dat dk_X1_seek 15 rfl) (ri_mk (by decide) ⟨rfl, (by rw [c3, phE_none (r := qr h) (n := qn h) (p := Int.toNat y1) (by omega)])⟩)
    · skip
      refine to_aload_n (dat dk_X1_seek 5 rfl) rfl (to_iload (dat dk_X1_seek 6 rfl) rfl ?_)
      obtain ⟨x7, ex7⟩ : ∃ y : Int, h.2.2 6 1 = y := ⟨_, rfl⟩
      have rx7 := hI.atR (a := 6) (j := 1) rfl
      rw [ex7] at rx7
      refine to_cI ca_c2_23 (dat dk_X1_seek 7 rfl) (ct_X1_byteAt_v6x l h hI y1 ry1) rfl ⟨_, _, rfl, (hI.atS rfl)⟩ rfl (fun x8 h9 rx8 p10 => ?_)
      obtain ⟨rfl, p10_0⟩ := p10
      refine to_iload_n (dat dk_X1_seek 8 rfl) rfl ?_
      refine to_ine 22 (dat dk_X1_seek 9 rfl) rfl rx8 hb (fun c11 => ?_) (fun c11 => ?_)
      · skip
        refine to_iinc (L' := [(0, .inr (.inr 6)), (1, .inl b), (2, .inl f), (3, .inl t), (4, .inl (y1 + 1))]) (dat dk_X1_seek 12 rfl) rfl (by decide) rfl (to_goto (dat dk_X1_seek 13 rfl) rfl ?_)
        exact ihn4 (n4 - 1) (by omega) (y1 + 1) (by omega) (show f ≤ (y1 + 1) ∧ (y1 + 1) ≤ t by omega) (by rw [c3, phE_more (r := qr h) (n := qn h) (p := Int.toNat y1) (by omega) (by have := (qr_in hI (Int.toNat y1)); omega)]; exact congrArg (phE (qr h) (qn h)) (by omega)) (show t - (y1 + 1) ≤ ((n4 - 1 : Nat) : Int) by omega)
      · skip
        refine to_iload (dat dk_X1_seek 10 rfl) rfl ?_
        exact to_iret rfl (dat dk_X1_seek 11 rfl) (ri_mk ry1 ⟨rfl, (by rw [c3, phE_at (r := qr h) (n := qn h) (p := Int.toNat y1) (by omega) (by have := (qr_in hI (Int.toNat y1)); omega)]; omega)⟩)
  exact lp3_n4 (t - f).toNat f hf (show f ≤ f ∧ f ≤ t by omega) rfl (by omega)
abbrev Q_X1_hasAt_vx (h : Hp) (f : Int) (t nt : Nat) (c : Int) : Option V → Hp → Nat → Nat → Prop := RI (fun x H => h = H ∧ (x = 0 ∨ x = 1) ∧ (x = bi (hasB (qr H) (qn H) (Int.toNat f) (cod t))))
set_option maxRecDepth 100000 in
theorem ct_X1_hasAt_vx (l : Launch) (h : Hp) (hI : Inv h) (f : Int) (hf : I32 f) (t nt : Nat) (ht : (t, nt) ∈ strL) (c : Int) (hc : c = 0 ∨ c = 1) (g0 : c = 0) (g1 : 0 ≤ f ∧ f ≤ h.2.2 6 1) : Ct l D_X1_hasAt 5 106 [.inr (.inr 6), .inl f, .inr (.inr t), .inl c] h (Q_X1_hasAt_vx h f t nt c) := by
  refine ct_of pn_X1_hasAt (Nat.le_of_ble_eq_true rfl) ?_
  show To l E_X1_hasAt (0, [(0, .inr (.inr 6)), (1, .inl f), (2, .inr (.inr t)), (3, .inl c)], [], h, 0, 0) _
  have lt := str_n ht
  have zq := qn_is hI
  refine to_iconst (dat dk_X1_hasAt 0 rfl) (to_istore (L' := [(0, .inr (.inr 6)), (1, .inl f), (2, .inr (.inr t)), (3, .inl c), (4, .inl 0)]) (dat dk_X1_hasAt 1 rfl) (by decide) rfl ?_)
  have lp3_n4 : ∀ (n4 : Nat) (y1 : Int), (I32 y1) → (0 ≤ y1 ∧ y1 ≤ (nt : Int) ∧ f + y1 ≤ h.2.2 6 1) → (∀ j : Nat, (j : Int) < y1 → qr h (Int.toNat f + j) = (cod t).getD j 0) → ((nt : Int) - y1 ≤ (n4 : Int)) → To l E_X1_hasAt (3, [(0, .inr (.inr 6)), (1, .inl f), (2, .inr (.inr t)), (3, .inl c), (4, .inl y1)], [], h, 0, 0) (Q_X1_hasAt_vx h f t nt c) := by
    intro n4
    induction n4 using Nat.strongRecOn with
    | _ n4 ihn4 =>
    intro y1 ry1 c2 c3 c5
    refine to_iload (dat dk_X1_hasAt 2 rfl) rfl (to_aload_np (dat dk_X1_hasAt 3 rfl) (str_pos ht) rfl ?_)
    refine to_cI ca_c2_33 (dat dk_X1_hasAt 4 rfl) (ct_J0_length_8abf5 l h hI t nt ht) rfl (recvS ht) rfl (fun x6 h7 rx6 p8 => ?_)
    obtain ⟨rfl, p8_0⟩ := p8
    refine to_ige 53 (dat dk_X1_hasAt 5 rfl) rfl ry1 rx6 (fun c9 => ?_) (fun c9 => ?_)
    · skip
      refine to_iconst (dat dk_X1_hasAt 26 rfl) ?_
      exact to_zret rfl (dat dk_X1_hasAt 27 rfl) (by decide) (ri_mk (by decide) ⟨rfl, (by decide), (by rw [bi_1 (show hasB (qr h) (qn h) (Int.toNat f) (cod t) = true from hasB_yes (by have := cod_len ht; omega) (fun j hj => c3 j (by have := cod_len ht; omega)))])⟩)
    · skip
      refine to_aload_n (dat dk_X1_hasAt 6 rfl) rfl (to_iload_n (dat dk_X1_hasAt 7 rfl) rfl (to_iload (dat dk_X1_hasAt 8 rfl) rfl (to_iadd (dat dk_X1_hasAt 9 rfl) ?_)))
      obtain ⟨x10, ex10⟩ : ∃ y : Int, h.2.2 6 1 = y := ⟨_, rfl⟩
      have rx10 := hI.atR (a := 6) (j := 1) rfl
      rw [ex10] at rx10
      refine to_cI ca_c2_23 (dat dk_X1_hasAt 10 rfl) (ct_X1_byteAt_v6x l h hI (f + y1) (by omega)) rfl ⟨_, _, rfl, (hI.atS rfl)⟩ rfl (fun x11 h12 rx11 p13 => ?_)
      obtain ⟨rfl, p13_0⟩ := p13
      refine to_istore (L' := [(0, .inr (.inr 6)), (1, .inl f), (2, .inr (.inr t)), (3, .inl c), (4, .inl y1), (5, .inl x11)]) (dat dk_X1_hasAt 11 rfl) (by decide) rfl (to_iload_n (dat dk_X1_hasAt 12 rfl) rfl ?_)
      refine to_ifeq 34 (dat dk_X1_hasAt 13 rfl) rfl (by omega) (fun c14 => ?_) (fun c14 => ?_)
      · skip
        refine to_iload (dat dk_X1_hasAt 17 rfl) rfl (to_aload_np (dat dk_X1_hasAt 18 rfl) (str_pos ht) rfl (to_iload (dat dk_X1_hasAt 19 rfl) rfl ?_))
        refine to_cI ca_c2_41 (dat dk_X1_hasAt 20 rfl) (ct_J0_charAt_5068e_vx l h hI t nt ht y1 ry1 (show 0 ≤ y1 ∧ y1 < (nt : Int) by omega)) rfl (recvS ht) rfl (fun x15 h16 rx15 p17 => ?_)
        obtain ⟨rfl, p17_0⟩ := p17
        refine to_ieq 47 (dat dk_X1_hasAt 21 rfl) rfl rx11 rx15 (fun c18 => ?_) (fun c18 => ?_)
        · skip
          refine to_iinc (L' := [(0, .inr (.inr 6)), (1, .inl f), (2, .inr (.inr t)), (3, .inl c), (4, .inl (y1 + 1)), (5, .inl x11)]) (dat dk_X1_hasAt 24 rfl) rfl (by decide) rfl (to_goto (dat dk_X1_hasAt 25 rfl) rfl ?_)
          refine to_pick [0, 1, 2, 3, 4] rfl ?_
          exact ihn4 (n4 - 1) (by omega) (y1 + 1) (by omega) (show 0 ≤ (y1 + 1) ∧ (y1 + 1) ≤ (nt : Int) ∧ f + (y1 + 1) ≤ h.2.2 6 1 by omega) (fun j hj => if cj : (j : Int) = y1 then (by have z := (qr_in hI (Int.toNat (f + y1))); have e : Int.toNat f + j = Int.toNat (f + y1) := (by omega); rw [e]; have e2 : j = Int.toNat y1 := (by omega); rw [e2]; omega) else c3 j (by omega)) (show (nt : Int) - (y1 + 1) ≤ ((n4 - 1 : Nat) : Int) by omega)
        · skip
          refine to_iconst (dat dk_X1_hasAt 22 rfl) ?_
          exact to_zret rfl (dat dk_X1_hasAt 23 rfl) (by decide) (ri_mk (by decide) ⟨rfl, (by decide), (by rw [bi_0 (show hasB (qr h) (qn h) (Int.toNat f) (cod t) = false from (if cj : f + y1 < h.2.2 6 1 then hasB_no2 (j := Int.toNat y1) (by have := cod_len ht; omega) (by have z := (qr_in hI (Int.toNat (f + y1))); have e : Int.toNat f + Int.toNat y1 = Int.toNat (f + y1) := (by omega); rw [e]; omega) else hasB_no1 (by have := cod_len ht; omega)))])⟩)
      · skip
        exfalso; omega
  exact lp3_n4 ((nt : Int) - (0 : Int)).toNat 0 (by decide) (show 0 ≤ (0 : Int) ∧ (0 : Int) ≤ (nt : Int) ∧ f + (0 : Int) ≤ h.2.2 6 1 by omega) (fun j hj => absurd hj (by omega)) (by omega)
abbrev Q_X1_is_vx (h : Hp) (f : Int) (g : Int) (t nt : Nat) (c : Int) : Option V → Hp → Nat → Nat → Prop := RI (fun x H => h = H ∧ (x = 0 ∨ x = 1) ∧ (x = bi (isW (qr H) (Int.toNat f) (Int.toNat g) (cod t))))
set_option maxRecDepth 100000 in
theorem ct_X1_is_vx (l : Launch) (h : Hp) (hI : Inv h) (f : Int) (hf : I32 f) (g : Int) (hg : I32 g) (t nt : Nat) (ht : (t, nt) ∈ strL) (c : Int) (hc : c = 0 ∨ c = 1) (g0 : c = 0) (g1 : 0 ≤ f ∧ f ≤ g ∧ g ≤ h.2.2 6 1) : Ct l D_X1_is 6 131 [.inr (.inr 6), .inl f, .inl g, .inr (.inr t), .inl c] h (Q_X1_is_vx h f g t nt c) := by
  refine ct_of pn_X1_is (Nat.le_of_ble_eq_true rfl) ?_
  show To l E_X1_is (0, [(0, .inr (.inr 6)), (1, .inl f), (2, .inl g), (3, .inr (.inr t)), (4, .inl c)], [], h, 0, 0) _
  have lt := str_n ht
  have zq := qn_is hI
  refine to_iload_n (dat dk_X1_is 0 rfl) rfl (to_iload_n (dat dk_X1_is 1 rfl) rfl (to_isub (dat dk_X1_is 2 rfl) (to_aload_np (dat dk_X1_is 3 rfl) (str_pos ht) rfl ?_)))
  refine to_cI ca_c2_33 (dat dk_X1_is 4 rfl) (ct_J0_length_8abf5 l h hI t nt ht) rfl (recvS ht) rfl (fun x1 h2 rx1 p3 => ?_)
  obtain ⟨rfl, p3_0⟩ := p3
  refine to_ine 25 (dat dk_X1_is 5 rfl) rfl (by omega) rx1 (fun c4 => ?_) (fun c4 => ?_)
  · skip
    refine to_iconst (dat dk_X1_is 14 rfl) ?_
    exact to_zret rfl (dat dk_X1_is 15 rfl) (by decide) (ri_mk (by decide) ⟨rfl, (by decide), (by rw [bi_0 (show isW (qr h) (Int.toNat f) (Int.toNat g) (cod t) = false from isW_no (by have := cod_len ht; omega))])⟩)
  · skip
    refine to_aload_n (dat dk_X1_is 6 rfl) rfl (to_iload_n (dat dk_X1_is 7 rfl) rfl (to_aload_np (dat dk_X1_is 8 rfl) (str_pos ht) rfl (to_iload (dat dk_X1_is 9 rfl) rfl ?_)))
    refine to_cI ca_c2_45 (dat dk_X1_is 10 rfl) (ct_X1_hasAt_vx l h hI f hf t nt ht c (by omega) (show c = 0 by omega) (show 0 ≤ f ∧ f ≤ h.2.2 6 1 by omega)) rfl ⟨_, _, rfl, (hI.atS rfl)⟩ rfl (fun x5 h6 rx5 p7 => ?_)
    obtain ⟨rfl, zx5, p7_0⟩ := p7
    refine to_ifeq 25 (dat dk_X1_is 11 rfl) rfl rx5 (fun c8 => ?_) (fun c8 => ?_)
    · skip
      refine to_iconst (dat dk_X1_is 14 rfl) ?_
      exact to_zret rfl (dat dk_X1_is 15 rfl) (by decide) (ri_mk (by decide) ⟨rfl, (by decide), (by rw [bi_0 (show isW (qr h) (Int.toNat f) (Int.toNat g) (cod t) = false from (by rw [isW_hasB (n := qn h) (by omega) (by omega) (by have := cod_len ht; omega)]; exact bi_f (by omega)))])⟩)
    · skip
      refine to_iconst (dat dk_X1_is 12 rfl) (to_goto (dat dk_X1_is 13 rfl) rfl ?_)
      exact to_zret rfl (dat dk_X1_is 15 rfl) (by decide) (ri_mk (by decide) ⟨rfl, (by decide), (by rw [bi_1 (show isW (qr h) (Int.toNat f) (Int.toNat g) (cod t) = true from (by rw [isW_hasB (n := qn h) (by omega) (by omega) (by have := cod_len ht; omega)]; exact bi_t (by omega)))])⟩)
abbrev Q_X1_numberIn_vx (h : Hp) (f : Int) (g : Int) : Option V → Hp → Nat → Nat → Prop := RI (fun x H => h = H ∧ (x = numV (qr H) (Int.toNat f) (Int.toNat g)))
set_option maxRecDepth 100000 in
theorem ct_X1_numberIn_vx (l : Launch) (h : Hp) (hI : Inv h) (f : Int) (hf : I32 f) (g : Int) (hg : I32 g) (g0 : 0 ≤ f ∧ f ≤ h.2.2 6 1) (g1 : 0 ≤ g ∧ g ≤ h.2.2 6 1) : Ct l D_X1_numberIn 1 21 [.inr (.inr 6), .inl f, .inl g] h (Q_X1_numberIn_vx h f g) := by
  refine ct_of pn_X1_numberIn (Nat.le_of_ble_eq_true rfl) ?_
  show To l E_X1_numberIn (0, [(0, .inr (.inr 6)), (1, .inl f), (2, .inl g)], [], h, 0, 0) _
  have zq := qn_is hI
  refine to_iload_n (dat dk_X1_numberIn 0 rfl) rfl (to_iload_n (dat dk_X1_numberIn 1 rfl) rfl (to_isub (dat dk_X1_numberIn 2 rfl) (to_iconst (dat dk_X1_numberIn 3 rfl) ?_)))
  refine to_ilt 15 (dat dk_X1_numberIn 4 rfl) rfl (by omega) (by decide) (fun c1 => ?_) (fun c1 => ?_)
  · skip
    refine to_iconst (dat dk_X1_numberIn 10 rfl) ?_
    exact to_iret rfl (dat dk_X1_numberIn 11 rfl) (ri_mk (by decide) ⟨rfl, (by rw [numV_no (numOK_no1 (by omega))])⟩)
  · skip
    refine to_iload_n (dat dk_X1_numberIn 5 rfl) rfl (to_iload_n (dat dk_X1_numberIn 6 rfl) rfl (to_isub (dat dk_X1_numberIn 7 rfl) (to_bipush (dat dk_X1_numberIn 8 rfl) (by decide) ?_)))
    refine to_ile 17 (dat dk_X1_numberIn 9 rfl) rfl (by omega) (by decide) (fun c2 => ?_) (fun c2 => ?_)
    · skip
      refine to_iconst (dat dk_X1_numberIn 12 rfl) (to_istore_n (L' := [(0, .inr (.inr 6)), (1, .inl f), (2, .inl g), (3, .inl 0)]) (dat dk_X1_numberIn 13 rfl) (by decide) rfl (to_iload_n (dat dk_X1_numberIn 14 rfl) rfl (to_istore (L' := [(0, .inr (.inr 6)), (1, .inl f), (2, .inl g), (3, .inl 0), (4, .inl f)]) (dat dk_X1_numberIn 15 rfl) (by decide) rfl ?_)))
      have lp22_n8 : ∀ (n8 : Nat) (y3 : Int) (y4 : Int), (I32 y3) → (I32 y4) → (f ≤ y4 ∧ y4 ≤ g) → (∀ i : Nat, i < Int.toNat (y4 - f) → isDg (qr h (Int.toNat f + i)) = true) → (y3 = nv (qr h) (Int.toNat f) (Int.toNat (y4 - f))) → (g - y4 ≤ (n8 : Int)) → To l E_X1_numberIn (22, [(0, .inr (.inr 6)), (1, .inl f), (2, .inl g), (3, .inl y3), (4, .inl y4)], [], h, 0, 0) (Q_X1_numberIn_vx h f g) := by
        intro n8
        induction n8 using Nat.strongRecOn with
        | _ n8 ihn8 =>
        intro y3 y4 ry3 ry4 c5 c6 c7 c9
        refine to_iload (dat dk_X1_numberIn 16 rfl) rfl (to_iload_n (dat dk_X1_numberIn 17 rfl) rfl ?_)
        refine to_ige 63 (dat dk_X1_numberIn 18 rfl) rfl ry4 hg (fun c10 => ?_) (fun c10 => ?_)
        · skip
          refine to_iload_n (dat dk_X1_numberIn 38 rfl) rfl ?_
          exact to_iret rfl (dat dk_X1_numberIn 39 rfl) (ri_mk ry3 ⟨rfl, (by rw [numV_of (by omega) (by omega) (fun i hi => c6 i (by omega)), show Int.toNat g - Int.toNat f = Int.toNat (y4 - f) by omega]; exact c7)⟩)
        · skip
          refine to_aload_n (dat dk_X1_numberIn 19 rfl) rfl (to_iload (dat dk_X1_numberIn 20 rfl) rfl ?_)
          obtain ⟨x11, ex11⟩ : ∃ y : Int, h.2.2 6 1 = y := ⟨_, rfl⟩
          have rx11 := hI.atR (a := 6) (j := 1) rfl
          rw [ex11] at rx11
          refine to_cI ca_c2_23 (dat dk_X1_numberIn 21 rfl) (ct_X1_byteAt_v6x l h hI y4 ry4) rfl ⟨_, _, rfl, (hI.atS rfl)⟩ rfl (fun x12 h13 rx12 p14 => ?_)
          obtain ⟨rfl, p14_0⟩ := p14
          refine to_cI ca_c2_49 (dat dk_X1_numberIn 22 rfl) (ct_X9_isDigit_vx l h hI x12 rx12) rfl trivial rfl (fun x15 h16 rx15 p17 => ?_)
          obtain ⟨rfl, zx15, p17_0⟩ := p17
          refine to_ifne 42 (dat dk_X1_numberIn 23 rfl) rfl rx15 (fun c18 => ?_) (fun c18 => ?_)
          · skip
            refine to_iload_n (dat dk_X1_numberIn 26 rfl) rfl (to_bipush (dat dk_X1_numberIn 27 rfl) (by decide) (to_imul (dat dk_X1_numberIn 28 rfl) (to_aload_n (dat dk_X1_numberIn 29 rfl) rfl (to_iload (dat dk_X1_numberIn 30 rfl) rfl ?_))))
            refine to_cI ca_c2_23 (dat dk_X1_numberIn 31 rfl) (ct_X1_byteAt_v6x l h hI y4 ry4) rfl ⟨_, _, rfl, (hI.atS rfl)⟩ rfl (fun x19 h20 rx19 p21 => ?_)
            obtain ⟨rfl, p21_0⟩ := p21
            refine to_iadd (dat dk_X1_numberIn 32 rfl) (to_bipush (dat dk_X1_numberIn 33 rfl) (by decide) (to_isub (dat dk_X1_numberIn 34 rfl) (to_istore_n (L' := [(0, .inr (.inr 6)), (1, .inl f), (2, .inl g), (3, .inl (((y3 * 10) + x19) - 48)), (4, .inl y4)]) (dat dk_X1_numberIn 35 rfl) (by decide) rfl ?_)))
            have zk : Int.toNat ((y4 + 1) - f) = Int.toNat (y4 - f) + 1 := by omega
            have zi : Int.toNat f + Int.toNat (y4 - f) = Int.toNat y4 := by omega
            have zd : ∀ i : Nat, i < Int.toNat ((y4 + 1) - f) → isDg (qr h (Int.toNat f + i)) = true := fun i hi => if ci : i = Int.toNat (y4 - f) then (by rw [ci, zi]; exact isDg_of (b := x12) (qr_in hI (Int.toNat y4)) (by omega) (by omega)) else c6 i (by omega)
            have zv : nv (qr h) (Int.toNat f) (Int.toNat ((y4 + 1) - f)) = 10 * nv (qr h) (Int.toNat f) (Int.toNat (y4 - f)) + (qr h (Int.toNat y4) - 48) := by rw [zk, ← zi]; rfl
            have z9 := nv_9 (r := qr h) (a := Int.toNat f) (k := Int.toNat ((y4 + 1) - f)) (by omega) zd
            have zr := (qr_in hI (Int.toNat y4))
            refine to_iinc (L' := [(0, .inr (.inr 6)), (1, .inl f), (2, .inl g), (3, .inl (((y3 * 10) + x19) - 48)), (4, .inl (y4 + 1))]) (dat dk_X1_numberIn 36 rfl) rfl (by decide) rfl (to_goto (dat dk_X1_numberIn 37 rfl) rfl ?_)
            exact ihn8 (n8 - 1) (by omega) (((y3 * 10) + x19) - 48) (y4 + 1) (by omega) (by omega) (show f ≤ (y4 + 1) ∧ (y4 + 1) ≤ g by omega) zd (show (((y3 * 10) + x19) - 48) = nv (qr h) (Int.toNat f) (Int.toNat ((y4 + 1) - f)) by omega) (show g - (y4 + 1) ≤ ((n8 - 1 : Nat) : Int) by omega)
          · skip
            refine to_iconst (dat dk_X1_numberIn 24 rfl) ?_
            exact to_iret rfl (dat dk_X1_numberIn 25 rfl) (ri_mk (by decide) ⟨rfl, (by rw [numV_no (numOK_no2 (i := Int.toNat (y4 - f)) (by omega) (by rw [show Int.toNat f + Int.toNat (y4 - f) = Int.toNat y4 by omega]; exact isDg_no (b := x12) (qr_in hI (Int.toNat y4)) (by omega) (by omega)))])⟩)
      exact lp22_n8 (g - f).toNat 0 f (by decide) hf (show f ≤ f ∧ f ≤ g by omega) (fun i hi => absurd hi (by omega)) (by rw [show Int.toNat (f - f) = 0 by omega]; rfl) (by omega)
    · skip
      refine to_iconst (dat dk_X1_numberIn 10 rfl) ?_
      exact to_iret rfl (dat dk_X1_numberIn 11 rfl) (ri_mk (by decide) ⟨rfl, (by rw [numV_no (numOK_no1 (by omega))])⟩)
