/-! Contracts, by program. -/
abbrev Q_X1_byteAt_v6y (h : Hp) (i : Int) : Option V → Hp → Nat → Nat → Prop := RI (fun x H => h = H ∧ ((i < 0 ∨ H.2.2 6 1 ≤ i) ∧ x = -1 ∨ 0 ≤ i ∧ i < H.2.2 6 1 ∧ x = H.2.2 7 (Int.toNat i) % 256))
set_option maxRecDepth 100000 in
theorem ct_X1_byteAt_v6y (l : Launch) (h : Hp) (hI : Inv h) (i : Int) (hi : I32 i) : Ct l D_X1_byteAt 0 0 [.inr (.inr 6), .inl i] h (Q_X1_byteAt_v6y h i) := by
  refine ct_of pn_X1_byteAt (Nat.le_of_ble_eq_true rfl) ?_
  show To l E_X1_byteAt (0, [(0, .inr (.inr 6)), (1, .inl i)], [], h, 0, 0) _
  refine to_iload_n (dat dk_X1_byteAt 0 rfl) rfl ?_
  refine to_iflt 34 (dat dk_X1_byteAt 1 rfl) rfl hi (fun c1 => ?_) (fun c1 => ?_)
  · skip
    refine to_iconst (dat dk_X1_byteAt 18 rfl) ?_
    exact to_iret rfl (dat dk_X1_byteAt 19 rfl) (ri_mk (by decide) ⟨rfl, (Or.inl ⟨by omega, by omega⟩)⟩)
  · skip
    refine to_iload_n (dat dk_X1_byteAt 2 rfl) rfl (to_aload_n (dat dk_X1_byteAt 3 rfl) rfl ?_)
    obtain ⟨x2, ex2⟩ : ∃ y : Int, h.2.2 6 1 = y := ⟨_, rfl⟩
    have rx2 := hI.atR (a := 6) (j := 1) rfl
    rw [ex2] at rx2
    refine to_getIv (y := x2) ex2 g_c2_15 (dat dk_X1_byteAt 4 rfl) (hI.atS rfl) ?_
    refine to_ige 34 (dat dk_X1_byteAt 5 rfl) rfl hi (by omega) (fun c3 => ?_) (fun c3 => ?_)
    · skip
      refine to_iconst (dat dk_X1_byteAt 18 rfl) ?_
      exact to_iret rfl (dat dk_X1_byteAt 19 rfl) (ri_mk (by decide) ⟨rfl, (Or.inl ⟨by omega, by omega⟩)⟩)
    · skip
      refine to_iload_n (dat dk_X1_byteAt 6 rfl) rfl (to_aload_n (dat dk_X1_byteAt 7 rfl) rfl (to_getR 7 g_c2_9 (dat dk_X1_byteAt 8 rfl) (hI.atS rfl) (hI.atE rfl) (to_alen (dat dk_X1_byteAt 9 rfl) (hI.atS rfl) (by decide) ?_)))
      refine to_ige 34 (dat dk_X1_byteAt 10 rfl) rfl hi (by decide) (fun c4 => ?_) (fun c4 => ?_)
      · skip
        refine to_iconst (dat dk_X1_byteAt 18 rfl) ?_
        exact to_iret rfl (dat dk_X1_byteAt 19 rfl) (ri_mk (by decide) ⟨rfl, (Or.inl ⟨by omega, by omega⟩)⟩)
      · skip
        refine to_aload_n (dat dk_X1_byteAt 11 rfl) rfl (to_getR 7 g_c2_9 (dat dk_X1_byteAt 12 rfl) (hI.atS rfl) (hI.atE rfl) (to_iload_n (dat dk_X1_byteAt 13 rfl) rfl ?_))
        obtain ⟨x5, ex5⟩ : ∃ y : Int, h.2.2 7 (Int.toNat i) = y := ⟨_, rfl⟩
        have rx5 := hI.atR (a := 7) (j := Int.toNat i) rfl
        rw [ex5] at rx5
        refine to_baldv (q := 1) ex5 (dat dk_X1_byteAt 14 rfl) (by decide) (hI.atS rfl) rfl (by decide) (by omega) (to_sipush (dat dk_X1_byteAt 15 rfl) (by decide) (to_iand255 (dat dk_X1_byteAt 16 rfl) (to_goto (dat dk_X1_byteAt 17 rfl) rfl ?_)))
        exact to_iret rfl (dat dk_X1_byteAt 19 rfl) (ri_mk (by omega) ⟨rfl, (Or.inr ⟨by omega, by omega, by rw [← ex5]⟩)⟩)
abbrev Q_X0_slotOf_v6x (h : Hp) (g : Int) : Option V → Hp → Nat → Nat → Prop := RI (fun x H => h = H ∧ (x = slF (H.2.2 7) g) ∧ (0 ≤ x ∧ x ≤ 1023))
set_option maxRecDepth 100000 in
theorem ct_X0_slotOf_v6x (l : Launch) (h : Hp) (hI : Inv h) (g : Int) (hg : I32 g) (g0 : 0 ≤ g ∧ g ≤ h.2.2 6 1) : Ct l D_X0_slotOf 1 21 [.inr (.inr 6), .inl 0, .inl g] h (Q_X0_slotOf_v6x h g) := by
  refine ct_of pn_X0_slotOf (Nat.le_of_ble_eq_true rfl) ?_
  show To l E_X0_slotOf (0, [(0, .inr (.inr 6)), (1, .inl 0), (2, .inl g)], [], h, 0, 0) _
  refine to_iconst (dat dk_X0_slotOf 0 rfl) (to_istore_n (L' := [(0, .inr (.inr 6)), (1, .inl 0), (2, .inl g), (3, .inl 0)]) (dat dk_X0_slotOf 1 rfl) (by decide) rfl (to_iload_n (dat dk_X0_slotOf 2 rfl) rfl (to_istore (L' := [(0, .inr (.inr 6)), (1, .inl 0), (2, .inl g), (3, .inl 0), (4, .inl 0)]) (dat dk_X0_slotOf 3 rfl) (by decide) rfl ?_)))
  have lp5_n5 : ∀ (n5 : Nat) (y1 : Int) (y2 : Int), (I32 y1) → (I32 y2) → (0 ≤ y2 ∧ y2 ≤ g) → (y1 = smF (h.2.2 7) (Int.toNat y2)) → (g - y2 ≤ (n5 : Int)) → To l E_X0_slotOf (5, [(0, .inr (.inr 6)), (1, .inl 0), (2, .inl g), (3, .inl y1), (4, .inl y2)], [], h, 0, 0) (Q_X0_slotOf_v6x h g) := by
    intro n5
    induction n5 using Nat.strongRecOn with
    | _ n5 ihn5 =>
    intro y1 y2 ry1 ry2 c3 c4 c6
    refine to_iload (dat dk_X0_slotOf 4 rfl) rfl (to_iload_n (dat dk_X0_slotOf 5 rfl) rfl ?_)
    refine to_ige 29 (dat dk_X0_slotOf 6 rfl) rfl ry2 hg (fun c7 => ?_) (fun c7 => ?_)
    · skip
      refine to_iload_n (dat dk_X0_slotOf 17 rfl) rfl (to_iload_n (dat dk_X0_slotOf 18 rfl) rfl (to_bipush (dat dk_X0_slotOf 19 rfl) (by decide) ?_))
      refine to_iushrq (dat dk_X0_slotOf 20 rfl) (fun x8 rx8 jx8 => ?_)
      refine to_ixorq (dat dk_X0_slotOf 21 rfl) (fun x9 rx9 jx9 => ?_)
      refine to_sipush (dat dk_X0_slotOf 22 rfl) (by decide) ?_
      refine to_iandq 1023 1023 (dat dk_X0_slotOf 23 rfl) (by decide) (by decide) (fun x10 rx10 jx10 => ?_)
      exact to_iret rfl (dat dk_X0_slotOf 24 rfl) (ri_mk rx10 ⟨rfl, (by rw [(jx10).1, jx9, jx8, c4, show y2 = g by omega]; rfl), (by have := (jx10).2; omega)⟩)
    · skip
      refine to_iload_n (dat dk_X0_slotOf 7 rfl) rfl (to_bipush (dat dk_X0_slotOf 8 rfl) (by decide) ?_)
      refine to_imulq (dat dk_X0_slotOf 9 rfl) (fun x11 rx11 jx11 => ?_)
      refine to_aload_n (dat dk_X0_slotOf 10 rfl) rfl (to_iload (dat dk_X0_slotOf 11 rfl) rfl ?_)
      obtain ⟨x12, ex12⟩ : ∃ y : Int, h.2.2 6 1 = y := ⟨_, rfl⟩
      have rx12 := hI.atR (a := 6) (j := 1) rfl
      rw [ex12] at rx12
      refine to_cI ca_c1_51 (dat dk_X0_slotOf 12 rfl) (ct_X1_byteAt_v6y l h hI y2 ry2) rfl ⟨_, _, rfl, (hI.atS rfl)⟩ rfl (fun x13 h14 rx13 p15 => ?_)
      obtain ⟨rfl, p15_0⟩ := p15
      refine to_iaddq (dat dk_X0_slotOf 13 rfl) (fun x16 rx16 jx16 => ?_)
      refine to_istore_n (L' := [(0, .inr (.inr 6)), (1, .inl 0), (2, .inl g), (3, .inl x16), (4, .inl y2)]) (dat dk_X0_slotOf 14 rfl) (by decide) rfl (to_iinc (L' := [(0, .inr (.inr 6)), (1, .inl 0), (2, .inl g), (3, .inl x16), (4, .inl (y2 + 1))]) (dat dk_X0_slotOf 15 rfl) rfl (by decide) rfl (to_goto (dat dk_X0_slotOf 16 rfl) rfl ?_))
      exact ihn5 (n5 - 1) (by omega) x16 (y2 + 1) rx16 (by omega) (show 0 ≤ (y2 + 1) ∧ (y2 + 1) ≤ g by omega) (by rw [show Int.toNat (y2 + 1) = Int.toNat y2 + 1 by omega, jx16, jx11, c4, show x13 = h.2.2 7 (Int.toNat y2) % 256 by omega]; rfl) (show g - (y2 + 1) ≤ ((n5 - 1 : Nat) : Int) by omega)
  exact lp5_n5 (g - (0 : Int)).toNat 0 0 (by decide) (by decide) (show 0 ≤ (0 : Int) ∧ (0 : Int) ≤ g by omega) rfl (by omega)
abbrev Q_X0_sizeOf_v20 (h : Hp) (n : Int) : Option V → Hp → Nat → Nat → Prop := RI (fun x H => h = H ∧ (x = tn H n))
set_option maxRecDepth 100000 in
theorem ct_X0_sizeOf_v20 (l : Launch) (h : Hp) (hI : Inv h) (n : Int) (hn : I32 n) (g0 : BkW h 20 80) (g1 : BI h) (g2 : 0 ≤ n ∧ n < bE h) : Ct l D_X0_sizeOf 0 0 [.inr (.inr 20), .inl n] h (Q_X0_sizeOf_v20 h n) := by
  refine ct_of pn_X0_sizeOf (Nat.le_of_ble_eq_true rfl) ?_
  show To l E_X0_sizeOf (0, [(0, .inr (.inr 20)), (1, .inl n)], [], h, 0, 0) _
  obtain ⟨nx0, sta0, rd0, rw0, nn0, ns0, nr0, nw0, r0, kn0⟩ := id g0
  obtain ⟨⟨a01, a02, a03, a04⟩, ⟨u01, u02, u03, u04⟩, w01, w02, w03, w04⟩ := id r0
  obtain ⟨b01, b02, b03, b04, b05, b06, b07⟩ := id kn0
  have lu01 := hI.lenM u01
  have lu02 := hI.lenM u02
  have lu03 := hI.lenM u03
  have lu04 := hI.lenM u04
  have zE : h.2.2 20 5 = bE h := rfl
  have zst : ∀ k : Int, st_ h k = h.2.2 sta0 k.toNat := fun k => by unfold st_; rw [a02, Int.toNat_natCast]
  have znx : ∀ k : Int, nx_ h k = h.2.2 nx0 k.toNat := fun k => by unfold nx_; rw [a01, Int.toNat_natCast]
  have zby : ∀ k : Int, by_ h k = h.2.2 rw0 k.toNat := fun k => by unfold by_; rw [a04, Int.toNat_natCast]
  have zlen : len h (h.2.2 20 4).toNat = (nw0 : Int) := by rw [a04, Int.toNat_natCast]; exact len_of u04
  have zm1 := g1.ge0 g2.1 (by omega)
  have zm2 := g1.le g2.1 (show n ≤ n + 1 by omega) (by omega)
  have zm3 := g1.le (show 0 ≤ n + 1 by omega) (show n + 1 ≤ bE h by omega) (Int.le_refl _)
  have zm4 := g1.2.1
  rw [zlen] at zm4
  have zsn := zst n
  have zsm := zst (n + 1)
  refine to_iload_n (dat dk_X0_sizeOf 0 rfl) rfl ?_
  refine to_iflt 23 (dat dk_X0_sizeOf 1 rfl) rfl hn (fun c1 => ?_) (fun c1 => ?_)
  · skip
    refine to_iconst (dat dk_X0_sizeOf 13 rfl) ?_
    exact to_iret rfl (dat dk_X0_sizeOf 14 rfl) (ri_mk (by decide) ⟨rfl, (by exfalso; omega)⟩)
  · skip
    refine to_iload_n (dat dk_X0_sizeOf 2 rfl) rfl (to_aload_n (dat dk_X0_sizeOf 3 rfl) rfl ?_)
    obtain ⟨x2, ex2⟩ : ∃ y : Int, h.2.2 20 5 = y := ⟨_, rfl⟩
    have rx2 := hI.atR (a := 20) (j := 5) rfl
    rw [ex2] at rx2
    refine to_getIv (y := x2) ex2 g_c1_28 (dat dk_X0_sizeOf 4 rfl) (hI.atS rfl) ?_
    refine to_ige 23 (dat dk_X0_sizeOf 5 rfl) rfl hn (by omega) (fun c3 => ?_) (fun c3 => ?_)
    · skip
      refine to_iconst (dat dk_X0_sizeOf 13 rfl) ?_
      exact to_iret rfl (dat dk_X0_sizeOf 14 rfl) (ri_mk (by decide) ⟨rfl, (by exfalso; omega)⟩)
    · skip
      refine to_iload_n (dat dk_X0_sizeOf 6 rfl) rfl (to_iconst (dat dk_X0_sizeOf 7 rfl) (to_iadd (dat dk_X0_sizeOf 8 rfl) (to_aload_n (dat dk_X0_sizeOf 9 rfl) rfl (to_getR sta0 g_c1_18 (dat dk_X0_sizeOf 10 rfl) (hI.atS rfl) a02 (to_alen (dat dk_X0_sizeOf 11 rfl) u02 (by decide) ?_)))))
      refine to_ilt 25 (dat dk_X0_sizeOf 12 rfl) rfl (by omega) (by omega) (fun c4 => ?_) (fun c4 => ?_)
      · skip
        refine to_aload_n (dat dk_X0_sizeOf 15 rfl) rfl (to_getR sta0 g_c1_18 (dat dk_X0_sizeOf 16 rfl) (hI.atS rfl) a02 (to_iload_n (dat dk_X0_sizeOf 17 rfl) rfl (to_iconst (dat dk_X0_sizeOf 18 rfl) (to_iadd (dat dk_X0_sizeOf 19 rfl) ?_))))
        obtain ⟨x5, ex5⟩ : ∃ y : Int, h.2.2 sta0 (Int.toNat (n + 1)) = y := ⟨_, rfl⟩
        have rx5 := hI.con0 u02 rfl (Int.toNat (n + 1))
        rw [ex5] at rx5
        refine to_ialdv ex5 (dat dk_X0_sizeOf 20 rfl) u02 rfl (hI.lenN u02) (by omega) (to_aload_n (dat dk_X0_sizeOf 21 rfl) rfl (to_getR sta0 g_c1_18 (dat dk_X0_sizeOf 22 rfl) (hI.atS rfl) a02 (to_iload_n (dat dk_X0_sizeOf 23 rfl) rfl ?_)))
        obtain ⟨x6, ex6⟩ : ∃ y : Int, h.2.2 sta0 (Int.toNat n) = y := ⟨_, rfl⟩
        have rx6 := hI.con0 u02 rfl (Int.toNat n)
        rw [ex6] at rx6
        refine to_ialdv ex6 (dat dk_X0_sizeOf 24 rfl) u02 rfl (hI.lenN u02) (by omega) (to_isub (dat dk_X0_sizeOf 25 rfl) ?_)
        exact to_iret rfl (dat dk_X0_sizeOf 26 rfl) (ri_mk (by omega) ⟨rfl, (by unfold tn; omega)⟩)
      · skip
        refine to_iconst (dat dk_X0_sizeOf 13 rfl) ?_
        exact to_iret rfl (dat dk_X0_sizeOf 14 rfl) (ri_mk (by decide) ⟨rfl, (by exfalso; omega)⟩)
abbrev Q_X0_begins_v20 (h : Hp) (n : Int) (g : Int) : Option V → Hp → Nat → Nat → Prop := RI (fun x H => h = H ∧ (x = 0 ∨ x = 1) ∧ ((x = 1 ∧ EqB H n (H.2.2 7) g) ∨ (x = 0 ∧ ¬ EqB H n (H.2.2 7) g)))
set_option maxRecDepth 100000 in
theorem ct_X0_begins_v20 (l : Launch) (h : Hp) (hI : Inv h) (n : Int) (hn : I32 n) (g : Int) (hg : I32 g) (g0 : BkW h 20 80) (g1 : BI h) (g2 : 0 ≤ n ∧ n < bE h) (g3 : 0 ≤ g ∧ g ≤ h.2.2 6 1) (g4 : tn h n = g) : Ct l D_X0_begins 1 21 [.inr (.inr 20), .inl n, .inr (.inr 6), .inl 0, .inl g] h (Q_X0_begins_v20 h n g) := by
  refine ct_of pn_X0_begins (Nat.le_of_ble_eq_true rfl) ?_
  show To l E_X0_begins (0, [(0, .inr (.inr 20)), (1, .inl n), (2, .inr (.inr 6)), (3, .inl 0), (4, .inl g)], [], h, 0, 0) _
  obtain ⟨nx0, sta0, rd0, rw0, nn0, ns0, nr0, nw0, r0, kn0⟩ := id g0
  obtain ⟨⟨a01, a02, a03, a04⟩, ⟨u01, u02, u03, u04⟩, w01, w02, w03, w04⟩ := id r0
  obtain ⟨b01, b02, b03, b04, b05, b06, b07⟩ := id kn0
  have lu01 := hI.lenM u01
  have lu02 := hI.lenM u02
  have lu03 := hI.lenM u03
  have lu04 := hI.lenM u04
  have zE : h.2.2 20 5 = bE h := rfl
  have zst : ∀ k : Int, st_ h k = h.2.2 sta0 k.toNat := fun k => by unfold st_; rw [a02, Int.toNat_natCast]
  have znx : ∀ k : Int, nx_ h k = h.2.2 nx0 k.toNat := fun k => by unfold nx_; rw [a01, Int.toNat_natCast]
  have zby : ∀ k : Int, by_ h k = h.2.2 rw0 k.toNat := fun k => by unfold by_; rw [a04, Int.toNat_natCast]
  have zlen : len h (h.2.2 20 4).toNat = (nw0 : Int) := by rw [a04, Int.toNat_natCast]; exact len_of u04
  have zm1 := g1.ge0 g2.1 (by omega)
  have zm2 := g1.le g2.1 (show n ≤ n + 1 by omega) (by omega)
  have zm3 := g1.le (show 0 ≤ n + 1 by omega) (show n + 1 ≤ bE h by omega) (Int.le_refl _)
  have zm4 := g1.2.1
  rw [zlen] at zm4
  have zsn := zst n
  have zsm := zst (n + 1)
  have ztn : tn h n = st_ h (n + 1) - st_ h n := rfl
  refine to_aload_n (dat dk_X0_begins 0 rfl) rfl (to_iload_n (dat dk_X0_begins 1 rfl) rfl ?_)
  refine to_cI ca_c1_32 (dat dk_X0_begins 2 rfl) (ct_X0_sizeOf_v20 l h hI n hn g0 g1 (show 0 ≤ n ∧ n < bE h by omega)) rfl ⟨_, _, rfl, (hI.atS rfl)⟩ rfl (fun x1 h2 rx1 p3 => ?_)
  obtain ⟨rfl, p3_0⟩ := p3
  refine to_iload (dat dk_X0_begins 3 rfl) rfl (to_iload_n (dat dk_X0_begins 4 rfl) rfl (to_isub (dat dk_X0_begins 5 rfl) ?_))
  refine to_ilt 25 (dat dk_X0_begins 6 rfl) rfl rx1 (by omega) (fun c4 => ?_) (fun c4 => ?_)
  · skip
    refine to_iconst (dat dk_X0_begins 14 rfl) ?_
    exact to_zret rfl (dat dk_X0_begins 15 rfl) (by decide) (ri_mk (by decide) ⟨rfl, (by decide), (by exfalso; omega)⟩)
  · skip
    refine to_iload_n (dat dk_X0_begins 7 rfl) rfl ?_
    refine to_iflt 25 (dat dk_X0_begins 8 rfl) rfl hn (fun c5 => ?_) (fun c5 => ?_)
    · skip
      refine to_iconst (dat dk_X0_begins 14 rfl) ?_
      exact to_zret rfl (dat dk_X0_begins 15 rfl) (by decide) (ri_mk (by decide) ⟨rfl, (by decide), (by exfalso; omega)⟩)
    · skip
      refine to_iload_n (dat dk_X0_begins 9 rfl) rfl (to_aload_n (dat dk_X0_begins 10 rfl) rfl (to_getR sta0 g_c1_18 (dat dk_X0_begins 11 rfl) (hI.atS rfl) a02 (to_alen (dat dk_X0_begins 12 rfl) u02 (by decide) ?_)))
      refine to_ilt 27 (dat dk_X0_begins 13 rfl) rfl hn (by omega) (fun c6 => ?_) (fun c6 => ?_)
      · skip
        refine to_aload_n (dat dk_X0_begins 16 rfl) rfl (to_getR sta0 g_c1_18 (dat dk_X0_begins 17 rfl) (hI.atS rfl) a02 (to_iload_n (dat dk_X0_begins 18 rfl) rfl ?_))
        obtain ⟨x7, ex7⟩ : ∃ y : Int, h.2.2 sta0 (Int.toNat n) = y := ⟨_, rfl⟩
        have rx7 := hI.con0 u02 rfl (Int.toNat n)
        rw [ex7] at rx7
        refine to_ialdv ex7 (dat dk_X0_begins 19 rfl) u02 rfl (hI.lenN u02) (by omega) (to_iload_n (dat dk_X0_begins 20 rfl) rfl (to_isub (dat dk_X0_begins 21 rfl) (to_istore (L' := [(0, .inr (.inr 20)), (1, .inl n), (2, .inr (.inr 6)), (3, .inl 0), (4, .inl g), (5, .inl (x7 - 0))]) (dat dk_X0_begins 22 rfl) (by decide) rfl (to_iload_n (dat dk_X0_begins 23 rfl) rfl (to_istore (L' := [(0, .inr (.inr 20)), (1, .inl n), (2, .inr (.inr 6)), (3, .inl 0), (4, .inl g), (5, .inl (x7 - 0)), (6, .inl 0)]) (dat dk_X0_begins 24 rfl) (by decide) rfl ?_)))))
        have lp40_n11 : ∀ (n11 : Nat) (y8 : Int), (I32 y8) → (0 ≤ y8 ∧ y8 ≤ g) → (∀ i : Nat, (i : Int) < y8 → tx h n i = (h.2.2 7) i) → (g - y8 ≤ (n11 : Int)) → To l E_X0_begins (40, [(0, .inr (.inr 20)), (1, .inl n), (2, .inr (.inr 6)), (3, .inl 0), (4, .inl g), (5, .inl (x7 - 0)), (6, .inl y8)], [], h, 0, 0) (Q_X0_begins_v20 h n g) := by
          intro n11
          induction n11 using Nat.strongRecOn with
          | _ n11 ihn11 =>
          intro y8 ry8 c9 c10 c12
          refine to_iload (dat dk_X0_begins 25 rfl) rfl (to_iload (dat dk_X0_begins 26 rfl) rfl ?_)
          refine to_ige 97 (dat dk_X0_begins 27 rfl) rfl ry8 hg (fun c13 => ?_) (fun c13 => ?_)
          · skip
            refine to_iconst (dat dk_X0_begins 53 rfl) ?_
            exact to_zret rfl (dat dk_X0_begins 54 rfl) (by decide) (ri_mk (by decide) ⟨rfl, (by decide), (Or.inl ⟨rfl, ⟨g4, fun i hi => c10 i (by omega)⟩⟩)⟩)
          · skip
            refine to_iload (dat dk_X0_begins 28 rfl) rfl (to_iload (dat dk_X0_begins 29 rfl) rfl (to_iadd (dat dk_X0_begins 30 rfl) (to_istore (L' := [(0, .inr (.inr 20)), (1, .inl n), (2, .inr (.inr 6)), (3, .inl 0), (4, .inl g), (5, .inl (x7 - 0)), (6, .inl y8), (7, .inl ((x7 - 0) + y8))]) (dat dk_X0_begins 31 rfl) (by decide) rfl (to_iload (dat dk_X0_begins 32 rfl) rfl ?_))))
            refine to_iflt 89 (dat dk_X0_begins 33 rfl) rfl (by omega) (fun c14 => ?_) (fun c14 => ?_)
            · skip
              refine to_iconst (dat dk_X0_begins 49 rfl) ?_
              exact to_zret rfl (dat dk_X0_begins 50 rfl) (by decide) (ri_mk (by decide) ⟨rfl, (by decide), (by exfalso; omega)⟩)
            · skip
              refine to_iload (dat dk_X0_begins 34 rfl) rfl (to_aload_n (dat dk_X0_begins 35 rfl) rfl (to_getR rw0 g_c1_24 (dat dk_X0_begins 36 rfl) (hI.atS rfl) a04 (to_alen (dat dk_X0_begins 37 rfl) u04 (by decide) ?_)))
              refine to_ige 89 (dat dk_X0_begins 38 rfl) rfl (by omega) (by omega) (fun c15 => ?_) (fun c15 => ?_)
              · skip
                refine to_iconst (dat dk_X0_begins 49 rfl) ?_
                exact to_zret rfl (dat dk_X0_begins 50 rfl) (by decide) (ri_mk (by decide) ⟨rfl, (by decide), (by exfalso; omega)⟩)
              · skip
                refine to_aload_n (dat dk_X0_begins 39 rfl) rfl (to_getR rw0 g_c1_24 (dat dk_X0_begins 40 rfl) (hI.atS rfl) a04 (to_iload (dat dk_X0_begins 41 rfl) rfl ?_))
                obtain ⟨x16, ex16⟩ : ∃ y : Int, h.2.2 rw0 (Int.toNat ((x7 - 0) + y8)) = y := ⟨_, rfl⟩
                have rx16 := hI.con1 u04 rfl (Int.toNat ((x7 - 0) + y8))
                rw [ex16] at rx16
                refine to_baldv (q := 1) ex16 (dat dk_X0_begins 42 rfl) (by decide) u04 rfl (hI.lenN u04) (by omega) ?_
                have zb : tx h n (Int.toNat y8) = x16 := (zby _).trans ((congrArg (fun q : Int => h.2.2 rw0 q.toNat) (show st_ h n + ((Int.toNat y8 : Nat) : Int) = (x7 - 0) + y8 by omega)).trans ex16)
                have zr7 := hI.atR (a := 7) (j := Int.toNat y8) rfl
                refine to_sipush (dat dk_X0_begins 43 rfl) (by decide) (to_iand255 (dat dk_X0_begins 44 rfl) (to_aload_n (dat dk_X0_begins 45 rfl) rfl (to_iload (dat dk_X0_begins 46 rfl) rfl ?_)))
                obtain ⟨x17, ex17⟩ : ∃ y : Int, h.2.2 6 1 = y := ⟨_, rfl⟩
                have rx17 := hI.atR (a := 6) (j := 1) rfl
                rw [ex17] at rx17
                refine to_cI ca_c1_51 (dat dk_X0_begins 47 rfl) (ct_X1_byteAt_v6y l h hI y8 ry8) rfl ⟨_, _, rfl, (hI.atS rfl)⟩ rfl (fun x18 h19 rx18 p20 => ?_)
                obtain ⟨rfl, p20_0⟩ := p20
                refine to_ieq 91 (dat dk_X0_begins 48 rfl) rfl (by omega) rx18 (fun c21 => ?_) (fun c21 => ?_)
                · skip
                  refine to_iinc (L' := [(0, .inr (.inr 20)), (1, .inl n), (2, .inr (.inr 6)), (3, .inl 0), (4, .inl g), (5, .inl (x7 - 0)), (6, .inl (y8 + 1)), (7, .inl ((x7 - 0) + y8))]) (dat dk_X0_begins 51 rfl) rfl (by decide) rfl (to_goto (dat dk_X0_begins 52 rfl) rfl ?_)
                  refine to_pick [0, 1, 2, 3, 4, 5, 6] rfl ?_
                  exact ihn11 (n11 - 1) (by omega) (y8 + 1) (by omega) (show 0 ≤ (y8 + 1) ∧ (y8 + 1) ≤ g by omega) (fun i hi => if ci : (i : Int) = y8 then (by rw [show i = Int.toNat y8 by omega]; omega) else c10 i (by omega)) (show g - (y8 + 1) ≤ ((n11 - 1 : Nat) : Int) by omega)
                · skip
                  refine to_iconst (dat dk_X0_begins 49 rfl) ?_
                  exact to_zret rfl (dat dk_X0_begins 50 rfl) (by decide) (ri_mk (by decide) ⟨rfl, (by decide), (Or.inr ⟨rfl, fun e => by have z := e.2 (Int.toNat y8) (by omega); omega⟩)⟩)
        exact lp40_n11 (g - (0 : Int)).toNat 0 (by decide) (show 0 ≤ (0 : Int) ∧ (0 : Int) ≤ g by omega) (fun i hi => absurd hi (by omega)) (by omega)
      · skip
        refine to_iconst (dat dk_X0_begins 14 rfl) ?_
        exact to_zret rfl (dat dk_X0_begins 15 rfl) (by decide) (ri_mk (by decide) ⟨rfl, (by decide), (by exfalso; omega)⟩)
abbrev Q_X0_find_v20x (h : Hp) (g : Int) : Option V → Hp → Nat → Nat → Prop := RI (fun x H => h = H ∧ ((x = -1 ∧ ∀ k : Int, 0 ≤ k → k < bE H → ¬ EqB H k (H.2.2 7) g) ∨ (0 ≤ x ∧ x < bE H ∧ EqB H x (H.2.2 7) g)))
set_option maxRecDepth 100000 in
theorem ct_X0_find_v20x (l : Launch) (h : Hp) (hI : Inv h) (g : Int) (hg : I32 g) (g0 : BkW h 20 80) (g1 : BI h) (g2 : 0 ≤ g ∧ g ≤ h.2.2 6 1) : Ct l D_X0_find 2 48 [.inr (.inr 20), .inr (.inr 6), .inl 0, .inl g] h (Q_X0_find_v20x h g) := by
  refine ct_of pn_X0_find (Nat.le_of_ble_eq_true rfl) ?_
  show To l E_X0_find (0, [(0, .inr (.inr 20)), (1, .inr (.inr 6)), (2, .inl 0), (3, .inl g)], [], h, 0, 0) _
  obtain ⟨nx0, sta0, rd0, rw0, nn0, ns0, nr0, nw0, r0, kn0⟩ := id g0
  obtain ⟨⟨a01, a02, a03, a04⟩, ⟨u01, u02, u03, u04⟩, w01, w02, w03, w04⟩ := id r0
  obtain ⟨b01, b02, b03, b04, b05, b06, b07⟩ := id kn0
  have lu01 := hI.lenM u01
  have lu02 := hI.lenM u02
  have lu03 := hI.lenM u03
  have lu04 := hI.lenM u04
  have zE : h.2.2 20 5 = bE h := rfl
  have zst : ∀ k : Int, st_ h k = h.2.2 sta0 k.toNat := fun k => by unfold st_; rw [a02, Int.toNat_natCast]
  have znx : ∀ k : Int, nx_ h k = h.2.2 nx0 k.toNat := fun k => by unfold nx_; rw [a01, Int.toNat_natCast]
  have zby : ∀ k : Int, by_ h k = h.2.2 rw0 k.toNat := fun k => by unfold by_; rw [a04, Int.toNat_natCast]
  have zlen : len h (h.2.2 20 4).toNat = (nw0 : Int) := by rw [a04, Int.toNat_natCast]; exact len_of u04
  refine to_aload_n (dat dk_X0_find 0 rfl) rfl (to_iload_n (dat dk_X0_find 1 rfl) rfl (to_iload_n (dat dk_X0_find 2 rfl) rfl ?_))
  refine to_cI ca_c1_36 (dat dk_X0_find 3 rfl) (ct_X0_slotOf_v6x l h hI g hg (show 0 ≤ g ∧ g ≤ h.2.2 6 1 by omega)) rfl trivial rfl (fun x1 h2 rx1 p3 => ?_)
  obtain ⟨rfl, p3_0, p3_1⟩ := p3
  refine to_istore (L' := [(0, .inr (.inr 20)), (1, .inr (.inr 6)), (2, .inl 0), (3, .inl g), (4, .inl x1)]) (dat dk_X0_find 4 rfl) (by decide) rfl ?_
  have jn36_n6 : ∀ (y4 : Int), (I32 y4) → (FI h (h.2.2 7) g y4) → To l E_X0_find (36, [(0, .inr (.inr 20)), (1, .inr (.inr 6)), (2, .inl 0), (3, .inl g), (4, .inl x1)], [.inl y4], h, 0, 0) (Q_X0_find_v20x h g) := by
    intro y4 ry4 c5
    refine to_istore (L' := [(0, .inr (.inr 20)), (1, .inr (.inr 6)), (2, .inl 0), (3, .inl g), (4, .inl x1), (5, .inl y4)]) (dat dk_X0_find 20 rfl) (by decide) rfl (to_iconst (dat dk_X0_find 21 rfl) (to_istore (L' := [(0, .inr (.inr 20)), (1, .inr (.inr 6)), (2, .inl 0), (3, .inl g), (4, .inl x1), (5, .inl y4), (6, .inl 0)]) (dat dk_X0_find 22 rfl) (by decide) rfl ?_))
    have lp41_n12 : ∀ (n12 : Nat) (y7 : Int) (y8 : Int), (I32 y7) → (I32 y8) → (FI h (h.2.2 7) g y7) → (0 ≤ y8) → (y7 + y8 < bE h) → (h.2.2 20 5 - y8 ≤ (n12 : Int)) → To l E_X0_find (41, [(0, .inr (.inr 20)), (1, .inr (.inr 6)), (2, .inl 0), (3, .inl g), (4, .inl x1), (5, .inl y7), (6, .inl y8)], [], h, 0, 0) (Q_X0_find_v20x h g) := by
      intro n12
      induction n12 using Nat.strongRecOn with
      | _ n12 ihn12 =>
      intro y7 y8 ry7 ry8 c9 c10 c11 c13
      have zf1 := (c9).1
      refine to_iload (dat dk_X0_find 23 rfl) rfl (to_aload_n (dat dk_X0_find 24 rfl) rfl ?_)
      obtain ⟨x14, ex14⟩ : ∃ y : Int, h.2.2 20 5 = y := ⟨_, rfl⟩
      have rx14 := hI.atR (a := 20) (j := 5) rfl
      rw [ex14] at rx14
      refine to_getIv (y := x14) ex14 g_c1_28 (dat dk_X0_find 25 rfl) (hI.atS rfl) ?_
      refine to_ige 107 (dat dk_X0_find 26 rfl) rfl ry8 (by omega) (fun c15 => ?_) (fun c15 => ?_)
      · skip
        refine to_iconst (dat dk_X0_find 57 rfl) ?_
        exact to_iret rfl (dat dk_X0_find 58 rfl) (ri_mk (by decide) ⟨rfl, (Or.inl ⟨rfl, FI.none c9 (by omega)⟩)⟩)
      · skip
        refine to_iload (dat dk_X0_find 27 rfl) rfl ?_
        refine to_iflt 107 (dat dk_X0_find 28 rfl) rfl ry7 (fun c16 => ?_) (fun c16 => ?_)
        · skip
          refine to_iconst (dat dk_X0_find 57 rfl) ?_
          exact to_iret rfl (dat dk_X0_find 58 rfl) (ri_mk (by decide) ⟨rfl, (Or.inl ⟨rfl, FI.none c9 (by omega)⟩)⟩)
        · skip
          refine to_iload (dat dk_X0_find 29 rfl) rfl (to_aload_n (dat dk_X0_find 30 rfl) rfl (to_getR nx0 g_c1_15 (dat dk_X0_find 31 rfl) (hI.atS rfl) a01 (to_alen (dat dk_X0_find 32 rfl) u01 (by decide) ?_)))
          refine to_ige 107 (dat dk_X0_find 33 rfl) rfl ry7 (by omega) (fun c17 => ?_) (fun c17 => ?_)
          · skip
            refine to_iconst (dat dk_X0_find 57 rfl) ?_
            exact to_iret rfl (dat dk_X0_find 58 rfl) (ri_mk (by decide) ⟨rfl, (Or.inl ⟨rfl, FI.none c9 (by omega)⟩)⟩)
          · skip
            refine to_aload_n (dat dk_X0_find 34 rfl) rfl (to_iload (dat dk_X0_find 35 rfl) rfl ?_)
            refine to_cI ca_c1_32 (dat dk_X0_find 36 rfl) (ct_X0_sizeOf_v20 l h hI y7 ry7 g0 g1 (show 0 ≤ y7 ∧ y7 < bE h by omega)) rfl ⟨_, _, rfl, (hI.atS rfl)⟩ rfl (fun x18 h19 rx18 p20 => ?_)
            obtain ⟨rfl, p20_0⟩ := p20
            refine to_iload_n (dat dk_X0_find 37 rfl) rfl (to_iload_n (dat dk_X0_find 38 rfl) rfl (to_isub (dat dk_X0_find 39 rfl) ?_))
            refine to_ine 92 (dat dk_X0_find 40 rfl) rfl rx18 (by omega) (fun c21 => ?_) (fun c21 => ?_)
            · skip
              have zn := (g1.2.2.2.1 y7 (by omega) (by omega)).1
              rw [znx] at zn
              refine to_aload_n (dat dk_X0_find 50 rfl) rfl (to_getR nx0 g_c1_15 (dat dk_X0_find 51 rfl) (hI.atS rfl) a01 (to_iload (dat dk_X0_find 52 rfl) rfl ?_))
              obtain ⟨x22, ex22⟩ : ∃ y : Int, h.2.2 nx0 (Int.toNat y7) = y := ⟨_, rfl⟩
              have rx22 := hI.con0 u01 rfl (Int.toNat y7)
              rw [ex22] at rx22
              refine to_ialdv ex22 (dat dk_X0_find 53 rfl) u01 rfl (hI.lenN u01) (by omega) (to_istore (L' := [(0, .inr (.inr 20)), (1, .inr (.inr 6)), (2, .inl 0), (3, .inl g), (4, .inl x1), (5, .inl x22), (6, .inl y8)]) (dat dk_X0_find 54 rfl) (by decide) rfl (to_iinc (L' := [(0, .inr (.inr 20)), (1, .inr (.inr 6)), (2, .inl 0), (3, .inl g), (4, .inl x1), (5, .inl x22), (6, .inl (y8 + 1))]) (dat dk_X0_find 55 rfl) rfl (by decide) rfl (to_goto (dat dk_X0_find 56 rfl) rfl ?_)))
              exact ihn12 (n12 - 1) (by omega) x22 (y8 + 1) rx22 (by omega) (by have z := FI.go g1 c9 (by omega) (fun e => by have z := e.1; have z2 := p20_0; omega); rw [znx, ex22] at z; exact z) (show 0 ≤ (y8 + 1) by omega) (show x22 + (y8 + 1) < bE h by omega) (show h.2.2 20 5 - (y8 + 1) ≤ ((n12 - 1 : Nat) : Int) by omega)
            · skip
              refine to_aload_n (dat dk_X0_find 41 rfl) rfl (to_iload (dat dk_X0_find 42 rfl) rfl (to_aload_n (dat dk_X0_find 43 rfl) rfl (to_iload_n (dat dk_X0_find 44 rfl) rfl (to_iload_n (dat dk_X0_find 45 rfl) rfl ?_))))
              refine to_cI ca_c1_40 (dat dk_X0_find 46 rfl) (ct_X0_begins_v20 l h hI y7 ry7 g hg g0 g1 (show 0 ≤ y7 ∧ y7 < bE h by omega) (show 0 ≤ g ∧ g ≤ h.2.2 6 1 by omega) (show tn h y7 = g by omega)) rfl ⟨_, _, rfl, (hI.atS rfl)⟩ rfl (fun x23 h24 rx23 p25 => ?_)
              obtain ⟨rfl, zx23, p25_0⟩ := p25
              refine to_ifeq 92 (dat dk_X0_find 47 rfl) rfl rx23 (fun c26 => ?_) (fun c26 => ?_)
              · skip
                have zn := (g1.2.2.2.1 y7 (by omega) (by omega)).1
                rw [znx] at zn
                refine to_aload_n (dat dk_X0_find 50 rfl) rfl (to_getR nx0 g_c1_15 (dat dk_X0_find 51 rfl) (hI.atS rfl) a01 (to_iload (dat dk_X0_find 52 rfl) rfl ?_))
                obtain ⟨x27, ex27⟩ : ∃ y : Int, h.2.2 nx0 (Int.toNat y7) = y := ⟨_, rfl⟩
                have rx27 := hI.con0 u01 rfl (Int.toNat y7)
                rw [ex27] at rx27
                refine to_ialdv ex27 (dat dk_X0_find 53 rfl) u01 rfl (hI.lenN u01) (by omega) (to_istore (L' := [(0, .inr (.inr 20)), (1, .inr (.inr 6)), (2, .inl 0), (3, .inl g), (4, .inl x1), (5, .inl x27), (6, .inl y8)]) (dat dk_X0_find 54 rfl) (by decide) rfl (to_iinc (L' := [(0, .inr (.inr 20)), (1, .inr (.inr 6)), (2, .inl 0), (3, .inl g), (4, .inl x1), (5, .inl x27), (6, .inl (y8 + 1))]) (dat dk_X0_find 55 rfl) rfl (by decide) rfl (to_goto (dat dk_X0_find 56 rfl) rfl ?_)))
                exact ihn12 (n12 - 1) (by omega) x27 (y8 + 1) rx27 (by omega) (by have z := FI.go g1 c9 (by omega) ((p25_0).resolve_left (fun q => absurd q.1 (by omega))).2; rw [znx, ex27] at z; exact z) (show 0 ≤ (y8 + 1) by omega) (show x27 + (y8 + 1) < bE h by omega) (show h.2.2 20 5 - (y8 + 1) ≤ ((n12 - 1 : Nat) : Int) by omega)
              · skip
                refine to_iload (dat dk_X0_find 48 rfl) rfl ?_
                exact to_iret rfl (dat dk_X0_find 49 rfl) (ri_mk ry7 ⟨rfl, (Or.inr ⟨by omega, by omega, ((p25_0).resolve_right (fun q => absurd q.1 (by omega))).2⟩)⟩)
    exact lp41_n12 (h.2.2 20 5 - (0 : Int)).toNat y4 0 ry4 (by decide) c5 (show 0 ≤ (0 : Int) by omega) (by have z := (c5).1; omega) (by omega)
  refine to_iload (dat dk_X0_find 5 rfl) rfl ?_
  refine to_iflt 35 (dat dk_X0_find 6 rfl) rfl rx1 (fun c28 => ?_) (fun c28 => ?_)
  · skip
    refine to_iconst (dat dk_X0_find 19 rfl) ?_
    exact jn36_n6 (-1) (by decide) (by exfalso; omega)
  · skip
    refine to_iload (dat dk_X0_find 7 rfl) rfl (to_aload_n (dat dk_X0_find 8 rfl) rfl (to_getR 21 g_c1_11 (dat dk_X0_find 9 rfl) (hI.atS rfl) (hI.atE rfl) (to_alen (dat dk_X0_find 10 rfl) (hI.atS rfl) (by decide) ?_)))
    refine to_ige 35 (dat dk_X0_find 11 rfl) rfl rx1 (by decide) (fun c29 => ?_) (fun c29 => ?_)
    · skip
      refine to_iconst (dat dk_X0_find 19 rfl) ?_
      exact jn36_n6 (-1) (by decide) (by exfalso; omega)
    · skip
      refine to_aload_n (dat dk_X0_find 12 rfl) rfl (to_getR 21 g_c1_11 (dat dk_X0_find 13 rfl) (hI.atS rfl) (hI.atE rfl) (to_iload (dat dk_X0_find 14 rfl) rfl ?_))
      obtain ⟨x30, ex30⟩ : ∃ y : Int, h.2.2 21 (Int.toNat x1) = y := ⟨_, rfl⟩
      have rx30 := hI.atR (a := 21) (j := Int.toNat x1) rfl
      rw [ex30] at rx30
      refine to_ialdv ex30 (dat dk_X0_find 15 rfl) (hI.atS rfl) rfl (by decide) (by omega) ?_
      have zhd := (g1.2.2.1 x1 (by omega) (by omega)).1
      unfold hd_ at zhd; rw [ex30] at zhd
      refine to_iconst (dat dk_X0_find 16 rfl) (to_isub (dat dk_X0_find 17 rfl) (to_goto (dat dk_X0_find 18 rfl) rfl ?_))
      exact jn36_n6 (x30 - 1) (by omega) (show FI h (h.2.2 7) g (x30 - 1) from (by have z := FI.s g1 (r := h.2.2 7) (n := g) p3_0 ⟨by omega, by omega⟩; unfold hd_ at z; rw [ex30] at z; exact z))
