/-! Contracts, by program. -/
abbrev Q_X7_takeWords (h : Hp) (m : Int) : Option V → Hp → Nat → Nat → Prop := RVa (fun H mc ms => Inv H ∧ Fr [999, 8, 9, 10, 11, 13, 356, 316, 376, 32, 37, 41] h H ∧ (ENL h H mc ms (H.2.2 32 13 - h.2.2 32 13) (1200) (0)) ∧ (h.2.2 32 13 ≤ H.2.2 32 13 ∧ H.2.2 32 13 - h.2.2 32 13 ≤ m))
set_option maxRecDepth 100000 in
set_option maxHeartbeats 4000000 in
theorem ct_X7_takeWords (l : Launch) (h : Hp) (hI : Inv h) (m : Int) (hm : I32 m) (g0 : Bks h) (g1 : WT h ≤ 9300000) (g2 : ET h ≤ 3300000) (g3 : h.1 ≤ 840000) (g4 : 0 ≤ m) : Ct l D_X7_takeWords 4 153 [.inr (.inr 32), .inl m] h (Q_X7_takeWords h m) := by
  refine ct_of pn_X7_takeWords (Nat.le_of_ble_eq_true rfl) ?_
  show To l E_X7_takeWords (0, [(0, .inr (.inr 32)), (1, .inl m)], [], h, 0, 0) _
  have e00 : ENL h h 0 0 0 0 0 := ENL.rf g0 (by decide) (by decide) (by decide)
  obtain ⟨x1, ex1⟩ : ∃ y : Int, h.2.2 32 13 = y := ⟨_, rfl⟩
  have rx1 := hI.atR (a := 32) (j := 13) rfl
  rw [ex1] at rx1
  obtain ⟨x2, ex2⟩ : ∃ y : Int, h.2.2 35 1 = y := ⟨_, rfl⟩
  have rx2 := hI.atR (a := 35) (j := 1) rfl
  rw [ex2] at rx2
  refine to_iconst (dat dk_X7_takeWords 0 rfl) (to_istore_n (L' := [(0, .inr (.inr 32)), (1, .inl m), (2, .inl 0)]) (dat dk_X7_takeWords 1 rfl) (by decide) rfl (to_iconst (dat dk_X7_takeWords 2 rfl) (to_istore_n (L' := [(0, .inr (.inr 32)), (1, .inl m), (2, .inl 0), (3, .inl 0)]) (dat dk_X7_takeWords 3 rfl) (by decide) rfl ?_)))
  have lp4_n12 : ∀ (n12 : Nat) (y3 : Int) (y4 : Int) (h5 : Hp) (ka6 : Nat) (za7 : Nat), (I32 y3) → (I32 y4) → (Inv h5) → (Fr [999, 8, 9, 10, 11, 13, 356, 316, 376, 32, 37, 41] h h5) → (0 ≤ y4 ∧ y4 ≤ m ∧ h5.2.2 32 13 - h.2.2 32 13 ≤ y4) → (0 ≤ y3 ∧ y3 ≤ h5.2.2 35 1) → (h.2.2 32 13 ≤ h5.2.2 32 13) → (ENL h h5 ka6 za7 (h5.2.2 32 13 - h.2.2 32 13) (y3) (0)) → (m - y4 ≤ (n12 : Int)) → To l E_X7_takeWords (4, [(0, .inr (.inr 32)), (1, .inl m), (2, .inl y3), (3, .inl y4)], [], h5, ka6, za7) (Q_X7_takeWords h m) := by
    intro n12
    induction n12 using Nat.strongRecOn with
    | _ n12 ihn12 =>
    intro y3 y4 h5 ka6 za7 ry3 ry4 Ih5 fh5 c8 c9 c10 c11 c13
    obtain ⟨x14, ex14⟩ : ∃ y : Int, h5.2.2 32 13 = y := ⟨_, rfl⟩
    have rx14 := Ih5.atR (a := 32) (j := 13) rfl
    rw [ex14] at rx14
    have e15 : h5.2.2 35 1 = x2 := ((Fr.get fh5 (by have := hI.1.1; omega) rfl).trans ex2)
    refine to_iload_n (dat dk_X7_takeWords 4 rfl) rfl (to_iload_n (dat dk_X7_takeWords 5 rfl) rfl ?_)
    refine to_ige 96 (dat dk_X7_takeWords 6 rfl) rfl ry4 hm (fun c16 => ?_) (fun c16 => ?_)
    · skip
      exact to_vret rfl (dat dk_X7_takeWords 50 rfl) (rv_mka ⟨Ih5, fh5, (ENL.mono c11 (by omega) (by omega) (by omega)), (show h.2.2 32 13 ≤ h5.2.2 32 13 ∧ h5.2.2 32 13 - h.2.2 32 13 ≤ m by omega)⟩)
    · skip
      refine to_aload_n (dat dk_X7_takeWords 7 rfl) rfl (to_getIv (y := x14) ex14 g_c8_82 (dat dk_X7_takeWords 8 rfl) (Ih5.atS rfl) (to_aload_n (dat dk_X7_takeWords 9 rfl) rfl (to_getR 41 g_c8_29 (dat dk_X7_takeWords 10 rfl) (Ih5.atS rfl) (Ih5.atE rfl) (to_alen (dat dk_X7_takeWords 11 rfl) (Ih5.atS rfl) (by decide) ?_))))
      refine to_ige 96 (dat dk_X7_takeWords 12 rfl) rfl (by omega) (by decide) (fun c17 => ?_) (fun c17 => ?_)
      · skip
        exact to_vret rfl (dat dk_X7_takeWords 50 rfl) (rv_mka ⟨Ih5, fh5, (ENL.mono c11 (by omega) (by omega) (by omega)), (show h.2.2 32 13 ≤ h5.2.2 32 13 ∧ h5.2.2 32 13 - h.2.2 32 13 ≤ m by omega)⟩)
      · skip
        refine to_aload_n (dat dk_X7_takeWords 13 rfl) rfl (to_getR 35 g_c8_20 (dat dk_X7_takeWords 14 rfl) (Ih5.atS rfl) (Ih5.atE rfl) (to_iload_n (dat dk_X7_takeWords 15 rfl) rfl (to_aload_n (dat dk_X7_takeWords 16 rfl) rfl (to_getR 35 g_c8_20 (dat dk_X7_takeWords 17 rfl) (Ih5.atS rfl) (Ih5.atE rfl) ?_))))
        refine to_cI ca_c8_64 (dat dk_X7_takeWords 18 rfl) (ct_X1_size l h5 Ih5 35 rfl) rfl ⟨_, _, rfl, (Ih5.atS rfl)⟩ rfl (fun x18 h19 rx18 p20 => ?_)
        obtain ⟨rfl, p20_0⟩ := p20
        refine to_aload_n (dat dk_X7_takeWords 19 rfl) rfl (to_getR 37 g_c8_23 (dat dk_X7_takeWords 20 rfl) (Ih5.atS rfl) (Ih5.atE rfl) ?_)
        refine to_cI ca_c8_114 (dat dk_X7_takeWords 21 rfl) (ct_X1_nextWord l h5 Ih5 35 rfl y3 ry3 x18 rx18 37 rfl) rfl ⟨_, _, rfl, (Ih5.atS rfl)⟩ rfl (fun x21 h22 rx21 p23 => ?_)
        obtain ⟨Ih22, fh22, p23_0, p23_1, p23_2⟩ := p23
        have f24 : Fr [999, 8, 9, 10, 11, 13, 356, 316, 376, 32, 37, 41] h h22 := Fr.sub fh5 fh22 rfl
        have e25 : ENL h h22 ka6 za7 (h5.2.2 32 13 - h.2.2 32 13) (y3) (0) := ENL.fr c11 fh22 Ih5 rfl
        obtain ⟨x26, ex26⟩ : ∃ y : Int, h22.2.2 37 1 = y := ⟨_, rfl⟩
        have rx26 := Ih22.atR (a := 37) (j := 1) rfl
        rw [ex26] at rx26
        refine to_istore_n (L' := [(0, .inr (.inr 32)), (1, .inl m), (2, .inl x21), (3, .inl y4)]) (dat dk_X7_takeWords 22 rfl) (by decide) rfl (to_aload_n (dat dk_X7_takeWords 23 rfl) rfl (to_getR 37 g_c8_23 (dat dk_X7_takeWords 24 rfl) (Ih22.atS rfl) (Ih22.atE rfl) ?_))
        refine to_cI ca_c8_64 (dat dk_X7_takeWords 25 rfl) (ct_X1_size l h22 Ih22 37 rfl) rfl ⟨_, _, rfl, (Ih22.atS rfl)⟩ rfl (fun x27 h28 rx27 p29 => ?_)
        obtain ⟨rfl, p29_0⟩ := p29
        refine to_ifne 52 (dat dk_X7_takeWords 26 rfl) rfl rx27 (fun c30 => ?_) (fun c30 => ?_)
        · skip
          refine to_aload_n (dat dk_X7_takeWords 28 rfl) rfl (to_getR 41 g_c8_29 (dat dk_X7_takeWords 29 rfl) (Ih22.atS rfl) (Ih22.atE rfl) (to_aload_n (dat dk_X7_takeWords 30 rfl) rfl (to_getIv (y := x14) ((Fr.get fh22 (by have := Ih5.1.1; omega) rfl).trans ex14) g_c8_82 (dat dk_X7_takeWords 31 rfl) (Ih22.atS rfl) (to_aload_n (dat dk_X7_takeWords 32 rfl) rfl (to_getR 8 g_c8_48 (dat dk_X7_takeWords 33 rfl) (Ih22.atS rfl) (Ih22.atE rfl) (to_aload_n (dat dk_X7_takeWords 34 rfl) rfl (to_getR 37 g_c8_23 (dat dk_X7_takeWords 35 rfl) (Ih22.atS rfl) (Ih22.atE rfl) (to_iconst (dat dk_X7_takeWords 36 rfl) (to_aload_n (dat dk_X7_takeWords 37 rfl) rfl (to_getR 37 g_c8_23 (dat dk_X7_takeWords 38 rfl) (Ih22.atS rfl) (Ih22.atE rfl) ?_))))))))))
          refine to_cI ca_c8_64 (dat dk_X7_takeWords 39 rfl) (ct_X1_size l h22 Ih22 37 rfl) rfl ⟨_, _, rfl, (Ih22.atS rfl)⟩ rfl (fun x31 h32 rx31 p33 => ?_)
          obtain ⟨rfl, p33_0⟩ := p33
          have q34 := (id e25).2
          have q35 := Bks.each Ih22 e25.1
          refine to_cIa ca_c8_118 (dat dk_X7_takeWords 40 rfl) (ct_X0_enter_v8 l h22 Ih22 37 rfl 0 (by decide) x31 rx31 (show 0 ≤ (0 : Int) ∧ (0 : Int) ≤ x31 ∧ x31 - (0 : Int) ≤ 60 ∧ x31 ≤ 1300 by omega) (e25.1.1) (show WB h22 8 ≤ 10000000 by omega) (show h22.2.2 8 5 ≤ 4000000 by omega) (show h22.1 + 4 ≤ 900000 by omega)) rfl ⟨_, _, rfl, (Ih22.atS rfl)⟩ rfl (fun x36 h37 mcx36 msx36 rx36 p38 => ?_)
          obtain ⟨Ih37, fh37, p38_0⟩ := p38
          have f39 : Fr [999, 8, 9, 10, 11, 13, 356, 316, 376, 32, 37, 41] h h37 := Fr.sub f24 fh37 rfl
          have e40 : ENL h h37 (ka6 + mcx36) (za7 + msx36) ((h5.2.2 32 13 - h.2.2 32 13) + 1) ((y3) + (x31 - (0 : Int))) ((0) + 0) := ENL.tr e25 (EN.l8 p38_0 fh37 Ih22 e25.1 rfl rfl) rfl rfl (by omega) (by omega) (by omega)
          refine to_iastw (dat dk_X7_takeWords 41 rfl) (Ih37.atS rfl) rfl (by decide) (by omega) ?_
          intro h43 wh43
          have I41 : Inv h43 := by rw [wh43]; exact Ih37.put (a := 41) (j := (Int.toNat x14)) (x := x36) (-2147483648) (2147483647) rfl rfl (show (-2147483648 : Int) ≤ x36 ∧ x36 ≤ 2147483647 by omega)
          have f42 : Fr [999, 8, 9, 10, 11, 13, 356, 316, 376, 32, 37, 41] h h43 := by rw [wh43]; exact Fr.putF (a := 41) (j := (Int.toNat x14)) (x := x36) f39 rfl
          have e44 : ENL h h43 (ka6 + mcx36) (za7 + msx36) ((h5.2.2 32 13 - h.2.2 32 13) + 1) ((y3) + (x31 - (0 : Int))) ((0) + 0) := by rw [wh43]; exact ENL.fr e40 (fr_wr [41] rfl) Ih37 rfl
          refine to_aload_n (dat dk_X7_takeWords 42 rfl) rfl (to_dup (dat dk_X7_takeWords 43 rfl) rfl (to_getIv (y := x14) (by rw [wh43]; exact (show h37.2.2 32 13 = x14 from ((Fr.get fh37 (by have := Ih22.1.1; omega) rfl).trans ((Fr.get fh22 (by have := Ih5.1.1; omega) rfl).trans ex14)))) g_c8_82 (dat dk_X7_takeWords 44 rfl) (I41.atS rfl) (to_iconst (dat dk_X7_takeWords 45 rfl) (to_iadd (dat dk_X7_takeWords 46 rfl) (to_putIw p_c8_82 (dat dk_X7_takeWords 47 rfl) (I41.atS rfl) ?_)))))
          intro h47 wh47
          have I45 : Inv h47 := by rw [wh47]; exact I41.put (a := 32) (j := 13) (x := (x14 + 1)) (0) (1200) rfl rfl (show (0 : Int) ≤ (x14 + 1) ∧ (x14 + 1) ≤ 1200 by omega)
          have f46 : Fr [999, 8, 9, 10, 11, 13, 356, 316, 376, 32, 37, 41] h h47 := by rw [wh47]; exact Fr.putF (a := 32) (j := 13) (x := (x14 + 1)) f42 rfl
          have e48 : ENL h h47 (ka6 + mcx36) (za7 + msx36) ((h5.2.2 32 13 - h.2.2 32 13) + 1) ((y3) + (x31 - (0 : Int))) ((0) + 0) := by rw [wh47]; exact ENL.fr e44 (fr_wr [32] rfl) I41 rfl
          refine to_iinc (L' := [(0, .inr (.inr 32)), (1, .inl m), (2, .inl x21), (3, .inl (y4 + 1))]) (dat dk_X7_takeWords 48 rfl) rfl (by decide) rfl (to_goto (dat dk_X7_takeWords 49 rfl) rfl ?_)
          have e49 : h47.2.2 32 13 = (x14 + 1) := (by rw [wh47]; exact wr_eq)
          have e50 : h47.2.2 35 1 = x2 := (by rw [wh47]; exact (show h43.2.2 35 1 = x2 from (by rw [wh43]; exact (show h37.2.2 35 1 = x2 from ((Fr.get fh37 (by have := Ih22.1.1; omega) rfl).trans ((Fr.get fh22 (by have := Ih5.1.1; omega) rfl).trans e15))))))
          exact ihn12 (n12 - 1) (by omega) x21 (y4 + 1) h47 (ka6 + mcx36) (za7 + msx36) rx21 (by omega) I45 f46 (show 0 ≤ (y4 + 1) ∧ (y4 + 1) ≤ m ∧ h47.2.2 32 13 - h.2.2 32 13 ≤ (y4 + 1) by omega) (show 0 ≤ x21 ∧ x21 ≤ h47.2.2 35 1 by omega) (show h.2.2 32 13 ≤ h47.2.2 32 13 by omega) (ENL.mono e48 (by omega) (by omega) (by omega)) (show m - (y4 + 1) ≤ ((n12 - 1 : Nat) : Int) by omega)
        · skip
          have e51 : h22.2.2 32 13 = x14 := ((Fr.get fh22 (by have := Ih5.1.1; omega) rfl).trans ex14)
          exact to_vret rfl (dat dk_X7_takeWords 27 rfl) (rv_mka ⟨Ih22, f24, (ENL.mono e25 (by omega) (by omega) (by omega)), (show h.2.2 32 13 ≤ h22.2.2 32 13 ∧ h22.2.2 32 13 - h.2.2 32 13 ≤ m by omega)⟩)
  exact lp4_n12 (m - (0 : Int)).toNat 0 0 h 0 0 (by decide) (by decide) hI (Fr.rf _ _) (show 0 ≤ (0 : Int) ∧ (0 : Int) ≤ m ∧ h.2.2 32 13 - h.2.2 32 13 ≤ (0 : Int) by omega) (show 0 ≤ (0 : Int) ∧ (0 : Int) ≤ h.2.2 35 1 by omega) (show h.2.2 32 13 ≤ h.2.2 32 13 by omega) (ENL.mono e00 (by omega) (by omega) (by omega)) (by omega)
abbrev Q_X7_takeReferences (h : Hp) (m : Int) : Option V → Hp → Nat → Nat → Prop := RIa (fun x H mc ms => Inv H ∧ Fr [999, 14, 15, 16, 17, 19, 357, 317, 377, 42] h H ∧ (0 ≤ x ∧ x ≤ 16) ∧ (ENL h H mc ms (x) (60 * x) (0)))
set_option maxRecDepth 100000 in
set_option maxHeartbeats 4000000 in
theorem ct_X7_takeReferences (l : Launch) (h : Hp) (hI : Inv h) (m : Int) (hm : I32 m) (g0 : Bks h) (g1 : WT h ≤ 9400000) (g2 : ET h ≤ 3400000) (g3 : h.1 ≤ 850000) : Ct l D_X7_takeReferences 4 153 [.inr (.inr 32), .inl m] h (Q_X7_takeReferences h m) := by
  refine ct_of pn_X7_takeReferences (Nat.le_of_ble_eq_true rfl) ?_
  show To l E_X7_takeReferences (0, [(0, .inr (.inr 32)), (1, .inl m)], [], h, 0, 0) _
  have e00 : ENL h h 0 0 0 0 0 := ENL.rf g0 (by decide) (by decide) (by decide)
  obtain ⟨x1, ex1⟩ : ∃ y : Int, h.2.2 33 1 = y := ⟨_, rfl⟩
  have rx1 := hI.atR (a := 33) (j := 1) rfl
  rw [ex1] at rx1
  refine to_iconst (dat dk_X7_takeReferences 0 rfl) (to_istore_n (L' := [(0, .inr (.inr 32)), (1, .inl m), (2, .inl 0)]) (dat dk_X7_takeReferences 1 rfl) (by decide) rfl (to_iconst (dat dk_X7_takeReferences 2 rfl) (to_istore_n (L' := [(0, .inr (.inr 32)), (1, .inl m), (2, .inl 0), (3, .inl 0)]) (dat dk_X7_takeReferences 3 rfl) (by decide) rfl (to_iconst (dat dk_X7_takeReferences 4 rfl) (to_istore (L' := [(0, .inr (.inr 32)), (1, .inl m), (2, .inl 0), (3, .inl 0), (4, .inl 0)]) (dat dk_X7_takeReferences 5 rfl) (by decide) rfl ?_)))))
  have lp7_n12 : ∀ (n12 : Nat) (y2 : Int) (y3 : Int) (y4 : Int) (h5 : Hp) (ka6 : Nat) (za7 : Nat), (I32 y2) → (I32 y3) → (I32 y4) → (Inv h5) → (Fr [999, 14, 15, 16, 17, 19, 357, 317, 377, 42] h h5) → (0 ≤ y4) → (0 ≤ y2 ∧ y2 ≤ 16) → (0 ≤ y3 ∧ y3 ≤ 1201) → (ENL h h5 ka6 za7 (y2) (60 * y2) (0)) → (h5.2.2 33 1 - y4 ≤ (n12 : Int)) → To l E_X7_takeReferences (7, [(0, .inr (.inr 32)), (1, .inl m), (2, .inl y2), (3, .inl y3), (4, .inl y4)], [], h5, ka6, za7) (Q_X7_takeReferences h m) := by
    intro n12
    induction n12 using Nat.strongRecOn with
    | _ n12 ihn12 =>
    intro y2 y3 y4 h5 ka6 za7 ry2 ry3 ry4 Ih5 fh5 c8 c9 c10 c11 c13
    refine to_iload (dat dk_X7_takeReferences 6 rfl) rfl (to_aload_n (dat dk_X7_takeReferences 7 rfl) rfl (to_getR 33 g_c8_14 (dat dk_X7_takeReferences 8 rfl) (Ih5.atS rfl) (Ih5.atE rfl) ?_))
    have e14 : h5.2.2 33 1 = x1 := ((Fr.get fh5 (by have := hI.1.1; omega) rfl).trans ex1)
    refine to_cI ca_c8_64 (dat dk_X7_takeReferences 9 rfl) (ct_X1_size l h5 Ih5 33 rfl) rfl ⟨_, _, rfl, (Ih5.atS rfl)⟩ rfl (fun x15 h16 rx15 p17 => ?_)
    obtain ⟨rfl, p17_0⟩ := p17
    refine to_ige 138 (dat dk_X7_takeReferences 10 rfl) rfl ry4 rx15 (fun c18 => ?_) (fun c18 => ?_)
    · skip
      refine to_iload_n (dat dk_X7_takeReferences 72 rfl) rfl ?_
      exact to_iret rfl (dat dk_X7_takeReferences 73 rfl) (ri_mka ry2 ⟨Ih5, fh5, (show 0 ≤ y2 ∧ y2 ≤ 16 by omega), (ENL.mono c11 (by omega) (by omega) (by omega))⟩)
    · skip
      refine to_iload_n (dat dk_X7_takeReferences 11 rfl) rfl (to_iload_n (dat dk_X7_takeReferences 12 rfl) rfl ?_)
      refine to_ige 138 (dat dk_X7_takeReferences 13 rfl) rfl ry2 hm (fun c19 => ?_) (fun c19 => ?_)
      · skip
        refine to_iload_n (dat dk_X7_takeReferences 72 rfl) rfl ?_
        exact to_iret rfl (dat dk_X7_takeReferences 73 rfl) (ri_mka ry2 ⟨Ih5, fh5, (show 0 ≤ y2 ∧ y2 ≤ 16 by omega), (ENL.mono c11 (by omega) (by omega) (by omega))⟩)
      · skip
        refine to_iload_n (dat dk_X7_takeReferences 14 rfl) rfl (to_aload_n (dat dk_X7_takeReferences 15 rfl) rfl (to_getR 42 g_c8_33 (dat dk_X7_takeReferences 16 rfl) (Ih5.atS rfl) (Ih5.atE rfl) (to_alen (dat dk_X7_takeReferences 17 rfl) (Ih5.atS rfl) (by decide) ?_)))
        refine to_ige 138 (dat dk_X7_takeReferences 18 rfl) rfl ry2 (by decide) (fun c20 => ?_) (fun c20 => ?_)
        · skip
          refine to_iload_n (dat dk_X7_takeReferences 72 rfl) rfl ?_
          exact to_iret rfl (dat dk_X7_takeReferences 73 rfl) (ri_mka ry2 ⟨Ih5, fh5, (show 0 ≤ y2 ∧ y2 ≤ 16 by omega), (ENL.mono c11 (by omega) (by omega) (by omega))⟩)
        · skip
          refine to_aload_n (dat dk_X7_takeReferences 19 rfl) rfl (to_getR 33 g_c8_14 (dat dk_X7_takeReferences 20 rfl) (Ih5.atS rfl) (Ih5.atE rfl) (to_bipush (dat dk_X7_takeReferences 21 rfl) (by decide) (to_iload_n (dat dk_X7_takeReferences 22 rfl) rfl (to_aload_n (dat dk_X7_takeReferences 23 rfl) rfl (to_getR 33 g_c8_14 (dat dk_X7_takeReferences 24 rfl) (Ih5.atS rfl) (Ih5.atE rfl) ?_)))))
          refine to_cI ca_c8_64 (dat dk_X7_takeReferences 25 rfl) (ct_X1_size l h5 Ih5 33 rfl) rfl ⟨_, _, rfl, (Ih5.atS rfl)⟩ rfl (fun x21 h22 rx21 p23 => ?_)
          obtain ⟨rfl, p23_0⟩ := p23
          refine to_cI ca_c8_143 (dat dk_X7_takeReferences 26 rfl) (ct_X1_seek l h5 Ih5 33 rfl 60 (by decide) y3 ry3 x21 rx21) rfl ⟨_, _, rfl, (Ih5.atS rfl)⟩ rfl (fun x24 h25 rx24 p26 => ?_)
          obtain ⟨rfl, p26_0⟩ := p26
          refine to_istore (L' := [(0, .inr (.inr 32)), (1, .inl m), (2, .inl y2), (3, .inl y3), (4, .inl y4), (5, .inl x24)]) (dat dk_X7_takeReferences 27 rfl) (by decide) rfl ?_
          have jn80_n29 : ∀ (y27 : Int), (I32 y27) → (y27 = -1 ∨ (x24 ≤ y27 ∧ y27 < h5.2.2 33 1 ∧ 0 ≤ x24)) → To l E_X7_takeReferences (80, [(0, .inr (.inr 32)), (1, .inl m), (2, .inl y2), (3, .inl y3), (4, .inl y4), (5, .inl x24)], [.inl y27], h5, ka6, za7) (Q_X7_takeReferences h m) := by
            intro y27 ry27 c28
            refine to_istore (L' := [(0, .inr (.inr 32)), (1, .inl m), (2, .inl y2), (3, .inl y3), (4, .inl y4), (5, .inl x24), (6, .inl y27)]) (dat dk_X7_takeReferences 41 rfl) (by decide) rfl (to_iload (dat dk_X7_takeReferences 42 rfl) rfl (to_iconst (dat dk_X7_takeReferences 43 rfl) ?_))
            refine to_ine 90 (dat dk_X7_takeReferences 44 rfl) rfl ry27 (by decide) (fun c30 => ?_) (fun c30 => ?_)
            · skip
              refine to_aload_n (dat dk_X7_takeReferences 47 rfl) rfl (to_iload (dat dk_X7_takeReferences 48 rfl) rfl (to_iload (dat dk_X7_takeReferences 49 rfl) rfl ?_))
              refine to_cI ca_c8_223 (dat dk_X7_takeReferences 50 rfl) (ct_X7_isId l h5 Ih5 x24 rx24 y27 ry27 (show -1 ≤ x24 ∧ x24 ≤ 1201 by omega) (show -1 ≤ y27 ∧ y27 ≤ 1201 by omega)) rfl ⟨_, _, rfl, (Ih5.atS rfl)⟩ rfl (fun x31 h32 rx31 p33 => ?_)
              obtain ⟨rfl, zx31, p33_0⟩ := p33
              have rzx31 := z_lin zx31
              clear zx31
              clear rx31
              have rx31 := rzx31
              clear rzx31
              refine to_ifeq 127 (dat dk_X7_takeReferences 51 rfl) rfl (z_i32 rx31) (fun c34 => ?_) (fun c34 => ?_)
              · skip
                refine to_iload (dat dk_X7_takeReferences 66 rfl) rfl (to_iconst (dat dk_X7_takeReferences 67 rfl) (to_iadd (dat dk_X7_takeReferences 68 rfl) (to_istore_n (L' := [(0, .inr (.inr 32)), (1, .inl m), (2, .inl y2), (3, .inl (y27 + 1)), (4, .inl y4), (5, .inl x24), (6, .inl y27)]) (dat dk_X7_takeReferences 69 rfl) (by decide) rfl (to_iinc (L' := [(0, .inr (.inr 32)), (1, .inl m), (2, .inl y2), (3, .inl (y27 + 1)), (4, .inl (y4 + 1)), (5, .inl x24), (6, .inl y27)]) (dat dk_X7_takeReferences 70 rfl) rfl (by decide) rfl (to_goto (dat dk_X7_takeReferences 71 rfl) rfl ?_)))))
                refine to_pick [0, 1, 2, 3, 4] rfl ?_
                exact ihn12 (n12 - 1) (by omega) y2 (y27 + 1) (y4 + 1) h5 ka6 za7 ry2 (by omega) (by omega) Ih5 fh5 (show 0 ≤ (y4 + 1) by omega) (show 0 ≤ y2 ∧ y2 ≤ 16 by omega) (show 0 ≤ (y27 + 1) ∧ (y27 + 1) ≤ 1201 by omega) (ENL.mono c11 (by omega) (by omega) (by omega)) (show h5.2.2 33 1 - (y4 + 1) ≤ ((n12 - 1 : Nat) : Int) by omega)
              · skip
                replace c34 := z_one rx31 c34
                refine to_aload_n (dat dk_X7_takeReferences 52 rfl) rfl (to_getR 42 g_c8_33 (dat dk_X7_takeReferences 53 rfl) (Ih5.atS rfl) (Ih5.atE rfl) (to_iload_n (dat dk_X7_takeReferences 54 rfl) rfl (to_aload_n (dat dk_X7_takeReferences 55 rfl) rfl (to_getR 14 g_c8_52 (dat dk_X7_takeReferences 56 rfl) (Ih5.atS rfl) (Ih5.atE rfl) (to_aload_n (dat dk_X7_takeReferences 57 rfl) rfl (to_getR 33 g_c8_14 (dat dk_X7_takeReferences 58 rfl) (Ih5.atS rfl) (Ih5.atE rfl) (to_iload (dat dk_X7_takeReferences 59 rfl) rfl (to_iconst (dat dk_X7_takeReferences 60 rfl) (to_iadd (dat dk_X7_takeReferences 61 rfl) (to_iload (dat dk_X7_takeReferences 62 rfl) rfl ?_))))))))))
                have q35 := (id c11).2
                have q36 := Bks.each Ih5 c11.1
                refine to_cIa ca_c8_118 (dat dk_X7_takeReferences 63 rfl) (ct_X0_enter_v14 l h5 Ih5 33 rfl (x24 + 1) (by omega) y27 ry27 (show 0 ≤ (x24 + 1) ∧ (x24 + 1) ≤ y27 ∧ y27 - (x24 + 1) ≤ 60 ∧ y27 ≤ 1300 by omega) (c11.1.2.1) (show WB h5 14 ≤ 10000000 by omega) (show h5.2.2 14 5 ≤ 4000000 by omega) (show h5.1 + 4 ≤ 900000 by omega)) rfl ⟨_, _, rfl, (Ih5.atS rfl)⟩ rfl (fun x37 h38 mcx37 msx37 rx37 p39 => ?_)
                obtain ⟨Ih38, fh38, p39_0⟩ := p39
                have f40 : Fr [999, 14, 15, 16, 17, 19, 357, 317, 377, 42] h h38 := Fr.sub fh5 fh38 rfl
                have e41 : ENL h h38 (ka6 + mcx37) (za7 + msx37) ((y2) + 1) ((60 * y2) + (y27 - (x24 + 1))) ((0) + 0) := ENL.tr c11 (EN.l14 p39_0 fh38 Ih5 c11.1 rfl rfl) rfl rfl (by omega) (by omega) (by omega)
                refine to_iastw (dat dk_X7_takeReferences 64 rfl) (Ih38.atS rfl) rfl (by decide) (by omega) ?_
                intro h44 wh44
                have I42 : Inv h44 := by rw [wh44]; exact Ih38.put (a := 42) (j := (Int.toNat y2)) (x := x37) (-2147483648) (2147483647) rfl rfl (show (-2147483648 : Int) ≤ x37 ∧ x37 ≤ 2147483647 by omega)
                have f43 : Fr [999, 14, 15, 16, 17, 19, 357, 317, 377, 42] h h44 := by rw [wh44]; exact Fr.putF (a := 42) (j := (Int.toNat y2)) (x := x37) f40 rfl
                have e45 : ENL h h44 (ka6 + mcx37) (za7 + msx37) ((y2) + 1) ((60 * y2) + (y27 - (x24 + 1))) ((0) + 0) := by rw [wh44]; exact ENL.fr e41 (fr_wr [42] rfl) Ih38 rfl
                refine to_iinc (L' := [(0, .inr (.inr 32)), (1, .inl m), (2, .inl (y2 + 1)), (3, .inl y3), (4, .inl y4), (5, .inl x24), (6, .inl y27)]) (dat dk_X7_takeReferences 65 rfl) rfl (by decide) rfl (to_iload (dat dk_X7_takeReferences 66 rfl) rfl (to_iconst (dat dk_X7_takeReferences 67 rfl) (to_iadd (dat dk_X7_takeReferences 68 rfl) (to_istore_n (L' := [(0, .inr (.inr 32)), (1, .inl m), (2, .inl (y2 + 1)), (3, .inl (y27 + 1)), (4, .inl y4), (5, .inl x24), (6, .inl y27)]) (dat dk_X7_takeReferences 69 rfl) (by decide) rfl (to_iinc (L' := [(0, .inr (.inr 32)), (1, .inl m), (2, .inl (y2 + 1)), (3, .inl (y27 + 1)), (4, .inl (y4 + 1)), (5, .inl x24), (6, .inl y27)]) (dat dk_X7_takeReferences 70 rfl) rfl (by decide) rfl (to_goto (dat dk_X7_takeReferences 71 rfl) rfl ?_))))))
                refine to_pick [0, 1, 2, 3, 4] rfl ?_
                have e46 : h44.2.2 33 1 = x1 := (by rw [wh44]; exact (show h38.2.2 33 1 = x1 from ((Fr.get fh38 (by have := Ih5.1.1; omega) rfl).trans e14)))
                exact ihn12 (n12 - 1) (by omega) (y2 + 1) (y27 + 1) (y4 + 1) h44 (ka6 + mcx37) (za7 + msx37) (by omega) (by omega) (by omega) I42 f43 (show 0 ≤ (y4 + 1) by omega) (show 0 ≤ (y2 + 1) ∧ (y2 + 1) ≤ 16 by omega) (show 0 ≤ (y27 + 1) ∧ (y27 + 1) ≤ 1201 by omega) (ENL.mono e45 (by omega) (by omega) (by omega)) (show h44.2.2 33 1 - (y4 + 1) ≤ ((n12 - 1 : Nat) : Int) by omega)
            · skip
              refine to_iload_n (dat dk_X7_takeReferences 45 rfl) rfl ?_
              exact to_iret rfl (dat dk_X7_takeReferences 46 rfl) (ri_mka ry2 ⟨Ih5, fh5, (show 0 ≤ y2 ∧ y2 ≤ 16 by omega), (ENL.mono c11 (by omega) (by omega) (by omega))⟩)
          refine to_iload (dat dk_X7_takeReferences 28 rfl) rfl (to_iconst (dat dk_X7_takeReferences 29 rfl) ?_)
          refine to_ine 62 (dat dk_X7_takeReferences 30 rfl) rfl rx24 (by decide) (fun c47 => ?_) (fun c47 => ?_)
          · skip
            refine to_aload_n (dat dk_X7_takeReferences 33 rfl) rfl (to_getR 33 g_c8_14 (dat dk_X7_takeReferences 34 rfl) (Ih5.atS rfl) (Ih5.atE rfl) (to_bipush (dat dk_X7_takeReferences 35 rfl) (by decide) (to_iload (dat dk_X7_takeReferences 36 rfl) rfl (to_aload_n (dat dk_X7_takeReferences 37 rfl) rfl (to_getR 33 g_c8_14 (dat dk_X7_takeReferences 38 rfl) (Ih5.atS rfl) (Ih5.atE rfl) ?_)))))
            refine to_cI ca_c8_64 (dat dk_X7_takeReferences 39 rfl) (ct_X1_size l h5 Ih5 33 rfl) rfl ⟨_, _, rfl, (Ih5.atS rfl)⟩ rfl (fun x48 h49 rx48 p50 => ?_)
            obtain ⟨rfl, p50_0⟩ := p50
            refine to_cI ca_c8_143 (dat dk_X7_takeReferences 40 rfl) (ct_X1_seek l h5 Ih5 33 rfl 62 (by decide) x24 rx24 x48 rx48) rfl ⟨_, _, rfl, (Ih5.atS rfl)⟩ rfl (fun x51 h52 rx51 p53 => ?_)
            obtain ⟨rfl, p53_0⟩ := p53
            exact jn80_n29 x51 rx51 (show x51 = -1 ∨ (x24 ≤ x51 ∧ x51 < h5.2.2 33 1 ∧ 0 ≤ x24) by omega)
          · skip
            refine to_iconst (dat dk_X7_takeReferences 31 rfl) (to_goto (dat dk_X7_takeReferences 32 rfl) rfl ?_)
            exact jn80_n29 (-1) (by decide) (show (-1 : Int) = -1 ∨ (x24 ≤ (-1 : Int) ∧ (-1 : Int) < h5.2.2 33 1 ∧ 0 ≤ x24) by omega)
  exact lp7_n12 (h.2.2 33 1 - (0 : Int)).toNat 0 0 0 h 0 0 (by decide) (by decide) (by decide) hI (Fr.rf _ _) (show 0 ≤ (0 : Int) by omega) (show 0 ≤ (0 : Int) ∧ (0 : Int) ≤ 16 by omega) (show 0 ≤ (0 : Int) ∧ (0 : Int) ≤ 1201 by omega) (ENL.mono e00 (by omega) (by omega) (by omega)) (by omega)
abbrev Q_X7_readId (h : Hp) : Option V → Hp → Nat → Nat → Prop := RIa (fun x H mc ms => Inv H ∧ Fr [999, 14, 15, 16, 17, 19, 357, 317, 377, 33] h H ∧ (ENL h H mc ms (1) (60) (0)))
set_option maxRecDepth 100000 in
set_option maxHeartbeats 4000000 in
theorem ct_X7_readId (l : Launch) (h : Hp) (hI : Inv h) (g0 : Bks h) (g1 : WT h ≤ 9400000) (g2 : ET h ≤ 3400000) (g3 : h.1 ≤ 850000) : Ct l D_X7_readId 4 153 [.inr (.inr 32)] h (Q_X7_readId h) := by
  refine ct_of pn_X7_readId (Nat.le_of_ble_eq_true rfl) ?_
  show To l E_X7_readId (0, [(0, .inr (.inr 32))], [], h, 0, 0) _
  have e00 : ENL h h 0 0 0 0 0 := ENL.rf g0 (by decide) (by decide) (by decide)
  obtain ⟨x1, ex1⟩ : ∃ y : Int, h.2.2 33 1 = y := ⟨_, rfl⟩
  have rx1 := hI.atR (a := 33) (j := 1) rfl
  rw [ex1] at rx1
  refine to_aload_n (dat dk_X7_readId 0 rfl) rfl (to_getR 46 g_c8_60 (dat dk_X7_readId 1 rfl) (hI.atS rfl) (hI.atE rfl) (to_iconst (dat dk_X7_readId 2 rfl) (to_aload_n (dat dk_X7_readId 3 rfl) rfl (to_getR 33 g_c8_14 (dat dk_X7_readId 4 rfl) (hI.atS rfl) (hI.atE rfl) ?_))))
  refine to_cV ca_c8_86 (dat dk_X7_readId 5 rfl) (ct_X4_writeValue l h hI 4 (by decide) 33 rfl) rfl ⟨_, _, rfl, (hI.atS rfl)⟩ rfl (fun h3 p4 => ?_)
  obtain ⟨Ih3, fh3⟩ := p4
  have f5 : Fr [999, 14, 15, 16, 17, 19, 357, 317, 377, 33] h h3 := Fr.sub (Fr.rf _ _) fh3 rfl
  have e6 : ENL h h3 0 0 0 0 0 := ENL.fr e00 fh3 hI rfl
  refine to_aload_n (dat dk_X7_readId 6 rfl) rfl (to_getR 33 g_c8_14 (dat dk_X7_readId 7 rfl) (Ih3.atS rfl) (Ih3.atE rfl) (to_bipush (dat dk_X7_readId 8 rfl) (by decide) (to_iconst (dat dk_X7_readId 9 rfl) (to_aload_n (dat dk_X7_readId 10 rfl) rfl (to_getR 33 g_c8_14 (dat dk_X7_readId 11 rfl) (Ih3.atS rfl) (Ih3.atE rfl) ?_)))))
  obtain ⟨x7, ex7⟩ : ∃ y : Int, h3.2.2 33 1 = y := ⟨_, rfl⟩
  have rx7 := Ih3.atR (a := 33) (j := 1) rfl
  rw [ex7] at rx7
  refine to_cI ca_c8_64 (dat dk_X7_readId 12 rfl) (ct_X1_size l h3 Ih3 33 rfl) rfl ⟨_, _, rfl, (Ih3.atS rfl)⟩ rfl (fun x8 h9 rx8 p10 => ?_)
  obtain ⟨rfl, p10_0⟩ := p10
  refine to_cI ca_c8_143 (dat dk_X7_readId 13 rfl) (ct_X1_seek l h3 Ih3 33 rfl 60 (by decide) 0 (by decide) x8 rx8) rfl ⟨_, _, rfl, (Ih3.atS rfl)⟩ rfl (fun x11 h12 rx11 p13 => ?_)
  obtain ⟨rfl, p13_0⟩ := p13
  refine to_istore_n (L' := [(0, .inr (.inr 32)), (1, .inl x11)]) (dat dk_X7_readId 14 rfl) (by decide) rfl ?_
  have jn56_n16 : ∀ (y14 : Int), (I32 y14) → (y14 = -1 ∨ (x11 ≤ y14 ∧ y14 < h3.2.2 33 1 ∧ 0 ≤ x11)) → To l E_X7_readId (56, [(0, .inr (.inr 32)), (1, .inl x11)], [.inl y14], h3, 0, 0) (Q_X7_readId h) := by
    intro y14 ry14 c15
    refine to_istore_n (L' := [(0, .inr (.inr 32)), (1, .inl x11), (2, .inl y14)]) (dat dk_X7_readId 28 rfl) (by decide) rfl (to_aload_n (dat dk_X7_readId 29 rfl) rfl (to_iload_n (dat dk_X7_readId 30 rfl) rfl (to_iload_n (dat dk_X7_readId 31 rfl) rfl ?_)))
    refine to_cI ca_c8_223 (dat dk_X7_readId 32 rfl) (ct_X7_isId l h3 Ih3 x11 rx11 y14 ry14 (show -1 ≤ x11 ∧ x11 ≤ 1201 by omega) (show -1 ≤ y14 ∧ y14 ≤ 1201 by omega)) rfl ⟨_, _, rfl, (Ih3.atS rfl)⟩ rfl (fun x17 h18 rx17 p19 => ?_)
    obtain ⟨rfl, zx17, p19_0⟩ := p19
    have rzx17 := z_lin zx17
    clear zx17
    clear rx17
    have rx17 := rzx17
    clear rzx17
    refine to_ifeq 84 (dat dk_X7_readId 33 rfl) rfl (z_i32 rx17) (fun c20 => ?_) (fun c20 => ?_)
    · skip
      refine to_iconst (dat dk_X7_readId 44 rfl) ?_
      exact to_iret rfl (dat dk_X7_readId 45 rfl) (ri_mka (by decide) ⟨Ih3, f5, (ENL.mono e6 (by omega) (by omega) (by omega))⟩)
    · skip
      replace c20 := z_one rx17 c20
      refine to_aload_n (dat dk_X7_readId 34 rfl) rfl (to_getR 14 g_c8_52 (dat dk_X7_readId 35 rfl) (Ih3.atS rfl) (Ih3.atE rfl) (to_aload_n (dat dk_X7_readId 36 rfl) rfl (to_getR 33 g_c8_14 (dat dk_X7_readId 37 rfl) (Ih3.atS rfl) (Ih3.atE rfl) (to_iload_n (dat dk_X7_readId 38 rfl) rfl (to_iconst (dat dk_X7_readId 39 rfl) (to_iadd (dat dk_X7_readId 40 rfl) (to_iload_n (dat dk_X7_readId 41 rfl) rfl ?_)))))))
      have q21 := (id e6).2
      have q22 := Bks.each Ih3 e6.1
      refine to_cIa ca_c8_118 (dat dk_X7_readId 42 rfl) (ct_X0_enter_v14 l h3 Ih3 33 rfl (x11 + 1) (by omega) y14 ry14 (show 0 ≤ (x11 + 1) ∧ (x11 + 1) ≤ y14 ∧ y14 - (x11 + 1) ≤ 60 ∧ y14 ≤ 1300 by omega) (e6.1.2.1) (show WB h3 14 ≤ 10000000 by omega) (show h3.2.2 14 5 ≤ 4000000 by omega) (show h3.1 + 4 ≤ 900000 by omega)) rfl ⟨_, _, rfl, (Ih3.atS rfl)⟩ rfl (fun x23 h24 mcx23 msx23 rx23 p25 => ?_)
      obtain ⟨Ih24, fh24, p25_0⟩ := p25
      have f26 : Fr [999, 14, 15, 16, 17, 19, 357, 317, 377, 33] h h24 := Fr.sub f5 fh24 rfl
      have e27 : ENL h h24 (0 + mcx23) (0 + msx23) (0 + 1) (0 + (y14 - (x11 + 1))) (0 + 0) := ENL.tr e6 (EN.l14 p25_0 fh24 Ih3 e6.1 rfl rfl) rfl rfl (by omega) (by omega) (by omega)
      refine to_goto (dat dk_X7_readId 43 rfl) rfl ?_
      exact to_iret rfl (dat dk_X7_readId 45 rfl) (ri_mka rx23 ⟨Ih24, f26, (ENL.mono e27 (by omega) (by omega) (by omega))⟩)
  refine to_iload_n (dat dk_X7_readId 15 rfl) rfl (to_iconst (dat dk_X7_readId 16 rfl) ?_)
  refine to_ine 39 (dat dk_X7_readId 17 rfl) rfl rx11 (by decide) (fun c28 => ?_) (fun c28 => ?_)
  · skip
    refine to_aload_n (dat dk_X7_readId 20 rfl) rfl (to_getR 33 g_c8_14 (dat dk_X7_readId 21 rfl) (Ih3.atS rfl) (Ih3.atE rfl) (to_bipush (dat dk_X7_readId 22 rfl) (by decide) (to_iload_n (dat dk_X7_readId 23 rfl) rfl (to_aload_n (dat dk_X7_readId 24 rfl) rfl (to_getR 33 g_c8_14 (dat dk_X7_readId 25 rfl) (Ih3.atS rfl) (Ih3.atE rfl) ?_)))))
    refine to_cI ca_c8_64 (dat dk_X7_readId 26 rfl) (ct_X1_size l h3 Ih3 33 rfl) rfl ⟨_, _, rfl, (Ih3.atS rfl)⟩ rfl (fun x29 h30 rx29 p31 => ?_)
    obtain ⟨rfl, p31_0⟩ := p31
    refine to_cI ca_c8_143 (dat dk_X7_readId 27 rfl) (ct_X1_seek l h3 Ih3 33 rfl 62 (by decide) x11 rx11 x29 rx29) rfl ⟨_, _, rfl, (Ih3.atS rfl)⟩ rfl (fun x32 h33 rx32 p34 => ?_)
    obtain ⟨rfl, p34_0⟩ := p34
    exact jn56_n16 x32 rx32 (show x32 = -1 ∨ (x11 ≤ x32 ∧ x32 < h3.2.2 33 1 ∧ 0 ≤ x11) by omega)
  · skip
    refine to_iconst (dat dk_X7_readId 18 rfl) (to_goto (dat dk_X7_readId 19 rfl) rfl ?_)
    exact jn56_n16 (-1) (by decide) (show (-1 : Int) = -1 ∨ (x11 ≤ (-1 : Int) ∧ (-1 : Int) < h3.2.2 33 1 ∧ 0 ≤ x11) by omega)
