/-! Contracts, by program. -/
abbrev Q_X11_add (h : Hp) : Option V → Hp → Nat → Nat → Prop := RIa (fun x H mc ms => Inv H ∧ Fr [999, 8, 9, 10, 11, 13, 356, 316, 376, 14, 15, 16, 17, 19, 357, 317, 377, 30, 32, 33, 35, 37, 39, 41, 42, 43, 44, 45, 46, 47, 48, 312, 26, 313, 4, 27, 125] h H ∧ (ENL h H mc ms (1417) (5820) (1500)) ∧ (H.2.2 4 1 = 0) ∧ (H.2.2 26 2 = h.2.2 26 2 + 1) ∧ (h.2.2 26 2 ≤ 59 ∧ h.2.2 1 15 ≤ 199 ∧ H.2.2 1 15 = h.2.2 1 15 + 1) ∧ (nums H = nums h ++ [h.2.2 1 15]))
abbrev PX_X11_add (h : Hp) : String → Hp → Nat → Nat → Prop := fun E9 H k z => (E9 = ISE) ∧ Inv H ∧ Fr [999, 8, 9, 10, 11, 13, 356, 316, 376, 14, 15, 16, 17, 19, 357, 317, 377, 30, 32, 33, 35, 37, 39, 41, 42, 43, 44, 45, 46, 47, 48, 312, 26, 313, 4, 27, 125] h H ∧ k = 0 ∧ z = 0 ∧ (ENL h H 0 0 (0) (0) (0)) ∧ (H.2.2 4 1 = h.2.2 4 1) ∧ (H.2.2 26 2 = h.2.2 26 2) ∧ (60 ≤ h.2.2 26 2 ∨ 200 ≤ h.2.2 1 15) ∧ (H.2.2 1 15 = h.2.2 1 15) ∧ (nums H = nums h)
set_option maxRecDepth 100000 in
set_option maxHeartbeats 4000000 in
theorem tx_X11_add (l : Launch) (hst0 : l.stackTraces = false) (h : Hp) (hI : Inv h) (g0 : Bks h) (g1 : WT h ≤ 9000000) (g2 : ET h ≤ 3000000) (g3 : h.1 ≤ 800000) : CtX l D_X11_add 11 254 [.inr (.inr 1)] h (Q_X11_add h) (PX_X11_add h) := by
  refine ctx_of hst0 pn_X11_add rfl (Nat.le_of_ble_eq_true rfl) (by decide) (by decide) ?_
  show Tx l E_X11_add (Q_X11_add h) (XP cX11_add h (PX_X11_add h)) (0, [(0, .inr (.inr 1))], [], h, 0, 0)
  have e00 : ENL h h 0 0 0 0 0 := ENL.rf g0 (by decide) (by decide) (by decide)
  obtain ⟨x1, ex1⟩ : ∃ y : Int, h.2.2 4 1 = y := ⟨_, rfl⟩
  have rx1 := hI.atR (a := 4) (j := 1) rfl
  rw [ex1] at rx1
  obtain ⟨x2, ex2⟩ : ∃ y : Int, h.2.2 26 2 = y := ⟨_, rfl⟩
  have rx2 := hI.atR (a := 26) (j := 2) rfl
  rw [ex2] at rx2
  obtain ⟨x3, ex3⟩ : ∃ y : Int, h.2.2 1 15 = y := ⟨_, rfl⟩
  have rx3 := hI.atR (a := 1) (j := 15) rfl
  rw [ex3] at rx3
  refine tg_aload_n Tx.gn (dat dk_X11_add 0 rfl) rfl (tg_getR Tx.gn 26 g_c0_40 (dat dk_X11_add 1 rfl) (hI.atS rfl) (hI.atE rfl) ?_)
  refine tg_cI Tx.gn ca_c0_93 (dat dk_X11_add 2 rfl) (ct_Jx4a65c_size_8abf5 l h hI ) rfl ⟨_, _, rfl, (hI.atS rfl)⟩ rfl (fun x4 h5 rx4 p6 => ?_)
  obtain ⟨rfl, p6_0, p6_1⟩ := p6
  refine tg_bipush Tx.gn (dat dk_X11_add 3 rfl) (by decide) ?_
  refine tg_ige Tx.gn 22 (dat dk_X11_add 4 rfl) rfl rx4 (by decide) (fun c7 => ?_) (fun c7 => ?_)
  · skip
    exact Or.inr ⟨_, ⟨(ISE, 98, 100, 102, "no more messages can come", 101), List.mem_of_getElem? (i := 0) rfl, _, _, _, _, _, rfl, ⟨(dat dk_X11_add 9 rfl), (dat dk_X11_add 10 rfl), (dat dk_X11_add 11 rfl), (dat dk_X11_add 12 rfl), (dat dk_X11_add 13 rfl)⟩, ⟨rfl, hI, (Fr.rf _ _), rfl, rfl, (ENL.mono e00 (by omega) (by omega) (by omega)), (show h.2.2 4 1 = h.2.2 4 1 by omega), (show h.2.2 26 2 = h.2.2 26 2 by omega), (show 60 ≤ h.2.2 26 2 ∨ 200 ≤ h.2.2 1 15 by omega), (show h.2.2 1 15 = h.2.2 1 15 by omega), rfl⟩, (show Fr [999, 8, 9, 10, 11, 13, 356, 316, 376, 14, 15, 16, 17, 19, 357, 317, 377, 30, 32, 33, 35, 37, 39, 41, 42, 43, 44, 45, 46, 47, 48, 312, 26, 313, 4, 27, 125] h h from (Fr.rf _ _)).1.1, by have := hI.1.2.1; omega⟩, sx_rfl _⟩
  · skip
    refine tg_aload_n Tx.gn (dat dk_X11_add 5 rfl) rfl (tg_getIv Tx.gn (y := x3) ex3 g_c0_94 (dat dk_X11_add 6 rfl) (hI.atS rfl) (tg_sipush Tx.gn (dat dk_X11_add 7 rfl) (by decide) ?_))
    refine tg_ilt Tx.gn 32 (dat dk_X11_add 8 rfl) rfl (by omega) (by decide) (fun c8 => ?_) (fun c8 => ?_)
    · skip
      refine tg_aload_n Tx.gn (dat dk_X11_add 14 rfl) rfl (tg_getR Tx.gn 26 g_c0_40 (dat dk_X11_add 15 rfl) (hI.atS rfl) (hI.atE rfl) (tg_aload_n Tx.gn (dat dk_X11_add 16 rfl) rfl (tg_getR Tx.gn 32 g_c0_58 (dat dk_X11_add 17 rfl) (hI.atS rfl) (hI.atE rfl) (tg_aload_n Tx.gn (dat dk_X11_add 18 rfl) rfl (tg_getIv Tx.gn (y := x3) ex3 g_c0_94 (dat dk_X11_add 19 rfl) (hI.atS rfl) ?_)))))
      have q9 := (id e00).2
      have q10 := Bks.each hI e00.1
      refine tg_cRa Tx.gn ca_c0_105 (dat dk_X11_add 20 rfl) (ct_X7_read l h hI x3 (by omega) g0 (show WT h ≤ 9100000 by omega) (show ET h ≤ 3100000 by omega) (show h.1 ≤ 810000 by omega)) rfl ⟨_, _, rfl, (hI.atS rfl)⟩ rfl (fun x11 h12 mcx11 msx11 p13 => ?_)
      obtain ⟨Ih12, fh12, p13_0, p13_1, p13_2, p13_3⟩ := p13
      have f14 : Fr [999, 8, 9, 10, 11, 13, 356, 316, 376, 14, 15, 16, 17, 19, 357, 317, 377, 30, 32, 33, 35, 37, 39, 41, 42, 43, 44, 45, 46, 47, 48, 312, 26, 313, 4, 27, 125] h h12 := Fr.sub (Fr.rf _ _) fh12 rfl
      have e15 : ENL h h12 (0 + mcx11) (0 + msx11) (0 + 1417) (0 + 5820) (0 + 1242) := ENL.tr e00 p13_3 rfl rfl (by omega) (by omega) (by omega)
      have q16 := (id e15).2
      have q17 := Bks.each Ih12 e15.1
      have e18 : h12.2.2 26 2 = x2 := ((Fr.get fh12 (by have := hI.1.1; omega) rfl).trans ex2)
      refine tg_cIa Tx.gn ca_c0_109 (dat dk_X11_add 21 rfl) (ct_Jx4a65c_add_9ea2d_vw l h12 Ih12 x11 p13_0 (show h12.2.2 26 2 ≤ 59 by omega) (show h12.1 + 1 ≤ 900000 by omega)) rfl ⟨_, _, rfl, (Ih12.atS rfl)⟩ rfl (fun x19 h20 mcx19 msx19 rx19 p21 => ?_)
      obtain ⟨Ih20, fh20, zx19, p21_0, p21_1, p21_2, p21_3⟩ := p21
      have f22 : Fr [999, 8, 9, 10, 11, 13, 356, 316, 376, 14, 15, 16, 17, 19, 357, 317, 377, 30, 32, 33, 35, 37, 39, 41, 42, 43, 44, 45, 46, 47, 48, 312, 26, 313, 4, 27, 125] h h20 := Fr.sub f14 fh20 rfl
      have d23 := full.fr fh20 rfl Ih12 p13_0
      obtain ⟨eAx19, eBx19, eCx19⟩ := p21_0
      have e24 : ENL h h20 ((0 + mcx11) + mcx19) ((0 + msx11) + msx19) (0 + 1417) (0 + 5820) ((0 + 1242) + 201) := ENL.alF (m := mcx19) (n := msx19) e15 fh20 Ih12 rfl eCx19 rfl rfl (by omega)
      have rzx19 := z_lin zx19
      clear zx19
      clear rx19
      have rx19 := rzx19
      clear rzx19
      obtain ⟨x25, ex25⟩ : ∃ y : Int, h20.2.2 26 2 = y := ⟨_, rfl⟩
      have rx25 := Ih20.atR (a := 26) (j := 2) rfl
      rw [ex25] at rx25
      refine tg_pop Tx.gn (dat dk_X11_add 22 rfl) rfl (tg_aload_n Tx.gn (dat dk_X11_add 23 rfl) rfl (tg_getR Tx.gn 4 g_c0_18 (dat dk_X11_add 24 rfl) (Ih20.atS rfl) (Ih20.atE rfl) ?_))
      refine tg_cV Tx.gn ca_c0_113 (dat dk_X11_add 25 rfl) (ct_X1_clear l h20 Ih20 4 rfl) rfl ⟨_, _, rfl, (Ih20.atS rfl)⟩ rfl (fun h27 p28 => ?_)
      obtain ⟨Ih27, fh27, p28_0⟩ := p28
      have f29 : Fr [999, 8, 9, 10, 11, 13, 356, 316, 376, 14, 15, 16, 17, 19, 357, 317, 377, 30, 32, 33, 35, 37, 39, 41, 42, 43, 44, 45, 46, 47, 48, 312, 26, 313, 4, 27, 125] h h27 := Fr.sub f22 fh27 rfl
      have d30 := full.fr fh27 rfl Ih20 d23
      have e31 : ENL h h27 ((0 + mcx11) + mcx19) ((0 + msx11) + msx19) (0 + 1417) (0 + 5820) ((0 + 1242) + 201) := ENL.fr e24 fh27 Ih20 rfl
      obtain ⟨x32, ex32⟩ : ∃ y : Int, h27.2.2 4 1 = y := ⟨_, rfl⟩
      have rx32 := Ih27.atR (a := 4) (j := 1) rfl
      rw [ex32] at rx32
      refine tg_aload_n Tx.gn (dat dk_X11_add 26 rfl) rfl (tg_getR Tx.gn 27 g_c0_49 (dat dk_X11_add 27 rfl) (Ih27.atS rfl) (Ih27.atE rfl) ?_)
      refine tg_cV Tx.gn ca_c0_116 (dat dk_X11_add 28 rfl) (ct_X10_spoil l h27 Ih27 ) rfl ⟨_, _, rfl, (Ih27.atS rfl)⟩ rfl (fun h34 p35 => ?_)
      obtain ⟨Ih34, fh34⟩ := p35
      have f36 : Fr [999, 8, 9, 10, 11, 13, 356, 316, 376, 14, 15, 16, 17, 19, 357, 317, 377, 30, 32, 33, 35, 37, 39, 41, 42, 43, 44, 45, 46, 47, 48, 312, 26, 313, 4, 27, 125] h h34 := Fr.sub f29 fh34 rfl
      have d37 := full.fr fh34 rfl Ih27 d30
      have e38 : ENL h h34 ((0 + mcx11) + mcx19) ((0 + msx11) + msx19) (0 + 1417) (0 + 5820) ((0 + 1242) + 201) := ENL.fr e31 fh34 Ih27 rfl
      refine tg_aload_n Tx.gn (dat dk_X11_add 29 rfl) rfl (tg_dup Tx.gn (dat dk_X11_add 30 rfl) rfl (tg_getIv Tx.gn (y := x3) ((Fr.get fh34 (by have := Ih27.1.1; omega) rfl).trans ((Fr.get fh27 (by have := Ih20.1.1; omega) rfl).trans ((Fr.get fh20 (by have := Ih12.1.1; omega) rfl).trans ((Fr.get fh12 (by have := hI.1.1; omega) rfl).trans ex3)))) g_c0_94 (dat dk_X11_add 31 rfl) (Ih34.atS rfl) (tg_iconst Tx.gn (dat dk_X11_add 32 rfl) (tg_iadd Tx.gn (dat dk_X11_add 33 rfl) (tg_putIw Tx.gn p_c0_94 (dat dk_X11_add 34 rfl) (Ih34.atS rfl) ?_)))))
      intro h41 wh41
      have I39 : Inv h41 := by rw [wh41]; exact Ih34.put (a := 1) (j := 15) (x := (x3 + 1)) (0) (200) rfl rfl (show (0 : Int) ≤ (x3 + 1) ∧ (x3 + 1) ≤ 200 by omega)
      have f40 : Fr [999, 8, 9, 10, 11, 13, 356, 316, 376, 14, 15, 16, 17, 19, 357, 317, 377, 30, 32, 33, 35, 37, 39, 41, 42, 43, 44, 45, 46, 47, 48, 312, 26, 313, 4, 27, 125] h h41 := by rw [wh41]; exact Fr.putF (a := 1) (j := 15) (x := (x3 + 1)) f36 rfl
      have d42 : full h41 x11 := by rw [wh41]; exact full.putF Ih34 (by decide) d37
      have e43 : ENL h h41 ((0 + mcx11) + mcx19) ((0 + msx11) + msx19) (0 + 1417) (0 + 5820) ((0 + 1242) + 201) := by rw [wh41]; exact ENL.fr e38 (fr_wr [125] rfl) Ih34 rfl
      refine tg_aload_n Tx.gn (dat dk_X11_add 35 rfl) rfl (tg_getIv Tx.gn (y := (x3 + 1)) (by rw [wh41]; exact wr_eq) g_c0_94 (dat dk_X11_add 36 rfl) (I39.atS rfl) (tg_iconst Tx.gn (dat dk_X11_add 37 rfl) (tg_isub Tx.gn (dat dk_X11_add 38 rfl) ?_)))
      have e44 : h41.2.2 4 1 = x32 := (by rw [wh41]; exact (show h34.2.2 4 1 = x32 from ((Fr.get fh34 (by have := Ih27.1.1; omega) rfl).trans ex32)))
      have e45 : h41.2.2 26 2 = x25 := (by rw [wh41]; exact (show h34.2.2 26 2 = x25 from ((Fr.get fh34 (by have := Ih27.1.1; omega) rfl).trans ((Fr.get fh27 (by have := Ih20.1.1; omega) rfl).trans ex25))))
      have e46 : h41.2.2 1 15 = (x3 + 1) := (by rw [wh41]; exact wr_eq)
      exact Or.inl (to_iret rfl (dat dk_X11_add 39 rfl) (ri_mka (by omega) ⟨I39, f40, (ENL.mono e43 (by omega) (by omega) (by omega)), (show h41.2.2 4 1 = 0 by omega), (show h41.2.2 26 2 = h.2.2 26 2 + 1 by omega), (show h.2.2 26 2 ≤ 59 ∧ h.2.2 1 15 ≤ 199 ∧ h41.2.2 1 15 = h.2.2 1 15 + 1 by omega), ((nums_fr (S := [125]) (show Fr [125] h34 h41 by rw [wh41]; exact fr_wr [125] rfl) Ih34 rfl).trans ((nums_fr fh34 Ih27 rfl).trans ((nums_fr fh27 Ih20 rfl).trans ((nums_add Ih12 fh20 p13_0 p21_1 p21_2 p21_3).trans (by rw [nums_fr fh12 hI rfl, p13_2]; exact congrArg (fun z => nums h ++ [z]) (by omega))))))⟩))
    · skip
      exact Or.inr ⟨_, ⟨(ISE, 98, 100, 102, "no more messages can come", 101), List.mem_of_getElem? (i := 0) rfl, _, _, _, _, _, rfl, ⟨(dat dk_X11_add 9 rfl), (dat dk_X11_add 10 rfl), (dat dk_X11_add 11 rfl), (dat dk_X11_add 12 rfl), (dat dk_X11_add 13 rfl)⟩, ⟨rfl, hI, (Fr.rf _ _), rfl, rfl, (ENL.mono e00 (by omega) (by omega) (by omega)), (show h.2.2 4 1 = h.2.2 4 1 by omega), (show h.2.2 26 2 = h.2.2 26 2 by omega), (show 60 ≤ h.2.2 26 2 ∨ 200 ≤ h.2.2 1 15 by omega), (show h.2.2 1 15 = h.2.2 1 15 by omega), rfl⟩, (show Fr [999, 8, 9, 10, 11, 13, 356, 316, 376, 14, 15, 16, 17, 19, 357, 317, 377, 30, 32, 33, 35, 37, 39, 41, 42, 43, 44, 45, 46, 47, 48, 312, 26, 313, 4, 27, 125] h h from (Fr.rf _ _)).1.1, by have := hI.1.2.1; omega⟩, sx_rfl _⟩
