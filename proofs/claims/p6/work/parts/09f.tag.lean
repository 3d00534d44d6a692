/-! Contracts, by program. -/
abbrev Q_X11_remove (h : Hp) (n : Int) : Option V → Hp → Nat → Nat → Prop := RV (fun H => Inv H ∧ Fr [26, 313, 27] h H ∧ (H.2.2 4 1 = h.2.2 4 1) ∧ (H.2.2 26 2 = h.2.2 26 2 - 1) ∧ (∃ i : Nat, (nums h)[i]? = some n ∧ nums H = (nums h).eraseIdx i))
abbrev PX_X11_remove (h : Hp) (n : Int) : String → Hp → Nat → Nat → Prop := fun E9 H k z => (E9 = IOB) ∧ Inv H ∧ Fr [26, 313, 27] h H ∧ k = 0 ∧ z = 0 ∧ (H.2.2 4 1 = h.2.2 4 1) ∧ (H.2.2 26 2 = h.2.2 26 2) ∧ (n ∉ nums h) ∧ (nums H = nums h)
set_option maxRecDepth 100000 in
theorem tx_X11_remove (l : Launch) (hst0 : l.stackTraces = false) (h : Hp) (hI : Inv h) (n : Int) (hn : I32 n) : CtX l D_X11_remove 6 126 [.inr (.inr 1), .inl n] h (Q_X11_remove h n) (PX_X11_remove h n) := by
  refine ctx_of hst0 pn_X11_remove rfl (Nat.le_of_ble_eq_true rfl) (by decide) (by decide) ?_
  show Tx l E6_X11_remove (Q_X11_remove h n) (XP cX11_remove h (PX_X11_remove h n)) (0, [(0, .inr (.inr 1)), (1, .inl n)], [], h, 0, 0)
  obtain ⟨x1, ex1⟩ : ∃ y : Int, h.2.2 4 1 = y := ⟨_, rfl⟩
  have rx1 := hI.atR (a := 4) (j := 1) rfl
  rw [ex1] at rx1
  obtain ⟨x2, ex2⟩ : ∃ y : Int, h.2.2 26 2 = y := ⟨_, rfl⟩
  have rx2 := hI.atR (a := 26) (j := 2) rfl
  rw [ex2] at rx2
  refine tg_aload_n Tx.gn (dat dk_X11_remove 0 rfl) rfl (tg_iload_n Tx.gn (dat dk_X11_remove 1 rfl) rfl ?_)
  refine tg_cI Tx.gn ca_c0_119 (dat dk_X11_remove 2 rfl) (ct_X11_placeOf_vb l h hI n hn) rfl ⟨_, _, rfl, (hI.atS rfl)⟩ rfl (fun x3 h4 rx3 p5 => ?_)
  obtain ⟨rfl, p5_0, p5_1⟩ := p5
  refine tg_istore_n Tx.gn (L' := [(0, .inr (.inr 1)), (1, .inl n), (2, .inl x3)]) (dat dk_X11_remove 3 rfl) (by decide) rfl (tg_iload_n Tx.gn (dat dk_X11_remove 4 rfl) rfl ?_)
  refine tg_iflt Tx.gn 21 (dat dk_X11_remove 5 rfl) rfl rx3 (fun c6 => ?_) (fun c6 => ?_)
  · skip
    exact Or.inr ⟨_, ⟨(IOB, 123, 125, 127, "the message is not there", 103), List.mem_of_getElem? (i := 1) rfl, _, _, _, _, _, rfl, ⟨(dat dk_X11_remove 11 rfl), (dat dk_X11_remove 12 rfl), (dat dk_X11_remove 13 rfl), (dat dk_X11_remove 14 rfl), (dat dk_X11_remove 15 rfl)⟩, ⟨rfl, hI, (Fr.rf _ _), rfl, rfl, (show h.2.2 4 1 = h.2.2 4 1 by omega), (show h.2.2 26 2 = h.2.2 26 2 by omega), (Or.elim p5_1 (fun q => q.2) (fun q => absurd q.1 (by omega))), rfl⟩, (show Fr [26, 313, 27] h h from (Fr.rf _ _)).1.1, by have := hI.1.2.1; omega⟩, sx_rfl _⟩
  · skip
    refine tg_iload_n Tx.gn (dat dk_X11_remove 6 rfl) rfl (tg_aload_n Tx.gn (dat dk_X11_remove 7 rfl) rfl (tg_getR Tx.gn 26 g_c0_40 (dat dk_X11_remove 8 rfl) (hI.atS rfl) (hI.atE rfl) ?_))
    refine tg_cI Tx.gn ca_c0_93 (dat dk_X11_remove 9 rfl) (ct_Jx4a65c_size_8abf5 l h hI ) rfl ⟨_, _, rfl, (hI.atS rfl)⟩ rfl (fun x7 h8 rx7 p9 => ?_)
    obtain ⟨rfl, p9_0, p9_1⟩ := p9
    refine tg_ilt Tx.gn 31 (dat dk_X11_remove 10 rfl) rfl rx3 rx7 (fun c10 => ?_) (fun c10 => ?_)
    · skip
      refine tg_aload_n Tx.gn (dat dk_X11_remove 16 rfl) rfl (tg_getR Tx.gn 26 g_c0_40 (dat dk_X11_remove 17 rfl) (hI.atS rfl) (hI.atE rfl) (tg_iload_n Tx.gn (dat dk_X11_remove 18 rfl) rfl ?_))
      refine tg_cR Tx.gn ca_c0_128 (dat dk_X11_remove 19 rfl) (ct_Jx4a65c_remove_915e3_vw l h hI x3 rx3 (show 0 ≤ x3 ∧ x3 < h.2.2 26 2 by omega)) rfl ⟨_, _, rfl, (hI.atS rfl)⟩ rfl (fun x11 h12 p13 => ?_)
      obtain ⟨Ih12, fh12, p13_0, p13_1⟩ := p13
      have f14 : Fr [26, 313, 27] h h12 := Fr.sub (Fr.rf _ _) fh12 rfl
      obtain ⟨x15, ex15⟩ : ∃ y : Int, h12.2.2 26 2 = y := ⟨_, rfl⟩
      have rx15 := Ih12.atR (a := 26) (j := 2) rfl
      rw [ex15] at rx15
      refine tg_pop Tx.gn (dat dk_X11_remove 20 rfl) rfl (tg_aload_n Tx.gn (dat dk_X11_remove 21 rfl) rfl (tg_getR Tx.gn 27 g_c0_49 (dat dk_X11_remove 22 rfl) (Ih12.atS rfl) (Ih12.atE rfl) ?_))
      refine tg_cV Tx.gn ca_c0_116 (dat dk_X11_remove 23 rfl) (ct_X10_spoil l h12 Ih12 ) rfl ⟨_, _, rfl, (Ih12.atS rfl)⟩ rfl (fun h17 p18 => ?_)
      obtain ⟨Ih17, fh17⟩ := p18
      have f19 : Fr [26, 313, 27] h h17 := Fr.sub f14 fh17 rfl
      have e20 : h17.2.2 4 1 = x1 := ((Fr.get fh17 (by have := Ih12.1.1; omega) rfl).trans ((Fr.get fh12 (by have := hI.1.1; omega) rfl).trans ex1))
      have e21 : h17.2.2 26 2 = x15 := ((Fr.get fh17 (by have := Ih12.1.1; omega) rfl).trans ex15)
      exact Or.inl (to_vret rfl (dat dk_X11_remove 24 rfl) (rv_mk ⟨Ih17, f19, (show h17.2.2 4 1 = h.2.2 4 1 by omega), (show h17.2.2 26 2 = h.2.2 26 2 - 1 by omega), (Or.elim p5_1 (fun q => absurd q.1 (by omega)) (fun q => ⟨_, q.2, (nums_fr fh17 Ih12 rfl).trans (nums_remove hI fh12 (by omega) p13_0 p13_1)⟩))⟩))
    · skip
      exact Or.inr ⟨_, ⟨(IOB, 123, 125, 127, "the message is not there", 103), List.mem_of_getElem? (i := 1) rfl, _, _, _, _, _, rfl, ⟨(dat dk_X11_remove 11 rfl), (dat dk_X11_remove 12 rfl), (dat dk_X11_remove 13 rfl), (dat dk_X11_remove 14 rfl), (dat dk_X11_remove 15 rfl)⟩, ⟨rfl, hI, (Fr.rf _ _), rfl, rfl, (show h.2.2 4 1 = h.2.2 4 1 by omega), (show h.2.2 26 2 = h.2.2 26 2 by omega), (Or.elim p5_1 (fun q => q.2) (fun q => absurd q.1 (by omega))), rfl⟩, (show Fr [26, 313, 27] h h from (Fr.rf _ _)).1.1, by have := hI.1.2.1; omega⟩, sx_rfl _⟩
abbrev Q_X11_tag (h : Hp) (n : Int) (z : Int) : Option V → Hp → Nat → Nat → Prop := RIa (fun x H mc ms => Inv H ∧ Fr [999, 20, 21, 22, 23, 25, 358, 318, 378, 4, 6, 311, 337] h H ∧ (x = 0 ∨ x = 1) ∧ (ENL h H mc ms (1) (60) (0)) ∧ (H.2.2 4 1 = 0) ∧ (H.2.2 26 2 = h.2.2 26 2))
abbrev PX_X11_tag (h : Hp) (n : Int) (z : Int) : String → Hp → Nat → Nat → Prop := fun E9 H k z => (E9 = IOB ∨ E9 = IAE ∨ E9 = ISE) ∧ Inv H ∧ Fr [999, 20, 21, 22, 23, 25, 358, 318, 378, 4, 6, 311, 337] h H ∧ k = 0 ∧ z = 0 ∧ (ENL h H 0 0 (0) (0) (0)) ∧ (H.2.2 4 1 = 0) ∧ (H.2.2 26 2 = h.2.2 26 2)
set_option maxRecDepth 100000 in
set_option maxHeartbeats 4000000 in
theorem tx_X11_tag (l : Launch) (hst0 : l.stackTraces = false) (h : Hp) (hI : Inv h) (n : Int) (hn : I32 n) (z : Int) (hz : z = 0 ∨ z = 1) (g0 : Bks h) (g1 : WT h ≤ 9000000) (g2 : ET h ≤ 3000000) (g3 : h.1 ≤ 800000) : CtX l D_X11_tag 6 153 [.inr (.inr 1), .inl n, .inl z] h (Q_X11_tag h n z) (PX_X11_tag h n z) := by
  refine ctx_of hst0 pn_X11_tag rfl (Nat.le_of_ble_eq_true rfl) (by decide) (by decide) ?_
  show Tx l E6_X11_tag (Q_X11_tag h n z) (XP cX11_tag h (PX_X11_tag h n z)) (0, [(0, .inr (.inr 1)), (1, .inl n), (2, .inl z)], [], h, 0, 0)
  have e00 : ENL h h 0 0 0 0 0 := ENL.rf g0 (by decide) (by decide) (by decide)
  obtain ⟨x1, ex1⟩ : ∃ y : Int, h.2.2 4 1 = y := ⟨_, rfl⟩
  have rx1 := hI.atR (a := 4) (j := 1) rfl
  rw [ex1] at rx1
  obtain ⟨x2, ex2⟩ : ∃ y : Int, h.2.2 26 2 = y := ⟨_, rfl⟩
  have rx2 := hI.atR (a := 26) (j := 2) rfl
  rw [ex2] at rx2
  refine tg_aload_n Tx.gn (dat dk_X11_tag 0 rfl) rfl ?_
  refine tg_cV Tx.gn ca_c0_132 (dat dk_X11_tag 1 rfl) (ct_X11_takeTape l h hI ) rfl ⟨_, _, rfl, (hI.atS rfl)⟩ rfl (fun h4 p5 => ?_)
  obtain ⟨Ih4, fh4, p5_0⟩ := p5
  have f6 : Fr [999, 20, 21, 22, 23, 25, 358, 318, 378, 4, 6, 311, 337] h h4 := Fr.sub (Fr.rf _ _) fh4 rfl
  have e7 : ENL h h4 0 0 0 0 0 := ENL.fr e00 fh4 hI rfl
  obtain ⟨x8, ex8⟩ : ∃ y : Int, h4.2.2 4 1 = y := ⟨_, rfl⟩
  have rx8 := Ih4.atR (a := 4) (j := 1) rfl
  rw [ex8] at rx8
  refine tg_aload_n Tx.gn (dat dk_X11_tag 2 rfl) rfl (tg_iload_n Tx.gn (dat dk_X11_tag 3 rfl) rfl ?_)
  have e9 : h4.2.2 26 2 = x2 := ((Fr.get fh4 (by have := hI.1.1; omega) rfl).trans ex2)
  refine tg_cI Tx.gn ca_c0_119 (dat dk_X11_tag 4 rfl) (ct_X11_placeOf_vb l h4 Ih4 n hn) rfl ⟨_, _, rfl, (Ih4.atS rfl)⟩ rfl (fun x10 h11 rx10 p12 => ?_)
  obtain ⟨rfl, p12_0, p12_1⟩ := p12
  refine tg_istore_n Tx.gn (L' := [(0, .inr (.inr 1)), (1, .inl n), (2, .inl z), (3, .inl x10)]) (dat dk_X11_tag 5 rfl) (by decide) rfl (tg_iload_n Tx.gn (dat dk_X11_tag 6 rfl) rfl ?_)
  refine tg_iflt Tx.gn 25 (dat dk_X11_tag 7 rfl) rfl rx10 (fun c13 => ?_) (fun c13 => ?_)
  · skip
    exact Or.inr ⟨_, ⟨(IOB, 123, 125, 127, "the message is not there", 103), List.mem_of_getElem? (i := 1) rfl, _, _, _, _, _, rfl, ⟨(dat dk_X11_tag 13 rfl), (dat dk_X11_tag 14 rfl), (dat dk_X11_tag 15 rfl), (dat dk_X11_tag 16 rfl), (dat dk_X11_tag 17 rfl)⟩, ⟨Or.inl rfl, Ih4, f6, rfl, rfl, (ENL.mono e7 (by omega) (by omega) (by omega)), (show h4.2.2 4 1 = 0 by omega), (show h4.2.2 26 2 = h.2.2 26 2 by omega)⟩, (show Fr [999, 20, 21, 22, 23, 25, 358, 318, 378, 4, 6, 311, 337] h h4 from f6).1.1, by have := Ih4.1.2.1; omega⟩, sx_rfl _⟩
  · skip
    refine tg_iload_n Tx.gn (dat dk_X11_tag 8 rfl) rfl (tg_aload_n Tx.gn (dat dk_X11_tag 9 rfl) rfl (tg_getR Tx.gn 26 g_c0_40 (dat dk_X11_tag 10 rfl) (Ih4.atS rfl) (Ih4.atE rfl) ?_))
    refine tg_cI Tx.gn ca_c0_93 (dat dk_X11_tag 11 rfl) (ct_Jx4a65c_size_8abf5 l h4 Ih4 ) rfl ⟨_, _, rfl, (Ih4.atS rfl)⟩ rfl (fun x14 h15 rx14 p16 => ?_)
    obtain ⟨rfl, p16_0, p16_1⟩ := p16
    refine tg_ilt Tx.gn 35 (dat dk_X11_tag 12 rfl) rfl rx10 rx14 (fun c17 => ?_) (fun c17 => ?_)
    · skip
      refine tg_aload_n Tx.gn (dat dk_X11_tag 18 rfl) rfl (tg_getR Tx.gn 6 g_c0_21 (dat dk_X11_tag 19 rfl) (Ih4.atS rfl) (Ih4.atE rfl) ?_)
      obtain ⟨x18, ex18⟩ : ∃ y : Int, h4.2.2 6 1 = y := ⟨_, rfl⟩
      have rx18 := Ih4.atR (a := 6) (j := 1) rfl
      rw [ex18] at rx18
      refine tg_cI Tx.gn ca_c0_135 (dat dk_X11_tag 20 rfl) (ct_X11_isTag l h4 Ih4 6 rfl) rfl trivial rfl (fun x19 h20 rx19 p21 => ?_)
      obtain ⟨rfl, zx19, p21_0⟩ := p21
      have rzx19 := z_lin zx19
      clear zx19
      clear rx19
      have rx19 := rzx19
      clear rzx19
      refine tg_ifne Tx.gn 55 (dat dk_X11_tag 21 rfl) rfl (z_i32 rx19) (fun c22 => ?_) (fun c22 => ?_)
      · skip
        replace c22 := z_one rx19 c22
        refine tg_aload_n Tx.gn (dat dk_X11_tag 27 rfl) rfl (tg_getR Tx.gn 26 g_c0_40 (dat dk_X11_tag 28 rfl) (Ih4.atS rfl) (Ih4.atE rfl) (tg_iload_n Tx.gn (dat dk_X11_tag 29 rfl) rfl ?_))
        refine tg_cR Tx.gn ca_c0_144 (dat dk_X11_tag 30 rfl) (ct_Jx4a65c_get_915e3 l h4 Ih4 x10 rx10 (show 0 ≤ x10 ∧ x10 < h4.2.2 26 2 by omega)) rfl ⟨_, _, rfl, (Ih4.atS rfl)⟩ rfl (fun x23 h24 p25 => ?_)
        obtain ⟨rfl, p25_0⟩ := p25
        refine tg_castM Tx.gn (C := RX6) (T := TX6) (N := 8) (ci := 5) rfl (tin 2 235 (by decide +kernel) rfl) (dat dk_X11_tag 31 rfl) p25_0.1 (tg_astore Tx.gn (L' := [(0, .inr (.inr 1)), (1, .inl n), (2, .inl z), (3, .inl x10), (4, .inr (.inr x23))]) (dat dk_X11_tag 32 rfl) (by have := full.big Ih4 p25_0; omega) (by decide) rfl (tg_aload_n Tx.gn (dat dk_X11_tag 33 rfl) rfl (tg_getR Tx.gn 20 g_c0_34 (dat dk_X11_tag 34 rfl) (Ih4.atS rfl) (Ih4.atE rfl) (tg_aload_n Tx.gn (dat dk_X11_tag 35 rfl) rfl (tg_getR Tx.gn 6 g_c0_21 (dat dk_X11_tag 36 rfl) (Ih4.atS rfl) (Ih4.atE rfl) (tg_iconst Tx.gn (dat dk_X11_tag 37 rfl) (tg_aload_n Tx.gn (dat dk_X11_tag 38 rfl) rfl (tg_getR Tx.gn 6 g_c0_21 (dat dk_X11_tag 39 rfl) (Ih4.atS rfl) (Ih4.atE rfl) ?_))))))))
        refine tg_cI Tx.gn ca_c0_85 (dat dk_X11_tag 40 rfl) (ct_X1_size l h4 Ih4 6 rfl) rfl ⟨_, _, rfl, (Ih4.atS rfl)⟩ rfl (fun x26 h27 rx26 p28 => ?_)
        obtain ⟨rfl, p28_0⟩ := p28
        refine tg_cI Tx.gn ca_c0_149 (dat dk_X11_tag 41 rfl) (ct_X0_find l h4 Ih4 20 80 rfl 6 rfl 0 (by decide) x26 rx26) rfl ⟨_, _, rfl, (Ih4.atS rfl)⟩ rfl (fun x29 h30 rx29 p31 => ?_)
        obtain ⟨rfl, p31_0⟩ := p31
        refine tg_istore Tx.gn (L' := [(0, .inr (.inr 1)), (1, .inl n), (2, .inl z), (3, .inl x10), (4, .inr (.inr x23)), (5, .inl x29)]) (dat dk_X11_tag 42 rfl) (by decide) rfl (tg_aload_p Tx.gn (dat dk_X11_tag 43 rfl) (by have := full.big Ih4 p25_0; omega) rfl (tg_iload Tx.gn (dat dk_X11_tag 44 rfl) rfl ?_))
        refine tg_cI Tx.gn ca_c0_153 (dat dk_X11_tag 45 rfl) (ct_X6_hasTag l h4 Ih4 x23 p25_0 x29 rx29) rfl ⟨_, _, rfl, p25_0.1⟩ rfl (fun x32 h33 rx32 p34 => ?_)
        obtain ⟨rfl, zx32⟩ := p34
        have rzx32 := z_lin zx32
        clear zx32
        clear rx32
        have rx32 := rzx32
        clear rzx32
        refine tg_iload_n Tx.gn (dat dk_X11_tag 46 rfl) rfl ?_
        refine tg_ine Tx.gn 102 (dat dk_X11_tag 47 rfl) rfl (z_i32 rx32) (by omega) (fun c35 => ?_) (fun c35 => ?_)
        · skip
          refine tg_iload_n Tx.gn (dat dk_X11_tag 50 rfl) rfl ?_
          refine tg_ifne Tx.gn 115 (dat dk_X11_tag 51 rfl) rfl (by omega) (fun c36 => ?_) (fun c36 => ?_)
          · skip
            refine tg_aload_p Tx.gn (dat dk_X11_tag 57 rfl) (by have := full.big Ih4 p25_0; omega) rfl ?_
            obtain ⟨x37, ex37⟩ : ∃ y : Int, h4.2.2 x23 7 = y := ⟨_, rfl⟩
            have rx37 := full.f7 Ih4 p25_0
            rw [ex37] at rx37
            refine tg_getIv Tx.gn (y := x37) ex37 g_c0_160 (dat dk_X11_tag 58 rfl) p25_0.1 (tg_bipush Tx.gn (dat dk_X11_tag 59 rfl) (by decide) ?_)
            refine tg_ilt Tx.gn 135 (dat dk_X11_tag 60 rfl) rfl (by omega) (by decide) (fun c38 => ?_) (fun c38 => ?_)
            · skip
              refine tg_aload_p Tx.gn (dat dk_X11_tag 66 rfl) (by have := full.big Ih4 p25_0; omega) rfl (tg_aload_n Tx.gn (dat dk_X11_tag 67 rfl) rfl (tg_getR Tx.gn 20 g_c0_34 (dat dk_X11_tag 68 rfl) (Ih4.atS rfl) (Ih4.atE rfl) (tg_aload_n Tx.gn (dat dk_X11_tag 69 rfl) rfl (tg_getR Tx.gn 6 g_c0_21 (dat dk_X11_tag 70 rfl) (Ih4.atS rfl) (Ih4.atE rfl) (tg_iconst Tx.gn (dat dk_X11_tag 71 rfl) (tg_aload_n Tx.gn (dat dk_X11_tag 72 rfl) rfl (tg_getR Tx.gn 6 g_c0_21 (dat dk_X11_tag 73 rfl) (Ih4.atS rfl) (Ih4.atE rfl) ?_)))))))
              refine tg_cI Tx.gn ca_c0_85 (dat dk_X11_tag 74 rfl) (ct_X1_size l h4 Ih4 6 rfl) rfl ⟨_, _, rfl, (Ih4.atS rfl)⟩ rfl (fun x39 h40 rx39 p41 => ?_)
              obtain ⟨rfl, p41_0⟩ := p41
              have q42 := (id e7).2
              have q43 := Bks.each Ih4 e7.1
              refine tg_cIa Tx.gn ca_c0_165 (dat dk_X11_tag 75 rfl) (ct_X0_enter_v20 l h4 Ih4 6 rfl 0 (by decide) x39 rx39 (show 0 ≤ (0 : Int) ∧ (0 : Int) ≤ x39 ∧ x39 - (0 : Int) ≤ 60 ∧ x39 ≤ 1300 by omega) (e7.1.2.2) (show WB h4 20 ≤ 10000000 by omega) (show h4.2.2 20 5 ≤ 4000000 by omega) (show h4.1 + 4 ≤ 900000 by omega)) rfl ⟨_, _, rfl, (Ih4.atS rfl)⟩ rfl (fun x44 h45 mcx44 msx44 rx44 p46 => ?_)
              obtain ⟨Ih45, fh45, p46_0⟩ := p46
              have f47 : Fr [999, 20, 21, 22, 23, 25, 358, 318, 378, 4, 6, 311, 337] h h45 := Fr.sub f6 fh45 rfl
              have d48 := full.fr fh45 rfl Ih4 p25_0
              have e49 : ENL h h45 (0 + mcx44) (0 + msx44) (0 + 1) (0 + (x39 - (0 : Int))) (0 + 0) := ENL.tr e7 (EN.l20 p46_0 fh45 Ih4 e7.1 rfl rfl) rfl rfl (by omega) (by omega) (by omega)
              refine tg_aload_n Tx.gn (dat dk_X11_tag 76 rfl) rfl (tg_getR Tx.gn 20 g_c0_34 (dat dk_X11_tag 77 rfl) (Ih45.atS rfl) (Ih45.atE rfl) ?_)
              have e50 : h45.2.2 x23 7 = x37 := ((full.get (j := 7) fh45 Ih4 p25_0 rfl).trans ex37)
              refine tg_cV Tx.gn ca_c0_168 (dat dk_X11_tag 78 rfl) (ct_X6_putTag l h45 Ih45 x23 d48 x44 rx44 20 80 rfl (show h45.2.2 x23 7 ≤ 7 by omega)) rfl ⟨_, _, rfl, d48.1⟩ rfl (fun h52 p53 => ?_)
              obtain ⟨Ih52, fh52⟩ := p53
              have f54 : Fr [999, 20, 21, 22, 23, 25, 358, 318, 378, 4, 6, 311, 337] h h52 := Fr.sub f47 fh52 rfl
              have d55 := full.fr fh52 rfl Ih45 d48
              have e56 : ENL h h52 (0 + mcx44) (0 + msx44) (0 + 1) (0 + (x39 - (0 : Int))) (0 + 0) := ENL.fr e49 fh52 Ih45 rfl
              refine tg_iconst Tx.gn (dat dk_X11_tag 79 rfl) ?_
              have e57 : h52.2.2 4 1 = x8 := ((Fr.get fh52 (by have := Ih45.1.1; omega) rfl).trans ((Fr.get fh45 (by have := Ih4.1.1; omega) rfl).trans ex8))
              have e58 : h52.2.2 26 2 = x2 := ((Fr.get fh52 (by have := Ih45.1.1; omega) rfl).trans ((Fr.get fh45 (by have := Ih4.1.1; omega) rfl).trans e9))
              exact Or.inl (to_zret rfl (dat dk_X11_tag 80 rfl) (by decide) (ri_mka (by decide) ⟨Ih52, f54, (by decide), (ENL.mono e56 (by omega) (by omega) (by omega)), (show h52.2.2 4 1 = 0 by omega), (show h52.2.2 26 2 = h.2.2 26 2 by omega)⟩))
            · skip
              exact Or.inr ⟨_, ⟨(ISE, 98, 163, 102, "it has eight others", 107), List.mem_of_getElem? (i := 3) rfl, _, _, _, _, _, rfl, ⟨(dat dk_X11_tag 61 rfl), (dat dk_X11_tag 62 rfl), (dat dk_X11_tag 63 rfl), (dat dk_X11_tag 64 rfl), (dat dk_X11_tag 65 rfl)⟩, ⟨(Or.inr (Or.inr rfl)), Ih4, f6, rfl, rfl, (ENL.mono e7 (by omega) (by omega) (by omega)), (show h4.2.2 4 1 = 0 by omega), (show h4.2.2 26 2 = h.2.2 26 2 by omega)⟩, (show Fr [999, 20, 21, 22, 23, 25, 358, 318, 378, 4, 6, 311, 337] h h4 from f6).1.1, by have := Ih4.1.2.1; omega⟩, sx_rfl _⟩
          · skip
            refine tg_aload_p Tx.gn (dat dk_X11_tag 52 rfl) (by have := full.big Ih4 p25_0; omega) rfl (tg_iload Tx.gn (dat dk_X11_tag 53 rfl) rfl ?_)
            refine tg_cV Tx.gn ca_c0_157 (dat dk_X11_tag 54 rfl) (ct_X6_dropTag l h4 Ih4 x23 p25_0 x29 rx29) rfl ⟨_, _, rfl, p25_0.1⟩ rfl (fun h60 p61 => ?_)
            obtain ⟨Ih60, fh60⟩ := p61
            have f62 : Fr [999, 20, 21, 22, 23, 25, 358, 318, 378, 4, 6, 311, 337] h h60 := Fr.sub f6 fh60 rfl
            have d63 := full.fr fh60 rfl Ih4 p25_0
            have e64 : ENL h h60 0 0 0 0 0 := ENL.fr e7 fh60 Ih4 rfl
            refine tg_iconst Tx.gn (dat dk_X11_tag 55 rfl) ?_
            have e65 : h60.2.2 4 1 = x8 := ((Fr.get fh60 (by have := Ih4.1.1; omega) rfl).trans ex8)
            have e66 : h60.2.2 26 2 = x2 := ((Fr.get fh60 (by have := Ih4.1.1; omega) rfl).trans e9)
            exact Or.inl (to_zret rfl (dat dk_X11_tag 56 rfl) (by decide) (ri_mka (by decide) ⟨Ih60, f62, (by decide), (ENL.mono e64 (by omega) (by omega) (by omega)), (show h60.2.2 4 1 = 0 by omega), (show h60.2.2 26 2 = h.2.2 26 2 by omega)⟩))
        · skip
          refine tg_iconst Tx.gn (dat dk_X11_tag 48 rfl) ?_
          exact Or.inl (to_zret rfl (dat dk_X11_tag 49 rfl) (by decide) (ri_mka (by decide) ⟨Ih4, f6, (by decide), (ENL.mono e7 (by omega) (by omega) (by omega)), (show h4.2.2 4 1 = 0 by omega), (show h4.2.2 26 2 = h.2.2 26 2 by omega)⟩))
      · skip
        exact Or.inr ⟨_, ⟨(IAE, 139, 141, 143, "it is no tag", 105), List.mem_of_getElem? (i := 2) rfl, _, _, _, _, _, rfl, ⟨(dat dk_X11_tag 22 rfl), (dat dk_X11_tag 23 rfl), (dat dk_X11_tag 24 rfl), (dat dk_X11_tag 25 rfl), (dat dk_X11_tag 26 rfl)⟩, ⟨(Or.inr (Or.inl rfl)), Ih4, f6, rfl, rfl, (ENL.mono e7 (by omega) (by omega) (by omega)), (show h4.2.2 4 1 = 0 by omega), (show h4.2.2 26 2 = h.2.2 26 2 by omega)⟩, (show Fr [999, 20, 21, 22, 23, 25, 358, 318, 378, 4, 6, 311, 337] h h4 from f6).1.1, by have := Ih4.1.2.1; omega⟩, sx_rfl _⟩
    · skip
      exact Or.inr ⟨_, ⟨(IOB, 123, 125, 127, "the message is not there", 103), List.mem_of_getElem? (i := 1) rfl, _, _, _, _, _, rfl, ⟨(dat dk_X11_tag 13 rfl), (dat dk_X11_tag 14 rfl), (dat dk_X11_tag 15 rfl), (dat dk_X11_tag 16 rfl), (dat dk_X11_tag 17 rfl)⟩, ⟨Or.inl rfl, Ih4, f6, rfl, rfl, (ENL.mono e7 (by omega) (by omega) (by omega)), (show h4.2.2 4 1 = 0 by omega), (show h4.2.2 26 2 = h.2.2 26 2 by omega)⟩, (show Fr [999, 20, 21, 22, 23, 25, 358, 318, 378, 4, 6, 311, 337] h h4 from f6).1.1, by have := Ih4.1.2.1; omega⟩, sx_rfl _⟩
abbrev Q_X11_search (h : Hp) : Option V → Hp → Nat → Nat → Prop := RI (fun x H => Inv H ∧ Fr [4, 6, 27, 28, 29, 30, 31, 49, 50, 51, 52, 53, 54, 56, 57, 58, 123, 126] h H ∧ (H.2.2 4 1 = 0) ∧ (H.2.2 26 2 = h.2.2 26 2))
abbrev PX_X11_search (h : Hp) : String → Hp → Nat → Nat → Prop := fun E9 H k z => (E9 = IAE) ∧ Inv H ∧ Fr [4, 6, 27, 28, 29, 30, 31, 49, 50, 51, 52, 53, 54, 56, 57, 58, 123, 126] h H ∧ k = 0 ∧ z = 0 ∧ (H.2.2 4 1 = 0) ∧ (H.2.2 26 2 = h.2.2 26 2)
set_option maxRecDepth 100000 in
set_option maxHeartbeats 4000000 in
theorem tx_X11_search (l : Launch) (hst0 : l.stackTraces = false) (h : Hp) (hI : Inv h)  : CtX l D_X11_search 10 220 [.inr (.inr 1)] h (Q_X11_search h) (PX_X11_search h) := by
  refine ctx_of hst0 pn_X11_search rfl (Nat.le_of_ble_eq_true rfl) (by decide) (by decide) ?_
  show Tx l E_X11_search (Q_X11_search h) (XP cX11_search h (PX_X11_search h)) (0, [(0, .inr (.inr 1))], [], h, 0, 0)
  obtain ⟨x1, ex1⟩ : ∃ y : Int, h.2.2 4 1 = y := ⟨_, rfl⟩
  have rx1 := hI.atR (a := 4) (j := 1) rfl
  rw [ex1] at rx1
  obtain ⟨x2, ex2⟩ : ∃ y : Int, h.2.2 26 2 = y := ⟨_, rfl⟩
  have rx2 := hI.atR (a := 26) (j := 2) rfl
  rw [ex2] at rx2
  refine tg_aload_n Tx.gn (dat dk_X11_search 0 rfl) rfl ?_
  refine tg_cV Tx.gn ca_c0_132 (dat dk_X11_search 1 rfl) (ct_X11_takeTape l h hI ) rfl ⟨_, _, rfl, (hI.atS rfl)⟩ rfl (fun h4 p5 => ?_)
  obtain ⟨Ih4, fh4, p5_0⟩ := p5
  have f6 : Fr [4, 6, 27, 28, 29, 30, 31, 49, 50, 51, 52, 53, 54, 56, 57, 58, 123, 126] h h4 := Fr.sub (Fr.rf _ _) fh4 rfl
  obtain ⟨x7, ex7⟩ : ∃ y : Int, h4.2.2 4 1 = y := ⟨_, rfl⟩
  have rx7 := Ih4.atR (a := 4) (j := 1) rfl
  rw [ex7] at rx7
  refine tg_aload_n Tx.gn (dat dk_X11_search 2 rfl) rfl (tg_getR Tx.gn 49 g_c0_67 (dat dk_X11_search 3 rfl) (Ih4.atS rfl) (Ih4.atE rfl) ?_)
  refine tg_cL Tx.gn ca_c0_172 (dat dk_X11_search 4 rfl) (ct_X8_matches l h4 Ih4 ) rfl ⟨_, _, rfl, (Ih4.atS rfl)⟩ rfl (fun x8 h9 p10 => ?_)
  obtain ⟨Ih9, fh9⟩ := p10
  have f11 : Fr [4, 6, 27, 28, 29, 30, 31, 49, 50, 51, 52, 53, 54, 56, 57, 58, 123, 126] h h9 := Fr.sub f6 fh9 rfl
  refine tg_lstore_n Tx.gn (L' := [(1, .inr (.inl x8)), (0, .inr (.inr 1))]) (dat dk_X11_search 5 rfl) (by decide) rfl (tg_aload_n Tx.gn (dat dk_X11_search 6 rfl) rfl (tg_aload_n Tx.gn (dat dk_X11_search 7 rfl) rfl (tg_getR Tx.gn 49 g_c0_67 (dat dk_X11_search 8 rfl) (Ih9.atS rfl) (Ih9.atE rfl) ?_)))
  obtain ⟨x12, ex12⟩ : ∃ y : Int, h9.2.2 49 16 = y := ⟨_, rfl⟩
  have rx12 := Ih9.atR (a := 49) (j := 16) rfl
  rw [ex12] at rx12
  refine tg_getIv Tx.gn (y := x12) ex12 g_c0_176 (dat dk_X11_search 9 rfl) (Ih9.atS rfl) (tg_iconst Tx.gn (dat dk_X11_search 10 rfl) ?_)
  refine tg_iaddA Tx.gn (dat dk_X11_search 11 rfl) (fun x13 rx13 => ?_)
  refine tg_putIw Tx.gn p_c0_179 (dat dk_X11_search 12 rfl) (Ih9.atS rfl) ?_
  intro h16 wh16
  have I14 : Inv h16 := by rw [wh16]; exact Ih9.put (a := 1) (j := 16) (x := x13) (-2147483648) (2147483647) rfl rfl (show (-2147483648 : Int) ≤ x13 ∧ x13 ≤ 2147483647 by omega)
  have f15 : Fr [4, 6, 27, 28, 29, 30, 31, 49, 50, 51, 52, 53, 54, 56, 57, 58, 123, 126] h h16 := by rw [wh16]; exact Fr.putF (a := 1) (j := 16) (x := x13) f11 rfl
  refine tg_aload_n Tx.gn (dat dk_X11_search 13 rfl) rfl (tg_getIv Tx.gn (y := x13) (by rw [wh16]; exact wr_eq) g_c0_179 (dat dk_X11_search 14 rfl) (I14.atS rfl) ?_)
  refine tg_ifle Tx.gn 42 (dat dk_X11_search 15 rfl) rfl rx13 (fun c17 => ?_) (fun c17 => ?_)
  · skip
    refine tg_aload_n Tx.gn (dat dk_X11_search 21 rfl) rfl (tg_lload_n Tx.gn (dat dk_X11_search 22 rfl) rfl ?_)
    refine tg_cV Tx.gn ca_c0_184 (dat dk_X11_search 23 rfl) (ct_X11_keepFound l h16 I14 x8) rfl ⟨_, _, rfl, (I14.atS rfl)⟩ rfl (fun h19 p20 => ?_)
    obtain ⟨Ih19, fh19⟩ := p20
    have f21 : Fr [4, 6, 27, 28, 29, 30, 31, 49, 50, 51, 52, 53, 54, 56, 57, 58, 123, 126] h h19 := Fr.sub f15 fh19 rfl
    refine tg_aload_n Tx.gn (dat dk_X11_search 24 rfl) rfl ?_
    obtain ⟨x22, ex22⟩ : ∃ y : Int, h19.2.2 1 13 = y := ⟨_, rfl⟩
    have rx22 := Ih19.atR (a := 1) (j := 13) rfl
    rw [ex22] at rx22
    refine tg_getIv Tx.gn (y := x22) ex22 g_c0_188 (dat dk_X11_search 25 rfl) (Ih19.atS rfl) ?_
    have e23 : h19.2.2 4 1 = x7 := ((Fr.get fh19 (by have := I14.1.1; omega) rfl).trans (by rw [wh16]; exact (show h9.2.2 4 1 = x7 from ((Fr.get fh9 (by have := Ih4.1.1; omega) rfl).trans ex7))))
    have e24 : h19.2.2 26 2 = x2 := ((Fr.get fh19 (by have := I14.1.1; omega) rfl).trans (by rw [wh16]; exact (show h9.2.2 26 2 = x2 from ((Fr.get fh9 (by have := Ih4.1.1; omega) rfl).trans ((Fr.get fh4 (by have := hI.1.1; omega) rfl).trans ex2)))))
    exact Or.inl (to_iret rfl (dat dk_X11_search 26 rfl) (ri_mk (by omega) ⟨Ih19, f21, (show h19.2.2 4 1 = 0 by omega), (show h19.2.2 26 2 = h.2.2 26 2 by omega)⟩))
  · skip
    have e25 : h16.2.2 4 1 = x7 := (by rw [wh16]; exact (show h9.2.2 4 1 = x7 from ((Fr.get fh9 (by have := Ih4.1.1; omega) rfl).trans ex7)))
    have e26 : h16.2.2 26 2 = x2 := (by rw [wh16]; exact (show h9.2.2 26 2 = x2 from ((Fr.get fh9 (by have := Ih4.1.1; omega) rfl).trans ((Fr.get fh4 (by have := hI.1.1; omega) rfl).trans ex2))))
    exact Or.inr ⟨_, ⟨(IAE, 139, 182, 143, "it is no query", 109), List.mem_of_getElem? (i := 4) rfl, _, _, _, _, _, rfl, ⟨(dat dk_X11_search 16 rfl), (dat dk_X11_search 17 rfl), (dat dk_X11_search 18 rfl), (dat dk_X11_search 19 rfl), (dat dk_X11_search 20 rfl)⟩, ⟨rfl, I14, f15, rfl, rfl, (show h16.2.2 4 1 = 0 by omega), (show h16.2.2 26 2 = h.2.2 26 2 by omega)⟩, (show Fr [4, 6, 27, 28, 29, 30, 31, 49, 50, 51, 52, 53, 54, 56, 57, 58, 123, 126] h h16 from f15).1.1, by have := I14.1.2.1; omega⟩, sx_rfl _⟩
