/-! Contracts, by program. -/
abbrev Q_X9_isDigit_vy (h : Hp) (b : Int) : Option V → Hp → Nat → Nat → Prop := RI (fun x H => h = H ∧ (x = 0 ∨ x = 1) ∧ ((x = 1 ∧ 48 ≤ b ∧ b ≤ 57) ∨ (x = 0 ∧ (b < 48 ∨ 57 < b))))
set_option maxRecDepth 100000 in
theorem ct_X9_isDigit_vy (l : Launch) (h : Hp) (hI : Inv h) (b : Int) (hb : I32 b) : Ct l D_X9_isDigit 0 0 [.inl b] h (Q_X9_isDigit_vy h b) := by
  refine ct_of pn_X9_isDigit (Nat.le_of_ble_eq_true rfl) ?_
  show To l E_X9_isDigit (0, [(0, .inl b)], [], h, 0, 0) _
  refine to_iload_n (dat dk_X9_isDigit 0 rfl) rfl (to_bipush (dat dk_X9_isDigit 1 rfl) (by decide) ?_)
  refine to_ilt 16 (dat dk_X9_isDigit 2 rfl) rfl hb (by decide) (fun c1 => ?_) (fun c1 => ?_)
  · skip
    refine to_iconst (dat dk_X9_isDigit 8 rfl) ?_
    exact to_zret rfl (dat dk_X9_isDigit 9 rfl) (by decide) (ri_mk (by decide) ⟨rfl, (by decide), (show ((0 : Int) = 1 ∧ 48 ≤ b ∧ b ≤ 57) ∨ ((0 : Int) = 0 ∧ (b < 48 ∨ 57 < b)) by omega)⟩)
  · skip
    refine to_iload_n (dat dk_X9_isDigit 3 rfl) rfl (to_bipush (dat dk_X9_isDigit 4 rfl) (by decide) ?_)
    refine to_igt 16 (dat dk_X9_isDigit 5 rfl) rfl hb (by decide) (fun c2 => ?_) (fun c2 => ?_)
    · skip
      refine to_iconst (dat dk_X9_isDigit 8 rfl) ?_
      exact to_zret rfl (dat dk_X9_isDigit 9 rfl) (by decide) (ri_mk (by decide) ⟨rfl, (by decide), (show ((0 : Int) = 1 ∧ 48 ≤ b ∧ b ≤ 57) ∨ ((0 : Int) = 0 ∧ (b < 48 ∨ 57 < b)) by omega)⟩)
    · skip
      refine to_iconst (dat dk_X9_isDigit 6 rfl) (to_goto (dat dk_X9_isDigit 7 rfl) rfl ?_)
      exact to_zret rfl (dat dk_X9_isDigit 9 rfl) (by decide) (ri_mk (by decide) ⟨rfl, (by decide), (show ((1 : Int) = 1 ∧ 48 ≤ b ∧ b ≤ 57) ∨ ((1 : Int) = 0 ∧ (b < 48 ∨ 57 < b)) by omega)⟩)
abbrev Q_X11_isTag_vx (h : Hp) : Option V → Hp → Nat → Nat → Prop := RI (fun x H => h = H ∧ (x = 0 ∨ x = 1) ∧ ((x = 1 ∧ isTg (H.2.2 7) (H.2.2 6 1)) ∨ (x = 0 ∧ ¬ isTg (H.2.2 7) (H.2.2 6 1))))
set_option maxRecDepth 100000 in
theorem ct_X11_isTag_vx (l : Launch) (h : Hp) (hI : Inv h)  : Ct l D_X11_isTag 1 21 [.inr (.inr 6)] h (Q_X11_isTag_vx h) := by
  refine ct_of pn_X11_isTag (Nat.le_of_ble_eq_true rfl) ?_
  show To l E_X11_isTag (0, [(0, .inr (.inr 6))], [], h, 0, 0) _
  refine to_iconst (dat dk_X11_isTag 0 rfl) (to_istore_n (L' := [(0, .inr (.inr 6)), (1, .inl 0)]) (dat dk_X11_isTag 1 rfl) (by decide) rfl ?_)
  have lp2_n4 : ∀ (n4 : Nat) (y1 : Int), (I32 y1) → (0 ≤ y1) → (∀ i : Nat, (i : Int) < y1 → gch (h.2.2 7 i)) → (h.2.2 6 1 - y1 ≤ (n4 : Int)) → To l E_X11_isTag (2, [(0, .inr (.inr 6)), (1, .inl y1)], [], h, 0, 0) (Q_X11_isTag_vx h) := by
    intro n4
    induction n4 using Nat.strongRecOn with
    | _ n4 ihn4 =>
    intro y1 ry1 c2 c3 c5
    refine to_iload_n (dat dk_X11_isTag 2 rfl) rfl (to_aload_n (dat dk_X11_isTag 3 rfl) rfl ?_)
    obtain ⟨x6, ex6⟩ : ∃ y : Int, h.2.2 6 1 = y := ⟨_, rfl⟩
    have rx6 := hI.atR (a := 6) (j := 1) rfl
    rw [ex6] at rx6
    refine to_cI ca_c0_85 (dat dk_X11_isTag 4 rfl) (ct_X1_size l h hI 6 rfl) rfl ⟨_, _, rfl, (hI.atS rfl)⟩ rfl (fun x7 h8 rx7 p9 => ?_)
    obtain ⟨rfl, p9_0⟩ := p9
    refine to_ige 43 (dat dk_X11_isTag 5 rfl) rfl ry1 rx7 (fun c10 => ?_) (fun c10 => ?_)
    · skip
      refine to_aload_n (dat dk_X11_isTag 23 rfl) rfl ?_
      refine to_cI ca_c0_85 (dat dk_X11_isTag 24 rfl) (ct_X1_size l h hI 6 rfl) rfl ⟨_, _, rfl, (hI.atS rfl)⟩ rfl (fun x11 h12 rx11 p13 => ?_)
      obtain ⟨rfl, p13_0⟩ := p13
      refine to_iconst (dat dk_X11_isTag 25 rfl) ?_
      refine to_ilt 64 (dat dk_X11_isTag 26 rfl) rfl rx11 (by decide) (fun c14 => ?_) (fun c14 => ?_)
      · skip
        refine to_iconst (dat dk_X11_isTag 33 rfl) ?_
        exact to_zret rfl (dat dk_X11_isTag 34 rfl) (by decide) (ri_mk (by decide) ⟨rfl, (by decide), (Or.inr ⟨rfl, fun q => by have := q.1; omega⟩)⟩)
      · skip
        refine to_aload_n (dat dk_X11_isTag 27 rfl) rfl ?_
        refine to_cI ca_c0_85 (dat dk_X11_isTag 28 rfl) (ct_X1_size l h hI 6 rfl) rfl ⟨_, _, rfl, (hI.atS rfl)⟩ rfl (fun x15 h16 rx15 p17 => ?_)
        obtain ⟨rfl, p17_0⟩ := p17
        refine to_bipush (dat dk_X11_isTag 29 rfl) (by decide) ?_
        refine to_igt 64 (dat dk_X11_isTag 30 rfl) rfl rx15 (by decide) (fun c18 => ?_) (fun c18 => ?_)
        · skip
          refine to_iconst (dat dk_X11_isTag 33 rfl) ?_
          exact to_zret rfl (dat dk_X11_isTag 34 rfl) (by decide) (ri_mk (by decide) ⟨rfl, (by decide), (Or.inr ⟨rfl, fun q => by have := q.1; omega⟩)⟩)
        · skip
          refine to_iconst (dat dk_X11_isTag 31 rfl) (to_goto (dat dk_X11_isTag 32 rfl) rfl ?_)
          exact to_zret rfl (dat dk_X11_isTag 34 rfl) (by decide) (ri_mk (by decide) ⟨rfl, (by decide), (Or.inl ⟨rfl, ⟨by omega, by omega⟩, fun i hi => c3 i (by omega)⟩)⟩)
    · skip
      refine to_aload_n (dat dk_X11_isTag 6 rfl) rfl (to_iload_n (dat dk_X11_isTag 7 rfl) rfl ?_)
      refine to_cI ca_c0_249 (dat dk_X11_isTag 8 rfl) (ct_X1_byteAt_v6y l h hI y1 ry1) rfl ⟨_, _, rfl, (hI.atS rfl)⟩ rfl (fun x19 h20 rx19 p21 => ?_)
      obtain ⟨rfl, p21_0⟩ := p21
      have zr7 := hI.atR (a := 7) (j := Int.toNat y1) rfl
      refine to_istore_n (L' := [(0, .inr (.inr 6)), (1, .inl y1), (2, .inl x19)]) (dat dk_X11_isTag 9 rfl) (by decide) rfl (to_iload_n (dat dk_X11_isTag 10 rfl) rfl ?_)
      refine to_cI ca_c0_252 (dat dk_X11_isTag 11 rfl) (ct_X9_isDigit_vy l h hI x19 rx19) rfl trivial rfl (fun x22 h23 rx22 p24 => ?_)
      obtain ⟨rfl, zx22, p24_0⟩ := p24
      refine to_ifne 37 (dat dk_X11_isTag 12 rfl) rfl rx22 (fun c25 => ?_) (fun c25 => ?_)
      · skip
        refine to_iinc (L' := [(0, .inr (.inr 6)), (1, .inl (y1 + 1)), (2, .inl x19)]) (dat dk_X11_isTag 21 rfl) rfl (by decide) rfl (to_goto (dat dk_X11_isTag 22 rfl) rfl ?_)
        refine to_pick [0, 1] rfl ?_
        exact ihn4 (n4 - 1) (by omega) (y1 + 1) (by omega) (show 0 ≤ (y1 + 1) by omega) (fun i hi => if ci : (i : Int) = y1 then (by rw [show i = Int.toNat y1 by omega]; unfold gch; omega) else c3 i (by omega)) (show h.2.2 6 1 - (y1 + 1) ≤ ((n4 - 1 : Nat) : Int) by omega)
      · skip
        refine to_iload_n (dat dk_X11_isTag 13 rfl) rfl (to_bipush (dat dk_X11_isTag 14 rfl) (by decide) ?_)
        refine to_ilt 35 (dat dk_X11_isTag 15 rfl) rfl rx19 (by decide) (fun c26 => ?_) (fun c26 => ?_)
        · skip
          refine to_iconst (dat dk_X11_isTag 19 rfl) ?_
          exact to_zret rfl (dat dk_X11_isTag 20 rfl) (by decide) (ri_mk (by decide) ⟨rfl, (by decide), (Or.inr ⟨rfl, isTg_no (k := y1) ⟨by omega, by omega⟩ rfl (by unfold gch; omega)⟩)⟩)
        · skip
          refine to_iload_n (dat dk_X11_isTag 16 rfl) rfl (to_bipush (dat dk_X11_isTag 17 rfl) (by decide) ?_)
          refine to_ile 37 (dat dk_X11_isTag 18 rfl) rfl rx19 (by decide) (fun c27 => ?_) (fun c27 => ?_)
          · skip
            refine to_iinc (L' := [(0, .inr (.inr 6)), (1, .inl (y1 + 1)), (2, .inl x19)]) (dat dk_X11_isTag 21 rfl) rfl (by decide) rfl (to_goto (dat dk_X11_isTag 22 rfl) rfl ?_)
            refine to_pick [0, 1] rfl ?_
            exact ihn4 (n4 - 1) (by omega) (y1 + 1) (by omega) (show 0 ≤ (y1 + 1) by omega) (fun i hi => if ci : (i : Int) = y1 then (by rw [show i = Int.toNat y1 by omega]; unfold gch; omega) else c3 i (by omega)) (show h.2.2 6 1 - (y1 + 1) ≤ ((n4 - 1 : Nat) : Int) by omega)
          · skip
            refine to_iconst (dat dk_X11_isTag 19 rfl) ?_
            exact to_zret rfl (dat dk_X11_isTag 20 rfl) (by decide) (ri_mk (by decide) ⟨rfl, (by decide), (Or.inr ⟨rfl, isTg_no (k := y1) ⟨by omega, by omega⟩ rfl (by unfold gch; omega)⟩)⟩)
  exact lp2_n4 (h.2.2 6 1 - (0 : Int)).toNat 0 (by decide) (show 0 ≤ (0 : Int) by omega) (fun i hi => absurd hi (by omega)) (by omega)
abbrev Q_X11_tag_vx (h : Hp) (n : Int) (o : Int) : Option V → Hp → Nat → Nat → Prop := RIa (fun x H mc ms => Inv H ∧ Fr [999, 20, 21, 22, 23, 25, 358, 318, 378, 4, 6, 311, 337] h H ∧ (x = 0 ∨ x = 1) ∧ (ENL h H mc ms (1) (60) (0)) ∧ (H.2.2 4 1 = 0) ∧ (H.2.2 26 2 = h.2.2 26 2) ∧ (TGN h H n o x))
abbrev PX_X11_tag_vx (h : Hp) (n : Int) (o : Int) : String → Hp → Nat → Nat → Prop := fun E9 H k z => (E9 = IOB ∨ E9 = IAE ∨ E9 = ISE) ∧ Inv H ∧ Fr [999, 20, 21, 22, 23, 25, 358, 318, 378, 4, 6, 311, 337] h H ∧ k = 0 ∧ z = 0 ∧ (ENL h H 0 0 (0) (0) (0)) ∧ (H.2.2 4 1 = 0) ∧ (H.2.2 26 2 = h.2.2 26 2) ∧ (TGT h H n o E9)
set_option maxRecDepth 100000 in
set_option maxHeartbeats 8000000 in
theorem tx_X11_tag_vx (l : Launch) (hst0 : l.stackTraces = false) (h : Hp) (hI : Inv h) (n : Int) (hn : I32 n) (o : Int) (ho : o = 0 ∨ o = 1) (g0 : Bks h) (g1 : WT h ≤ 9000000) (g2 : ET h ≤ 3000000) (g3 : h.1 ≤ 800000) (g4 : BI h) (g5 : TGP h) : CtX l D_X11_tag 6 153 [.inr (.inr 1), .inl n, .inl o] h (Q_X11_tag_vx h n o) (PX_X11_tag_vx h n o) := by
  refine ctx_of hst0 pn_X11_tag rfl (Nat.le_of_ble_eq_true rfl) (by decide) (by decide) ?_
  show Tx l E6_X11_tag (Q_X11_tag_vx h n o) (XP cX11_tag h (PX_X11_tag_vx h n o)) (0, [(0, .inr (.inr 1)), (1, .inl n), (2, .inl o)], [], h, 0, 0)
  have e00 : ENL h h 0 0 0 0 0 := ENL.rf g0 (by decide) (by decide) (by decide)
  obtain ⟨x1, ex1⟩ : ∃ y : Int, h.2.2 4 1 = y := ⟨_, rfl⟩
  have rx1 := hI.atR (a := 4) (j := 1) rfl
  rw [ex1] at rx1
  obtain ⟨x2, ex2⟩ : ∃ y : Int, h.2.2 26 2 = y := ⟨_, rfl⟩
  have rx2 := hI.atR (a := 26) (j := 2) rfl
  rw [ex2] at rx2
  refine tg_aload_n Tx.gn (dat dk_X11_tag 0 rfl) rfl ?_
  refine tg_cV Tx.gn ca_c0_132 (dat dk_X11_tag 1 rfl) (ct_X11_takeTape_vx l h hI ) rfl ⟨_, _, rfl, (hI.atS rfl)⟩ rfl (fun h4 p5 => ?_)
  obtain ⟨Ih4, fh4, p5_0, p5_1, p5_2⟩ := p5
  have f6 : Fr [999, 20, 21, 22, 23, 25, 358, 318, 378, 4, 6, 311, 337] h h4 := Fr.sub (Fr.rf _ _) fh4 rfl
  have e7 : ENL h h4 0 0 0 0 0 := ENL.fr e00 fh4 hI rfl
  obtain ⟨x8, ex8⟩ : ∃ y : Int, h4.2.2 4 1 = y := ⟨_, rfl⟩
  have rx8 := Ih4.atR (a := 4) (j := 1) rfl
  rw [ex8] at rx8
  obtain ⟨x9, ex9⟩ : ∃ y : Int, h4.2.2 6 1 = y := ⟨_, rfl⟩
  have rx9 := Ih4.atR (a := 6) (j := 1) rfl
  rw [ex9] at rx9
  have zTT : TTx h h4 := ⟨Ih4, fh4, p5_2, p5_1⟩
  have zBI := (BI.fr fh4 hI rfl g4).1
  have zTP := TGP.fr fh4 hI g5 rfl rfl
  refine tg_aload_n Tx.gn (dat dk_X11_tag 2 rfl) rfl (tg_iload_n Tx.gn (dat dk_X11_tag 3 rfl) rfl ?_)
  have e10 : h4.2.2 26 2 = x2 := ((Fr.get fh4 (by have := hI.1.1; omega) rfl).trans ex2)
  refine tg_cI Tx.gn ca_c0_119 (dat dk_X11_tag 4 rfl) (ct_X11_placeOf_vb l h4 Ih4 n hn) rfl ⟨_, _, rfl, (Ih4.atS rfl)⟩ rfl (fun x11 h12 rx11 p13 => ?_)
  obtain ⟨rfl, p13_0, p13_1⟩ := p13
  refine tg_istore_n Tx.gn (L' := [(0, .inr (.inr 1)), (1, .inl n), (2, .inl o), (3, .inl x11)]) (dat dk_X11_tag 5 rfl) (by decide) rfl (tg_iload_n Tx.gn (dat dk_X11_tag 6 rfl) rfl ?_)
  refine tg_iflt Tx.gn 25 (dat dk_X11_tag 7 rfl) rfl rx11 (fun c14 => ?_) (fun c14 => ?_)
  · skip
    exact Or.inr ⟨_, ⟨(IOB, 123, 125, 127, "the message is not there", 103), List.mem_of_getElem? (i := 1) rfl, _, _, _, _, _, rfl, ⟨(dat dk_X11_tag 13 rfl), (dat dk_X11_tag 14 rfl), (dat dk_X11_tag 15 rfl), (dat dk_X11_tag 16 rfl), (dat dk_X11_tag 17 rfl)⟩, ⟨Or.inl rfl, Ih4, f6, rfl, rfl, (ENL.mono e7 (by omega) (by omega) (by omega)), (show h4.2.2 4 1 = 0 by omega), (show h4.2.2 26 2 = h.2.2 26 2 by omega), ⟨zTT, Or.inl ⟨rfl, by rcases p13_1 with ⟨_, q⟩ | ⟨q, _⟩; exact q; omega⟩⟩⟩, (show Fr [999, 20, 21, 22, 23, 25, 358, 318, 378, 4, 6, 311, 337] h h4 from f6).1.1, by have := Ih4.1.2.1; omega⟩, sx_rfl _⟩
  · skip
    refine tg_iload_n Tx.gn (dat dk_X11_tag 8 rfl) rfl (tg_aload_n Tx.gn (dat dk_X11_tag 9 rfl) rfl (tg_getR Tx.gn 26 g_c0_40 (dat dk_X11_tag 10 rfl) (Ih4.atS rfl) (Ih4.atE rfl) ?_))
    refine tg_cI Tx.gn ca_c0_93 (dat dk_X11_tag 11 rfl) (ct_Jx4a65c_size_8abf5 l h4 Ih4 ) rfl ⟨_, _, rfl, (Ih4.atS rfl)⟩ rfl (fun x15 h16 rx15 p17 => ?_)
    obtain ⟨rfl, p17_0, p17_1⟩ := p17
    refine tg_ilt Tx.gn 35 (dat dk_X11_tag 12 rfl) rfl rx11 rx15 (fun c18 => ?_) (fun c18 => ?_)
    · skip
      obtain ⟨zM0, zTM0⟩ : ∃ M : Nat, TM h4 n x11 M := by obtain ⟨e9, n9, m9, q9, m91, m92⟩ := elS_full (j := Int.toNat x11) Ih4 (by omega); exact ⟨m9, by omega, (by rcases p13_1 with ⟨q, _⟩ | ⟨_, q⟩; omega; exact q), m91, m92⟩
      refine tg_aload_n Tx.gn (dat dk_X11_tag 18 rfl) rfl (tg_getR Tx.gn 6 g_c0_21 (dat dk_X11_tag 19 rfl) (Ih4.atS rfl) (Ih4.atE rfl) ?_)
      refine tg_cI Tx.gn ca_c0_135 (dat dk_X11_tag 20 rfl) (ct_X11_isTag_vx l h4 Ih4 ) rfl trivial rfl (fun x19 h20 rx19 p21 => ?_)
      obtain ⟨rfl, zx19, p21_0⟩ := p21
      have rzx19 := z_lin zx19
      clear zx19
      clear rx19
      have rx19 := rzx19
      clear rzx19
      refine tg_ifne Tx.gn 55 (dat dk_X11_tag 21 rfl) rfl (z_i32 rx19) (fun c22 => ?_) (fun c22 => ?_)
      · skip
        replace c22 := z_one rx19 c22
        refine tg_aload_n Tx.gn (dat dk_X11_tag 27 rfl) rfl (tg_getR Tx.gn 26 g_c0_40 (dat dk_X11_tag 28 rfl) (Ih4.atS rfl) (Ih4.atE rfl) (tg_iload_n Tx.gn (dat dk_X11_tag 29 rfl) rfl ?_))
        refine tg_cR Tx.gn ca_c0_144 (dat dk_X11_tag 30 rfl) (ct_Jx4a65c_get_915e3_vb l h4 Ih4 x11 rx11 (show 0 ≤ x11 ∧ x11 < h4.2.2 26 2 by omega)) rfl ⟨_, _, rfl, (Ih4.atS rfl)⟩ rfl (fun x23 h24 p25 => ?_)
        obtain ⟨rfl, p25_0, p25_1⟩ := p25
        refine tg_castM Tx.gn (C := RX6) (T := TX6) (N := 8) (ci := 5) rfl (tin 2 235 (by decide +kernel) rfl) (dat dk_X11_tag 31 rfl) p25_0.1 (tg_astore Tx.gn (L' := [(0, .inr (.inr 1)), (1, .inl n), (2, .inl o), (3, .inl x11), (4, .inr (.inr x23))]) (dat dk_X11_tag 32 rfl) (by have := full.big Ih4 p25_0; omega) (by decide) rfl ?_)
        have zTM : TM h4 n x11 x23 := ⟨by omega, by rcases p13_1 with ⟨q, _⟩ | ⟨_, q⟩; omega; exact q, p25_1, p25_0⟩
        have zT8 := zTP (Int.toNat x11) x23 (by omega) p25_1
        have ztg : isTg (h4.2.2 7) (h4.2.2 6 1) := by rcases p21_0 with ⟨_, q⟩ | ⟨q, _⟩; exact q; omega
        have zt1 := ztg.1
        refine tg_aload_n Tx.gn (dat dk_X11_tag 33 rfl) rfl (tg_getR Tx.gn 20 g_c0_34 (dat dk_X11_tag 34 rfl) (Ih4.atS rfl) (Ih4.atE rfl) (tg_aload_n Tx.gn (dat dk_X11_tag 35 rfl) rfl (tg_getR Tx.gn 6 g_c0_21 (dat dk_X11_tag 36 rfl) (Ih4.atS rfl) (Ih4.atE rfl) (tg_iconst Tx.gn (dat dk_X11_tag 37 rfl) (tg_aload_n Tx.gn (dat dk_X11_tag 38 rfl) rfl (tg_getR Tx.gn 6 g_c0_21 (dat dk_X11_tag 39 rfl) (Ih4.atS rfl) (Ih4.atE rfl) ?_))))))
        refine tg_cI Tx.gn ca_c0_85 (dat dk_X11_tag 40 rfl) (ct_X1_size l h4 Ih4 6 rfl) rfl ⟨_, _, rfl, (Ih4.atS rfl)⟩ rfl (fun x26 h27 rx26 p28 => ?_)
        obtain ⟨rfl, p28_0⟩ := p28
        refine tg_cI Tx.gn ca_c0_149 (dat dk_X11_tag 41 rfl) (ct_X0_find_v20x l h4 Ih4 x26 rx26 (e7.1.2.2) zBI (show 0 ≤ x26 ∧ x26 ≤ h4.2.2 6 1 by omega)) rfl ⟨_, _, rfl, (Ih4.atS rfl)⟩ rfl (fun x29 h30 rx29 p31 => ?_)
        obtain ⟨rfl, p31_0⟩ := p31
        have zTF : TF h4 x29 := by have z := p31_0; rw [show x26 = h4.2.2 6 1 by omega] at z; exact z
        refine tg_istore Tx.gn (L' := [(0, .inr (.inr 1)), (1, .inl n), (2, .inl o), (3, .inl x11), (4, .inr (.inr x23)), (5, .inl x29)]) (dat dk_X11_tag 42 rfl) (by decide) rfl (tg_aload_p Tx.gn (dat dk_X11_tag 43 rfl) (by have := full.big Ih4 p25_0; omega) rfl (tg_iload Tx.gn (dat dk_X11_tag 44 rfl) rfl ?_))
        refine tg_cI Tx.gn ca_c0_153 (dat dk_X11_tag 45 rfl) (ct_X6_hasTag_vx l h4 Ih4 x23 p25_0 x29 rx29 zT8) rfl ⟨_, _, rfl, p25_0.1⟩ rfl (fun x32 h33 rx32 p34 => ?_)
        obtain ⟨rfl, zx32, p34_0⟩ := p34
        have rzx32 := z_lin zx32
        clear zx32
        clear rx32
        have rx32 := rzx32
        clear rzx32
        refine tg_iload_n Tx.gn (dat dk_X11_tag 46 rfl) rfl ?_
        refine tg_ine Tx.gn 102 (dat dk_X11_tag 47 rfl) rfl (z_i32 rx32) (by omega) (fun c35 => ?_) (fun c35 => ?_)
        · skip
          refine tg_iload_n Tx.gn (dat dk_X11_tag 50 rfl) rfl ?_
          refine tg_ifne Tx.gn 115 (dat dk_X11_tag 51 rfl) rfl (by omega) (fun c36 => ?_) (fun c36 => ?_)
          · skip
            refine tg_aload_p Tx.gn (dat dk_X11_tag 57 rfl) (by have := full.big Ih4 p25_0; omega) rfl ?_
            obtain ⟨x37, ex37⟩ : ∃ y : Int, h4.2.2 x23 7 = y := ⟨_, rfl⟩
            have rx37 := full.f7 Ih4 p25_0
            rw [ex37] at rx37
            refine tg_getIv Tx.gn (y := x37) ex37 g_c0_160 (dat dk_X11_tag 58 rfl) p25_0.1 (tg_bipush Tx.gn (dat dk_X11_tag 59 rfl) (by decide) ?_)
            refine tg_ilt Tx.gn 135 (dat dk_X11_tag 60 rfl) rfl (by omega) (by decide) (fun c38 => ?_) (fun c38 => ?_)
            · skip
              refine tg_aload_p Tx.gn (dat dk_X11_tag 66 rfl) (by have := full.big Ih4 p25_0; omega) rfl (tg_aload_n Tx.gn (dat dk_X11_tag 67 rfl) rfl (tg_getR Tx.gn 20 g_c0_34 (dat dk_X11_tag 68 rfl) (Ih4.atS rfl) (Ih4.atE rfl) (tg_aload_n Tx.gn (dat dk_X11_tag 69 rfl) rfl (tg_getR Tx.gn 6 g_c0_21 (dat dk_X11_tag 70 rfl) (Ih4.atS rfl) (Ih4.atE rfl) (tg_iconst Tx.gn (dat dk_X11_tag 71 rfl) (tg_aload_n Tx.gn (dat dk_X11_tag 72 rfl) rfl (tg_getR Tx.gn 6 g_c0_21 (dat dk_X11_tag 73 rfl) (Ih4.atS rfl) (Ih4.atE rfl) ?_)))))))
              refine tg_cI Tx.gn ca_c0_85 (dat dk_X11_tag 74 rfl) (ct_X1_size l h4 Ih4 6 rfl) rfl ⟨_, _, rfl, (Ih4.atS rfl)⟩ rfl (fun x39 h40 rx39 p41 => ?_)
              obtain ⟨rfl, p41_0⟩ := p41
              have q42 := (id e7).2
              have q43 := Bks.each Ih4 e7.1
              refine tg_cIa Tx.gn ca_c0_165 (dat dk_X11_tag 75 rfl) (ct_X0_enter_v20x l h4 Ih4 x39 rx39 (show 0 < x39 ∧ x39 ≤ 60 by omega) (e7.1.2.2) (show WB h4 20 ≤ 10000000 by omega) (show h4.2.2 20 5 ≤ 4000000 by omega) (show h4.1 + 4 ≤ 900000 by omega) (show x39 ≤ h4.2.2 6 1 by omega) zBI) rfl ⟨_, _, rfl, (Ih4.atS rfl)⟩ rfl (fun x44 h45 mcx44 msx44 rx44 p46 => ?_)
              obtain ⟨Ih45, fh45, p46_0, p46_1⟩ := p46
              have f47 : Fr [999, 20, 21, 22, 23, 25, 358, 318, 378, 4, 6, 311, 337] h h45 := Fr.sub f6 fh45 rfl
              have d48 := full.fr fh45 rfl Ih4 p25_0
              have e49 : ENL h h45 (0 + mcx44) (0 + msx44) (0 + 1) (0 + (x39)) (0 + 0) := ENL.tr e7 (EN.l20 p46_0 fh45 Ih4 e7.1 rfl rfl) rfl rfl (by omega) (by omega) (by omega)
              have zEN := p46_1
              rw [show x39 = h4.2.2 6 1 by omega] at zEN
              have zT8b := zT8.fr fh45 Ih4 zTM.2.2.2 rfl
              refine tg_aload_n Tx.gn (dat dk_X11_tag 76 rfl) rfl (tg_getR Tx.gn 20 g_c0_34 (dat dk_X11_tag 77 rfl) (Ih45.atS rfl) (Ih45.atE rfl) ?_)
              have e50 : h45.2.2 x23 7 = x37 := ((full.get (j := 7) fh45 Ih4 p25_0 rfl).trans ex37)
              refine tg_cV Tx.gn ca_c0_168 (dat dk_X11_tag 78 rfl) (ct_X6_putTag_vx l h45 Ih45 x23 d48 x44 rx44 20 80 rfl zT8b (show h45.2.2 x23 7 ≤ 7 by omega)) rfl ⟨_, _, rfl, d48.1⟩ rfl (fun h52 p53 => ?_)
              obtain ⟨Ih52, fh52, p53_0⟩ := p53
              have f54 : Fr [999, 20, 21, 22, 23, 25, 358, 318, 378, 4, 6, 311, 337] h h52 := Fr.sub f47 fh52 rfl
              have d55 := full.fr fh52 rfl Ih45 d48
              have e56 : ENL h h52 (0 + mcx44) (0 + msx44) (0 + 1) (0 + (x39)) (0 + 0) := ENL.fr e49 fh52 Ih45 rfl
              refine tg_iconst Tx.gn (dat dk_X11_tag 79 rfl) ?_
              have e57 : h52.2.2 4 1 = x8 := ((Fr.get fh52 (by have := Ih45.1.1; omega) rfl).trans ((Fr.get fh45 (by have := Ih4.1.1; omega) rfl).trans ex8))
              have e58 : h52.2.2 26 2 = x2 := ((Fr.get fh52 (by have := Ih45.1.1; omega) rfl).trans ((Fr.get fh45 (by have := Ih4.1.1; omega) rfl).trans e10))
              exact Or.inl (to_zret rfl (dat dk_X11_tag 80 rfl) (by decide) (ri_mka (by decide) ⟨Ih52, f54, (by decide), (ENL.mono e56 (by omega) (by omega) (by omega)), (show h52.2.2 4 1 = 0 by omega), (show h52.2.2 26 2 = h.2.2 26 2 by omega), ⟨_, _, _, _, zTT, zTM, ztg, zTF, Or.inr (Or.inr ⟨rfl, by omega, (by rcases p34_0 with ⟨q, _⟩ | ⟨_, q⟩; omega; exact q), by omega, _, _, Ih45, fh45, zEN, p53_0⟩)⟩⟩))
            · skip
              exact Or.inr ⟨_, ⟨(ISE, 98, 163, 102, "it has eight others", 107), List.mem_of_getElem? (i := 3) rfl, _, _, _, _, _, rfl, ⟨(dat dk_X11_tag 61 rfl), (dat dk_X11_tag 62 rfl), (dat dk_X11_tag 63 rfl), (dat dk_X11_tag 64 rfl), (dat dk_X11_tag 65 rfl)⟩, ⟨(Or.inr (Or.inr rfl)), Ih4, f6, rfl, rfl, (ENL.mono e7 (by omega) (by omega) (by omega)), (show h4.2.2 4 1 = 0 by omega), (show h4.2.2 26 2 = h.2.2 26 2 by omega), ⟨zTT, Or.inr ⟨_, _, zTM, Or.inr ⟨rfl, ztg, by omega, by omega, _, zTF, (by rcases p34_0 with ⟨q, _⟩ | ⟨_, q⟩; omega; exact q)⟩⟩⟩⟩, (show Fr [999, 20, 21, 22, 23, 25, 358, 318, 378, 4, 6, 311, 337] h h4 from f6).1.1, by have := Ih4.1.2.1; omega⟩, sx_rfl _⟩
          · skip
            refine tg_aload_p Tx.gn (dat dk_X11_tag 52 rfl) (by have := full.big Ih4 p25_0; omega) rfl (tg_iload Tx.gn (dat dk_X11_tag 53 rfl) rfl ?_)
            refine tg_cV Tx.gn ca_c0_157 (dat dk_X11_tag 54 rfl) (ct_X6_dropTag_vx l h4 Ih4 x23 p25_0 x29 rx29 zT8 (((p34_0).resolve_right (fun q => absurd q.1 (by omega))).2).2) rfl ⟨_, _, rfl, p25_0.1⟩ rfl (fun h60 p61 => ?_)
            obtain ⟨Ih60, fh60, p61_0⟩ := p61
            have f62 : Fr [999, 20, 21, 22, 23, 25, 358, 318, 378, 4, 6, 311, 337] h h60 := Fr.sub f6 fh60 rfl
            have d63 := full.fr fh60 rfl Ih4 p25_0
            have e64 : ENL h h60 0 0 0 0 0 := ENL.fr e7 fh60 Ih4 rfl
            refine tg_iconst Tx.gn (dat dk_X11_tag 55 rfl) ?_
            have e65 : h60.2.2 4 1 = x8 := ((Fr.get fh60 (by have := Ih4.1.1; omega) rfl).trans ex8)
            have e66 : h60.2.2 26 2 = x2 := ((Fr.get fh60 (by have := Ih4.1.1; omega) rfl).trans e10)
            exact Or.inl (to_zret rfl (dat dk_X11_tag 56 rfl) (by decide) (ri_mka (by decide) ⟨Ih60, f62, (by decide), (ENL.mono e64 (by omega) (by omega) (by omega)), (show h60.2.2 4 1 = 0 by omega), (show h60.2.2 26 2 = h.2.2 26 2 by omega), ⟨_, _, _, _, zTT, zTM, ztg, zTF, Or.inr (Or.inl ⟨rfl, by omega, (((p34_0).resolve_right (fun q => absurd q.1 (by omega))).2).1, (((p34_0).resolve_right (fun q => absurd q.1 (by omega))).2).2, p61_0⟩)⟩⟩))
        · skip
          refine tg_iconst Tx.gn (dat dk_X11_tag 48 rfl) ?_
          exact Or.inl (to_zret rfl (dat dk_X11_tag 49 rfl) (by decide) (ri_mka (by decide) ⟨Ih4, f6, (by decide), (ENL.mono e7 (by omega) (by omega) (by omega)), (show h4.2.2 4 1 = 0 by omega), (show h4.2.2 26 2 = h.2.2 26 2 by omega), ⟨_, _, _, _, zTT, zTM, ztg, zTF, Or.inl ⟨rfl, rfl, (by rcases p34_0 with ⟨q, a, b⟩ | ⟨q, a⟩; exact Or.inl ⟨by omega, a, b⟩; exact Or.inr ⟨by omega, a⟩)⟩⟩⟩))
      · skip
        exact Or.inr ⟨_, ⟨(IAE, 139, 141, 143, "it is no tag", 105), List.mem_of_getElem? (i := 2) rfl, _, _, _, _, _, rfl, ⟨(dat dk_X11_tag 22 rfl), (dat dk_X11_tag 23 rfl), (dat dk_X11_tag 24 rfl), (dat dk_X11_tag 25 rfl), (dat dk_X11_tag 26 rfl)⟩, ⟨(Or.inr (Or.inl rfl)), Ih4, f6, rfl, rfl, (ENL.mono e7 (by omega) (by omega) (by omega)), (show h4.2.2 4 1 = 0 by omega), (show h4.2.2 26 2 = h.2.2 26 2 by omega), ⟨zTT, Or.inr ⟨_, _, zTM0, Or.inl ⟨rfl, by rcases p21_0 with ⟨q, _⟩ | ⟨_, q⟩; omega; exact q⟩⟩⟩⟩, (show Fr [999, 20, 21, 22, 23, 25, 358, 318, 378, 4, 6, 311, 337] h h4 from f6).1.1, by have := Ih4.1.2.1; omega⟩, sx_rfl _⟩
    · skip
      exact Or.inr ⟨_, ⟨(IOB, 123, 125, 127, "the message is not there", 103), List.mem_of_getElem? (i := 1) rfl, _, _, _, _, _, rfl, ⟨(dat dk_X11_tag 13 rfl), (dat dk_X11_tag 14 rfl), (dat dk_X11_tag 15 rfl), (dat dk_X11_tag 16 rfl), (dat dk_X11_tag 17 rfl)⟩, ⟨Or.inl rfl, Ih4, f6, rfl, rfl, (ENL.mono e7 (by omega) (by omega) (by omega)), (show h4.2.2 4 1 = 0 by omega), (show h4.2.2 26 2 = h.2.2 26 2 by omega), ⟨zTT, Or.inl ⟨rfl, by rcases p13_1 with ⟨_, q⟩ | ⟨q, _⟩; exact q; omega⟩⟩⟩, (show Fr [999, 20, 21, 22, 23, 25, 358, 318, 378, 4, 6, 311, 337] h h4 from f6).1.1, by have := Ih4.1.2.1; omega⟩, sx_rfl _⟩
