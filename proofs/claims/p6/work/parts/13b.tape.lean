/-! Contracts, by program. -/
abbrev Q_X1_put_vx (h : Hp) (a : Nat) (b : Int) : Option V → Hp → Nat → Nat → Prop := RV (fun H => Inv H ∧ Fr [a] h H ∧ (((h.2.2 a 1 < (bcap a : Int)) ∧ H.2.2 a 1 = h.2.2 a 1 + 1 ∧ ∀ j : Nat, H.2.2 (a + 1) j = if j = Int.toNat (h.2.2 a 1) then b8 b else h.2.2 (a + 1) j) ∨ ((bcap a : Int) ≤ h.2.2 a 1 ∧ H.2.2 a 1 = h.2.2 a 1 ∧ H.2.2 (a + 1) = h.2.2 (a + 1))))
set_option maxRecDepth 100000 in
theorem ct_X1_put_vx (l : Launch) (h : Hp) (hI : Inv h) (a : Nat) (ha : isB a = true) (b : Int) (hb : I32 b) : Ct l D_X1_put 0 0 [.inr (.inr a), .inl b] h (Q_X1_put_vx h a b) := by
  refine ct_of pn_X1_put (Nat.le_of_ble_eq_true rfl) ?_
  show To l E_X1_put (0, [(0, .inr (.inr a)), (1, .inl b)], [], h, 0, 0) _
  obtain ⟨x1, ex1⟩ : ∃ y : Int, h.2.2 a 1 = y := ⟨_, rfl⟩
  have rx1 := hI.blen ha
  rw [ex1] at rx1
  refine to_aload_np (dat dk_X1_put 0 rfl) (hI.1.2.2.2 _ _ (hI.bty ha)).1 rfl (to_getIv (y := x1) ex1 g_c2_15 (dat dk_X1_put 1 rfl) (hI.bty ha) ?_)
  refine to_iflt 40 (dat dk_X1_put 2 rfl) rfl (by omega) (fun c2 => ?_) (fun c2 => ?_)
  · skip
    exact to_vret rfl (dat dk_X1_put 22 rfl) (rv_mk ⟨hI, (Fr.rf _ _), (Or.inr ⟨by omega, by omega, rfl⟩)⟩)
  · skip
    refine to_aload_np (dat dk_X1_put 3 rfl) (hI.1.2.2.2 _ _ (hI.bty ha)).1 rfl (to_getIv (y := x1) ex1 g_c2_15 (dat dk_X1_put 4 rfl) (hI.bty ha) (to_aload_np (dat dk_X1_put 5 rfl) (hI.1.2.2.2 _ _ (hI.bty ha)).1 rfl (to_getR (a + 1) g_c2_9 (dat dk_X1_put 6 rfl) (hI.bty ha) (hI.brow ha) (to_alen (dat dk_X1_put 7 rfl) (hI.brt ha) (by decide) ?_))))
    refine to_ige 40 (dat dk_X1_put 8 rfl) rfl (by omega) (by omega) (fun c3 => ?_) (fun c3 => ?_)
    · skip
      exact to_vret rfl (dat dk_X1_put 22 rfl) (rv_mk ⟨hI, (Fr.rf _ _), (Or.inr ⟨by omega, by omega, rfl⟩)⟩)
    · skip
      refine to_aload_np (dat dk_X1_put 9 rfl) (hI.1.2.2.2 _ _ (hI.bty ha)).1 rfl (to_getR (a + 1) g_c2_9 (dat dk_X1_put 10 rfl) (hI.bty ha) (hI.brow ha) (to_aload_np (dat dk_X1_put 11 rfl) (hI.1.2.2.2 _ _ (hI.bty ha)).1 rfl (to_getIv (y := x1) ex1 g_c2_15 (dat dk_X1_put 12 rfl) (hI.bty ha) (to_iload_n (dat dk_X1_put 13 rfl) rfl (to_i2b (dat dk_X1_put 14 rfl) (to_bastw (dat dk_X1_put 15 rfl) (hI.brt ha) rfl (bcap_n a) (by omega) ?_))))))
      intro h6 wh6
      have I4 : Inv h6 := by rw [wh6]; exact hI.putBr (j := (Int.toNat x1)) (x := (b8 (b8 b))) ha (by have := b8_in (b8 b); omega)
      have f5 : Fr [a] h h6 := by rw [wh6]; exact Fr.putBr (j := (Int.toNat x1)) (x := (b8 (b8 b))) (Fr.rf _ _) ha (contains1 _)
      refine to_aload_np (dat dk_X1_put 16 rfl) (I4.1.2.2.2 _ _ (I4.bty ha)).1 rfl (to_dup (dat dk_X1_put 17 rfl) rfl (to_getIv (y := x1) (by rw [wh6]; exact (wr_ne (ne_ty (hI.bty ha) (hI.brt ha) (by intro e; cases e))).trans ex1) g_c2_15 (dat dk_X1_put 18 rfl) (I4.bty ha) (to_iconst (dat dk_X1_put 19 rfl) (to_iadd (dat dk_X1_put 20 rfl) (to_putIw p_c2_15 (dat dk_X1_put 21 rfl) (I4.bty ha) ?_)))))
      intro h9 wh9
      have I7 : Inv h9 := by rw [wh9]; exact I4.putB (x := (x1 + 1)) ha (by omega)
      have f8 : Fr [a] h h9 := by rw [wh9]; exact Fr.putB (j := 1) (x := (x1 + 1)) f5 ha (contains1 _)
      have e10 : h9.2.2 a 1 = (x1 + 1) := (by rw [wh9]; exact wr_eq)
      exact to_vret rfl (dat dk_X1_put 22 rfl) (rv_mk ⟨I7, f8, (Or.inl ⟨by omega, by omega, fun j => by rw [wh9, wr_ne (by omega), wh6, wr_if, ex1]; simp only [true_and, b8_b8]⟩)⟩)
abbrev Q_X1_clear_vx (h : Hp) (a : Nat) : Option V → Hp → Nat → Nat → Prop := RV (fun H => Inv H ∧ Fr [a] h H ∧ (H.2.2 a 1 = 0) ∧ (H.2.2 (a + 1) = h.2.2 (a + 1)))
set_option maxRecDepth 100000 in
theorem ct_X1_clear_vx (l : Launch) (h : Hp) (hI : Inv h) (a : Nat) (ha : isB a = true) : Ct l D_X1_clear 0 0 [.inr (.inr a)] h (Q_X1_clear_vx h a) := by
  refine ct_of pn_X1_clear (Nat.le_of_ble_eq_true rfl) ?_
  show To l E_X1_clear (0, [(0, .inr (.inr a))], [], h, 0, 0) _
  obtain ⟨x1, ex1⟩ : ∃ y : Int, h.2.2 a 1 = y := ⟨_, rfl⟩
  have rx1 := hI.blen ha
  rw [ex1] at rx1
  refine to_aload_np (dat dk_X1_clear 0 rfl) (hI.1.2.2.2 _ _ (hI.bty ha)).1 rfl (to_iconst (dat dk_X1_clear 1 rfl) (to_putIw p_c2_15 (dat dk_X1_clear 2 rfl) (hI.bty ha) ?_))
  intro h4 wh4
  have I2 : Inv h4 := by rw [wh4]; exact hI.putB (x := 0) ha (by omega)
  have f3 : Fr [a] h h4 := by rw [wh4]; exact Fr.putB (j := 1) (x := 0) (Fr.rf _ _) ha (contains1 _)
  have e5 : h4.2.2 a 1 = (0 : Int) := (by rw [wh4]; exact wr_eq)
  exact to_vret rfl (dat dk_X1_clear 3 rfl) (rv_mk ⟨I2, f3, (show h4.2.2 a 1 = 0 by omega), (by rw [wh4]; exact funext fun i => wr_ne (by omega))⟩)
abbrev Q_X1_putNumber_vx (h : Hp) (a : Nat) (b : Int) : Option V → Hp → Nat → Nat → Prop := RV (fun H => Inv H ∧ Fr [a] h H ∧ (H.2.2 a 1 = h.2.2 a 1 + 4) ∧ (∀ j : Nat, H.2.2 (a + 1) j = put4 (h.2.2 (a + 1)) (Int.toNat (h.2.2 a 1)) b j))
set_option maxRecDepth 100000 in
theorem ct_X1_putNumber_vx (l : Launch) (h : Hp) (hI : Inv h) (a : Nat) (ha : isB a = true) (b : Int) (hb : I32 b) (g0 : h.2.2 a 1 + 4 ≤ (bcap a : Int)) : Ct l D_X1_putNumber 1 21 [.inr (.inr a), .inl b] h (Q_X1_putNumber_vx h a b) := by
  refine ct_of pn_X1_putNumber (Nat.le_of_ble_eq_true rfl) ?_
  show To l E_X1_putNumber (0, [(0, .inr (.inr a)), (1, .inl b)], [], h, 0, 0) _
  obtain ⟨x1, ex1⟩ : ∃ y : Int, h.2.2 a 1 = y := ⟨_, rfl⟩
  have rx1 := hI.blen ha
  rw [ex1] at rx1
  refine to_aload_np (dat dk_X1_putNumber 0 rfl) (hI.1.2.2.2 _ _ (hI.bty ha)).1 rfl (to_iload_n (dat dk_X1_putNumber 1 rfl) rfl (to_bipush (dat dk_X1_putNumber 2 rfl) (by decide) (to_ishrx (dat dk_X1_putNumber 3 rfl) ?_)))
  refine to_cV ca_c2_19 (dat dk_X1_putNumber 4 rfl) (ct_X1_put_vx l h hI a ha (shx b 24) (shx_i32 _ _)) rfl ⟨_, _, rfl, (hI.bty ha)⟩ rfl (fun h3 p4 => ?_)
  obtain ⟨Ih3, fh3, p4_0⟩ := p4
  have f5 : Fr [a] h h3 := Fr.sub (Fr.rf _ _) fh3 (sub_self _)
  obtain ⟨x6, ex6⟩ : ∃ y : Int, h3.2.2 a 1 = y := ⟨_, rfl⟩
  have rx6 := Ih3.blen ha
  rw [ex6] at rx6
  refine to_aload_np (dat dk_X1_putNumber 5 rfl) (Ih3.1.2.2.2 _ _ (Ih3.bty ha)).1 rfl (to_iload_n (dat dk_X1_putNumber 6 rfl) rfl (to_bipush (dat dk_X1_putNumber 7 rfl) (by decide) (to_ishrx (dat dk_X1_putNumber 8 rfl) ?_)))
  refine to_cV ca_c2_19 (dat dk_X1_putNumber 9 rfl) (ct_X1_put_vx l h3 Ih3 a ha (shx b 16) (shx_i32 _ _)) rfl ⟨_, _, rfl, (Ih3.bty ha)⟩ rfl (fun h8 p9 => ?_)
  obtain ⟨Ih8, fh8, p9_0⟩ := p9
  have f10 : Fr [a] h h8 := Fr.sub f5 fh8 (sub_self _)
  obtain ⟨x11, ex11⟩ : ∃ y : Int, h8.2.2 a 1 = y := ⟨_, rfl⟩
  have rx11 := Ih8.blen ha
  rw [ex11] at rx11
  refine to_aload_np (dat dk_X1_putNumber 10 rfl) (Ih8.1.2.2.2 _ _ (Ih8.bty ha)).1 rfl (to_iload_n (dat dk_X1_putNumber 11 rfl) rfl (to_bipush (dat dk_X1_putNumber 12 rfl) (by decide) (to_ishrx (dat dk_X1_putNumber 13 rfl) ?_)))
  refine to_cV ca_c2_19 (dat dk_X1_putNumber 14 rfl) (ct_X1_put_vx l h8 Ih8 a ha (shx b 8) (shx_i32 _ _)) rfl ⟨_, _, rfl, (Ih8.bty ha)⟩ rfl (fun h13 p14 => ?_)
  obtain ⟨Ih13, fh13, p14_0⟩ := p14
  have f15 : Fr [a] h h13 := Fr.sub f10 fh13 (sub_self _)
  obtain ⟨x16, ex16⟩ : ∃ y : Int, h13.2.2 a 1 = y := ⟨_, rfl⟩
  have rx16 := Ih13.blen ha
  rw [ex16] at rx16
  refine to_aload_np (dat dk_X1_putNumber 15 rfl) (Ih13.1.2.2.2 _ _ (Ih13.bty ha)).1 rfl (to_iload_n (dat dk_X1_putNumber 16 rfl) rfl ?_)
  refine to_cV ca_c2_19 (dat dk_X1_putNumber 17 rfl) (ct_X1_put_vx l h13 Ih13 a ha b hb) rfl ⟨_, _, rfl, (Ih13.bty ha)⟩ rfl (fun h18 p19 => ?_)
  obtain ⟨Ih18, fh18, p19_0⟩ := p19
  have f20 : Fr [a] h h18 := Fr.sub f15 fh18 (sub_self _)
  obtain ⟨x21, ex21⟩ : ∃ y : Int, h18.2.2 a 1 = y := ⟨_, rfl⟩
  have rx21 := Ih18.blen ha
  rw [ex21] at rx21
  obtain ⟨-, v0, u0⟩ := Or.resolve_right p4_0 (fun q => absurd q.1 (by omega))
  obtain ⟨-, v1, u1⟩ := Or.resolve_right p9_0 (fun q => absurd q.1 (by omega))
  obtain ⟨-, v2, u2⟩ := Or.resolve_right p14_0 (fun q => absurd q.1 (by omega))
  obtain ⟨-, v3, u3⟩ := Or.resolve_right p19_0 (fun q => absurd q.1 (by omega))
  have u : ∀ j : Nat, h18.2.2 (a + 1) j = put4 (h.2.2 (a + 1)) (Int.toNat (h.2.2 a 1)) b j := fun j => by
    have n1 : Int.toNat (h3.2.2 a 1) = Int.toNat (h.2.2 a 1) + 1 := by omega
    have n2 : Int.toNat (h8.2.2 a 1) = Int.toNat (h.2.2 a 1) + 2 := by omega
    have n3 : Int.toNat (h13.2.2 a 1) = Int.toNat (h.2.2 a 1) + 3 := by omega
    rw [u3, u2, u1, u0, n3, n2, n1]
    rfl
  exact to_vret rfl (dat dk_X1_putNumber 18 rfl) (rv_mk ⟨Ih18, f20, (show h18.2.2 a 1 = h.2.2 a 1 + 4 by omega), u⟩)
abbrev Q_X11_makeReady_vx (h : Hp) (a : Int) (b : Int) (c : Int) (d : Int) (e : Int) : Option V → Hp → Nat → Nat → Prop := RV (fun H => Inv H ∧ Fr [2] h H ∧ (H.2.2 2 1 = 20) ∧ (∀ j : Nat, j < 20 → H.2.2 3 j = rdyF a b c d e j))
set_option maxRecDepth 100000 in
theorem ct_X11_makeReady_vx (l : Launch) (h : Hp) (hI : Inv h) (a : Int) (ha : I32 a) (b : Int) (hb : I32 b) (c : Int) (hc : I32 c) (d : Int) (hd : I32 d) (e : Int) (he : I32 e) : Ct l D_X11_makeReady 2 42 [.inr (.inr 1), .inl a, .inl b, .inl c, .inl d, .inl e] h (Q_X11_makeReady_vx h a b c d e) := by
  refine ct_of pn_X11_makeReady (Nat.le_of_ble_eq_true rfl) ?_
  show To l E_X11_makeReady (0, [(0, .inr (.inr 1)), (1, .inl a), (2, .inl b), (3, .inl c), (4, .inl d), (5, .inl e)], [], h, 0, 0) _
  obtain ⟨x1, ex1⟩ : ∃ y : Int, h.2.2 2 1 = y := ⟨_, rfl⟩
  have rx1 := hI.atR (a := 2) (j := 1) rfl
  rw [ex1] at rx1
  refine to_aload_n (dat dk_X11_makeReady 0 rfl) rfl (to_getR 2 g_c0_14 (dat dk_X11_makeReady 1 rfl) (hI.atS rfl) (hI.atE rfl) ?_)
  refine to_cV ca_c0_113 (dat dk_X11_makeReady 2 rfl) (ct_X1_clear_vx l h hI 2 rfl) rfl ⟨_, _, rfl, (hI.atS rfl)⟩ rfl (fun h3 p4 => ?_)
  obtain ⟨Ih3, fh3, p4_0, p4_1⟩ := p4
  have f5 : Fr [2] h h3 := Fr.sub (Fr.rf _ _) fh3 (sub_self _)
  obtain ⟨x6, ex6⟩ : ∃ y : Int, h3.2.2 2 1 = y := ⟨_, rfl⟩
  have rx6 := Ih3.atR (a := 2) (j := 1) rfl
  rw [ex6] at rx6
  refine to_aload_n (dat dk_X11_makeReady 3 rfl) rfl (to_getR 2 g_c0_14 (dat dk_X11_makeReady 4 rfl) (Ih3.atS rfl) (Ih3.atE rfl) (to_iload_n (dat dk_X11_makeReady 5 rfl) rfl ?_))
  refine to_cV ca_c0_243 (dat dk_X11_makeReady 6 rfl) (ct_X1_putNumber_vx l h3 Ih3 2 rfl a ha (show h3.2.2 2 1 + 4 ≤ (20 : Int) by omega)) rfl ⟨_, _, rfl, (Ih3.atS rfl)⟩ rfl (fun h8 p9 => ?_)
  obtain ⟨Ih8, fh8, p9_0, p9_1⟩ := p9
  have f10 : Fr [2] h h8 := Fr.sub f5 fh8 (sub_self _)
  obtain ⟨x11, ex11⟩ : ∃ y : Int, h8.2.2 2 1 = y := ⟨_, rfl⟩
  have rx11 := Ih8.atR (a := 2) (j := 1) rfl
  rw [ex11] at rx11
  refine to_aload_n (dat dk_X11_makeReady 7 rfl) rfl (to_getR 2 g_c0_14 (dat dk_X11_makeReady 8 rfl) (Ih8.atS rfl) (Ih8.atE rfl) (to_iload_n (dat dk_X11_makeReady 9 rfl) rfl ?_))
  refine to_cV ca_c0_243 (dat dk_X11_makeReady 10 rfl) (ct_X1_putNumber_vx l h8 Ih8 2 rfl b hb (show h8.2.2 2 1 + 4 ≤ (20 : Int) by omega)) rfl ⟨_, _, rfl, (Ih8.atS rfl)⟩ rfl (fun h13 p14 => ?_)
  obtain ⟨Ih13, fh13, p14_0, p14_1⟩ := p14
  have f15 : Fr [2] h h13 := Fr.sub f10 fh13 (sub_self _)
  obtain ⟨x16, ex16⟩ : ∃ y : Int, h13.2.2 2 1 = y := ⟨_, rfl⟩
  have rx16 := Ih13.atR (a := 2) (j := 1) rfl
  rw [ex16] at rx16
  refine to_aload_n (dat dk_X11_makeReady 11 rfl) rfl (to_getR 2 g_c0_14 (dat dk_X11_makeReady 12 rfl) (Ih13.atS rfl) (Ih13.atE rfl) (to_iload_n (dat dk_X11_makeReady 13 rfl) rfl ?_))
  refine to_cV ca_c0_243 (dat dk_X11_makeReady 14 rfl) (ct_X1_putNumber_vx l h13 Ih13 2 rfl c hc (show h13.2.2 2 1 + 4 ≤ (20 : Int) by omega)) rfl ⟨_, _, rfl, (Ih13.atS rfl)⟩ rfl (fun h18 p19 => ?_)
  obtain ⟨Ih18, fh18, p19_0, p19_1⟩ := p19
  have f20 : Fr [2] h h18 := Fr.sub f15 fh18 (sub_self _)
  obtain ⟨x21, ex21⟩ : ∃ y : Int, h18.2.2 2 1 = y := ⟨_, rfl⟩
  have rx21 := Ih18.atR (a := 2) (j := 1) rfl
  rw [ex21] at rx21
  refine to_aload_n (dat dk_X11_makeReady 15 rfl) rfl (to_getR 2 g_c0_14 (dat dk_X11_makeReady 16 rfl) (Ih18.atS rfl) (Ih18.atE rfl) (to_iload (dat dk_X11_makeReady 17 rfl) rfl ?_))
  refine to_cV ca_c0_243 (dat dk_X11_makeReady 18 rfl) (ct_X1_putNumber_vx l h18 Ih18 2 rfl d hd (show h18.2.2 2 1 + 4 ≤ (20 : Int) by omega)) rfl ⟨_, _, rfl, (Ih18.atS rfl)⟩ rfl (fun h23 p24 => ?_)
  obtain ⟨Ih23, fh23, p24_0, p24_1⟩ := p24
  have f25 : Fr [2] h h23 := Fr.sub f20 fh23 (sub_self _)
  obtain ⟨x26, ex26⟩ : ∃ y : Int, h23.2.2 2 1 = y := ⟨_, rfl⟩
  have rx26 := Ih23.atR (a := 2) (j := 1) rfl
  rw [ex26] at rx26
  refine to_aload_n (dat dk_X11_makeReady 19 rfl) rfl (to_getR 2 g_c0_14 (dat dk_X11_makeReady 20 rfl) (Ih23.atS rfl) (Ih23.atE rfl) (to_iload (dat dk_X11_makeReady 21 rfl) rfl ?_))
  refine to_cV ca_c0_243 (dat dk_X11_makeReady 22 rfl) (ct_X1_putNumber_vx l h23 Ih23 2 rfl e he (show h23.2.2 2 1 + 4 ≤ (20 : Int) by omega)) rfl ⟨_, _, rfl, (Ih23.atS rfl)⟩ rfl (fun h28 p29 => ?_)
  obtain ⟨Ih28, fh28, p29_0, p29_1⟩ := p29
  have f30 : Fr [2] h h28 := Fr.sub f25 fh28 (sub_self _)
  obtain ⟨x31, ex31⟩ : ∃ y : Int, h28.2.2 2 1 = y := ⟨_, rfl⟩
  have rx31 := Ih28.atR (a := 2) (j := 1) rfl
  rw [ex31] at rx31
  have v0 : h8.2.2 2 1 = h3.2.2 2 1 + 4 := p9_0
  have v1 : h13.2.2 2 1 = h8.2.2 2 1 + 4 := p14_0
  have v2 : h18.2.2 2 1 = h13.2.2 2 1 + 4 := p19_0
  have v3 : h23.2.2 2 1 = h18.2.2 2 1 + 4 := p24_0
  have v4 : h28.2.2 2 1 = h23.2.2 2 1 + 4 := p29_0
  have n0 : Int.toNat (h3.2.2 2 1) = 0 := by omega
  have u0 : ∀ j : Nat, h8.2.2 3 j = put4 (h3.2.2 3) 0 a j := fun j => by have u := p9_1 j; rw [n0] at u; exact u
  have n1 : Int.toNat (h8.2.2 2 1) = 4 := by omega
  have u1 : ∀ j : Nat, h13.2.2 3 j = put4 (h8.2.2 3) 4 b j := fun j => by have u := p14_1 j; rw [n1] at u; exact u
  have n2 : Int.toNat (h13.2.2 2 1) = 8 := by omega
  have u2 : ∀ j : Nat, h18.2.2 3 j = put4 (h13.2.2 3) 8 c j := fun j => by have u := p19_1 j; rw [n2] at u; exact u
  have n3 : Int.toNat (h18.2.2 2 1) = 12 := by omega
  have u3 : ∀ j : Nat, h23.2.2 3 j = put4 (h18.2.2 3) 12 d j := fun j => by have u := p24_1 j; rw [n3] at u; exact u
  have n4 : Int.toNat (h23.2.2 2 1) = 16 := by omega
  have u4 : ∀ j : Nat, h28.2.2 3 j = put4 (h23.2.2 3) 16 e j := fun j => by have u := p29_1 j; rw [n4] at u; exact u
  exact to_vret rfl (dat dk_X11_makeReady 23 rfl) (rv_mk ⟨Ih28, f30, (show h28.2.2 2 1 = 20 by omega), (rdy_put4 u0 u1 u2 u3 u4)⟩)
abbrev Q_X11_feed_vx (h : Hp) (a : Int) (b : Int) (c : Int) (d : Int) (e : Int) : Option V → Hp → Nat → Nat → Prop := RV (fun H => Inv H ∧ Fr [2] h H ∧ (H.2.2 2 1 = 20) ∧ (∀ j : Nat, j < 20 → H.2.2 3 j = rdyF a b c d e j))
set_option maxRecDepth 100000 in
theorem ct_X11_feed_vx (l : Launch) (h : Hp) (hI : Inv h) (a : Int) (ha : I32 a) (b : Int) (hb : I32 b) (c : Int) (hc : I32 c) (d : Int) (hd : I32 d) (e : Int) (he : I32 e) : Ct l D_X11_feed 3 67 [.inr (.inr 1), .inl a, .inl b, .inl c, .inl d, .inl e] h (Q_X11_feed_vx h a b c d e) := by
  refine ct_of pn_X11_feed (Nat.le_of_ble_eq_true rfl) ?_
  show To l E_X11_feed (0, [(0, .inr (.inr 1)), (1, .inl a), (2, .inl b), (3, .inl c), (4, .inl d), (5, .inl e)], [], h, 0, 0) _
  obtain ⟨x1, ex1⟩ : ∃ y : Int, h.2.2 2 1 = y := ⟨_, rfl⟩
  have rx1 := hI.atR (a := 2) (j := 1) rfl
  rw [ex1] at rx1
  refine to_aload_n (dat dk_X11_feed 0 rfl) rfl (to_iload_n (dat dk_X11_feed 1 rfl) rfl (to_iload_n (dat dk_X11_feed 2 rfl) rfl (to_iload_n (dat dk_X11_feed 3 rfl) rfl (to_iload (dat dk_X11_feed 4 rfl) rfl (to_iload (dat dk_X11_feed 5 rfl) rfl ?_)))))
  refine to_cV ca_c0_81 (dat dk_X11_feed 6 rfl) (ct_X11_makeReady_vx l h hI a ha b hb c hc d hd e he) rfl ⟨_, _, rfl, (hI.atS rfl)⟩ rfl (fun h3 p4 => ?_)
  obtain ⟨Ih3, fh3, p4_0, p4_1⟩ := p4
  have f5 : Fr [2] h h3 := Fr.sub (Fr.rf _ _) fh3 (sub_self _)
  obtain ⟨x6, ex6⟩ : ∃ y : Int, h3.2.2 2 1 = y := ⟨_, rfl⟩
  have rx6 := Ih3.atR (a := 2) (j := 1) rfl
  rw [ex6] at rx6
  exact to_vret rfl (dat dk_X11_feed 7 rfl) (rv_mk ⟨Ih3, f5, (show h3.2.2 2 1 = 20 by omega), p4_1⟩)
abbrev Q_X1_byteAt_vx (h : Hp) (a : Nat) (i : Int) : Option V → Hp → Nat → Nat → Prop := RI (fun x H => h = H ∧ ((i < 0 ∨ H.2.2 a 1 ≤ i) ∧ x = -1 ∨ 0 ≤ i ∧ i < H.2.2 a 1 ∧ x = H.2.2 (a + 1) (Int.toNat i) % 256))
set_option maxRecDepth 100000 in
theorem ct_X1_byteAt_vx (l : Launch) (h : Hp) (hI : Inv h) (a : Nat) (ha : isB a = true) (i : Int) (hi : I32 i) : Ct l D_X1_byteAt 0 0 [.inr (.inr a), .inl i] h (Q_X1_byteAt_vx h a i) := by
  refine ct_of pn_X1_byteAt (Nat.le_of_ble_eq_true rfl) ?_
  show To l E_X1_byteAt (0, [(0, .inr (.inr a)), (1, .inl i)], [], h, 0, 0) _
  refine to_iload_n (dat dk_X1_byteAt 0 rfl) rfl ?_
  refine to_iflt 34 (dat dk_X1_byteAt 1 rfl) rfl hi (fun c1 => ?_) (fun c1 => ?_)
  · skip
    refine to_iconst (dat dk_X1_byteAt 18 rfl) ?_
    exact to_iret rfl (dat dk_X1_byteAt 19 rfl) (ri_mk (by decide) ⟨rfl, (Or.inl ⟨by omega, by omega⟩)⟩)
  · skip
    refine to_iload_n (dat dk_X1_byteAt 2 rfl) rfl (to_aload_np (dat dk_X1_byteAt 3 rfl) (hI.1.2.2.2 _ _ (hI.bty ha)).1 rfl ?_)
    obtain ⟨x2, ex2⟩ : ∃ y : Int, h.2.2 a 1 = y := ⟨_, rfl⟩
    have rx2 := hI.blen ha
    rw [ex2] at rx2
    refine to_getIv (y := x2) ex2 g_c2_15 (dat dk_X1_byteAt 4 rfl) (hI.bty ha) ?_
    refine to_ige 34 (dat dk_X1_byteAt 5 rfl) rfl hi (by omega) (fun c3 => ?_) (fun c3 => ?_)
    · skip
      refine to_iconst (dat dk_X1_byteAt 18 rfl) ?_
      exact to_iret rfl (dat dk_X1_byteAt 19 rfl) (ri_mk (by decide) ⟨rfl, (Or.inl ⟨by omega, by omega⟩)⟩)
    · skip
      refine to_iload_n (dat dk_X1_byteAt 6 rfl) rfl (to_aload_np (dat dk_X1_byteAt 7 rfl) (hI.1.2.2.2 _ _ (hI.bty ha)).1 rfl (to_getR (a + 1) g_c2_9 (dat dk_X1_byteAt 8 rfl) (hI.bty ha) (hI.brow ha) (to_alen (dat dk_X1_byteAt 9 rfl) (hI.brt ha) (by decide) ?_)))
      refine to_ige 34 (dat dk_X1_byteAt 10 rfl) rfl hi (by omega) (fun c4 => ?_) (fun c4 => ?_)
      · skip
        refine to_iconst (dat dk_X1_byteAt 18 rfl) ?_
        exact to_iret rfl (dat dk_X1_byteAt 19 rfl) (ri_mk (by decide) ⟨rfl, (Or.inl ⟨by omega, by omega⟩)⟩)
      · skip
        refine to_aload_np (dat dk_X1_byteAt 11 rfl) (hI.1.2.2.2 _ _ (hI.bty ha)).1 rfl (to_getR (a + 1) g_c2_9 (dat dk_X1_byteAt 12 rfl) (hI.bty ha) (hI.brow ha) (to_iload_n (dat dk_X1_byteAt 13 rfl) rfl ?_))
        obtain ⟨x5, ex5⟩ : ∃ y : Int, h.2.2 (a + 1) (Int.toNat i) = y := ⟨_, rfl⟩
        have rx5 := hI.bcon (j := Int.toNat i) ha
        rw [ex5] at rx5
        refine to_baldv (q := 1) ex5 (dat dk_X1_byteAt 14 rfl) (by decide) (hI.brt ha) rfl (bcap_n a) (by omega) (to_sipush (dat dk_X1_byteAt 15 rfl) (by decide) (to_iand255 (dat dk_X1_byteAt 16 rfl) (to_goto (dat dk_X1_byteAt 17 rfl) rfl ?_)))
        exact to_iret rfl (dat dk_X1_byteAt 19 rfl) (ri_mk (by omega) ⟨rfl, (Or.inr ⟨by omega, by omega, by rw [ex5]⟩)⟩)
abbrev Q_X1_putAll_v4x (h : Hp) (f : Int) (g : Int) : Option V → Hp → Nat → Nat → Prop := RV (fun H => Inv H ∧ Fr [4] h H ∧ (H.2.2 4 1 = h.2.2 4 1 + (g - f)) ∧ (∀ j : Nat, H.2.2 5 j = if Int.toNat (h.2.2 4 1) ≤ j ∧ j < Int.toNat (h.2.2 4 1 + (g - f)) then h.2.2 3 (Int.toNat f + (j - Int.toNat (h.2.2 4 1))) else h.2.2 5 j))
set_option maxRecDepth 100000 in
theorem ct_X1_putAll_v4x (l : Launch) (h : Hp) (hI : Inv h) (f : Int) (hf : I32 f) (g : Int) (hg : I32 g) (g0 : h.2.2 4 1 + (g - f) ≤ 1200) (g1 : 0 ≤ f ∧ f ≤ g) (g2 : g ≤ h.2.2 2 1) : Ct l D_X1_putAll 1 21 [.inr (.inr 4), .inr (.inr 2), .inl f, .inl g] h (Q_X1_putAll_v4x h f g) := by
  refine ct_of pn_X1_putAll (Nat.le_of_ble_eq_true rfl) ?_
  show To l E_X1_putAll (0, [(0, .inr (.inr 4)), (1, .inr (.inr 2)), (2, .inl f), (3, .inl g)], [], h, 0, 0) _
  obtain ⟨x1, ex1⟩ : ∃ y : Int, h.2.2 4 1 = y := ⟨_, rfl⟩
  have rx1 := hI.atR (a := 4) (j := 1) rfl
  rw [ex1] at rx1
  obtain ⟨x2, ex2⟩ : ∃ y : Int, h.2.2 2 1 = y := ⟨_, rfl⟩
  have rx2 := hI.atR (a := 2) (j := 1) rfl
  rw [ex2] at rx2
  refine to_iload_n (dat dk_X1_putAll 0 rfl) rfl (to_istore (L' := [(0, .inr (.inr 4)), (1, .inr (.inr 2)), (2, .inl f), (3, .inl g), (4, .inl f)]) (dat dk_X1_putAll 1 rfl) (by decide) rfl ?_)
  have lp3_n8 : ∀ (n8 : Nat) (y3 : Int) (h4 : Hp), (I32 y3) → (Inv h4) → (Fr [4] h h4) → (f ≤ y3 ∧ y3 ≤ g) → (h4.2.2 4 1 = h.2.2 4 1 + (y3 - f)) → (∀ j : Nat, h4.2.2 5 j = if Int.toNat (h.2.2 4 1) ≤ j ∧ j < Int.toNat (h.2.2 4 1 + (y3 - f)) then h.2.2 3 (Int.toNat f + (j - Int.toNat (h.2.2 4 1))) else h.2.2 5 j) → (g - y3 ≤ (n8 : Int)) → To l E_X1_putAll (3, [(0, .inr (.inr 4)), (1, .inr (.inr 2)), (2, .inl f), (3, .inl g), (4, .inl y3)], [], h4, 0, 0) (Q_X1_putAll_v4x h f g) := by
    intro n8
    induction n8 using Nat.strongRecOn with
    | _ n8 ihn8 =>
    intro y3 h4 ry3 Ih4 fh4 c5 c6 c7 c9
    obtain ⟨x10, ex10⟩ : ∃ y : Int, h4.2.2 4 1 = y := ⟨_, rfl⟩
    have rx10 := Ih4.atR (a := 4) (j := 1) rfl
    rw [ex10] at rx10
    refine to_iload (dat dk_X1_putAll 2 rfl) rfl (to_iload_n (dat dk_X1_putAll 3 rfl) rfl ?_)
    refine to_ige 25 (dat dk_X1_putAll 4 rfl) rfl ry3 hg (fun c11 => ?_) (fun c11 => ?_)
    · skip
      exact to_vret rfl (dat dk_X1_putAll 12 rfl) (rv_mk ⟨Ih4, fh4, (show h4.2.2 4 1 = h.2.2 4 1 + (g - f) by omega), (by rw [show g = y3 by omega]; exact c7)⟩)
    · skip
      refine to_aload_n (dat dk_X1_putAll 5 rfl) rfl (to_aload_n (dat dk_X1_putAll 6 rfl) rfl (to_iload (dat dk_X1_putAll 7 rfl) rfl ?_))
      have e12 : h4.2.2 2 1 = x2 := ((Fr.get fh4 (by have := hI.1.1; omega) rfl).trans ex2)
      refine to_cI ca_c2_23 (dat dk_X1_putAll 8 rfl) (ct_X1_byteAt_vx l h4 Ih4 2 rfl y3 ry3) rfl ⟨_, _, rfl, (Ih4.atS rfl)⟩ rfl (fun x13 h14 rx13 p15 => ?_)
      obtain ⟨rfl, p15_0⟩ := p15
      refine to_cV ca_c2_19 (dat dk_X1_putAll 9 rfl) (ct_X1_put_vx l h4 Ih4 4 rfl x13 rx13) rfl ⟨_, _, rfl, (Ih4.atS rfl)⟩ rfl (fun h17 p18 => ?_)
      obtain ⟨Ih17, fh17, p18_0⟩ := p18
      have f19 : Fr [4] h h17 := Fr.sub fh4 fh17 (sub_self _)
      obtain ⟨x20, ex20⟩ : ∃ y : Int, h17.2.2 4 1 = y := ⟨_, rfl⟩
      have rx20 := Ih17.atR (a := 4) (j := 1) rfl
      rw [ex20] at rx20
      obtain ⟨-, vv, uu⟩ := Or.resolve_right p18_0 (fun q => absurd q.1 (show ¬ ((1200 : Int) ≤ _) by omega))
      obtain ⟨-, -, ww⟩ := Or.resolve_left p15_0 (fun q => by have := q.1; omega)
      have ss : h4.2.2 3 (Int.toNat y3) = h.2.2 3 (Int.toNat y3) := Fr.getF fh4 hI (by decide) rfl
      have sr := hI.atR (a := 3) (j := Int.toNat y3) rfl
      have xx := x13
      have eb : b8 x13 = h.2.2 3 (Int.toNat y3) := by rw [ww, ← ss]; exact b8_mod _ (by rw [ss]; exact sr)
      refine to_iinc (L' := [(0, .inr (.inr 4)), (1, .inr (.inr 2)), (2, .inl f), (3, .inl g), (4, .inl (y3 + 1))]) (dat dk_X1_putAll 10 rfl) rfl (by decide) rfl (to_goto (dat dk_X1_putAll 11 rfl) rfl ?_)
      exact ihn8 (n8 - 1) (by omega) (y3 + 1) h17 (by omega) Ih17 f19 (show f ≤ (y3 + 1) ∧ (y3 + 1) ≤ g by omega) (show h17.2.2 4 1 = h.2.2 4 1 + ((y3 + 1) - f) by omega) (pa_step (i := y3) ⟨by omega, by omega, by omega⟩ (by omega) c7 uu eb) (show g - (y3 + 1) ≤ ((n8 - 1 : Nat) : Int) by omega)
  exact lp3_n8 (g - f).toNat f h hf hI (Fr.rf _ _) (show f ≤ f ∧ f ≤ g by omega) (show h.2.2 4 1 = h.2.2 4 1 + (f - f) by omega) (pa_init rfl) (by omega)
abbrev Q_X1_putAll_v6x (h : Hp) (f : Int) (g : Int) : Option V → Hp → Nat → Nat → Prop := RV (fun H => Inv H ∧ Fr [6] h H ∧ (H.2.2 6 1 = h.2.2 6 1 + (g - f)) ∧ (∀ j : Nat, H.2.2 7 j = if Int.toNat (h.2.2 6 1) ≤ j ∧ j < Int.toNat (h.2.2 6 1 + (g - f)) then h.2.2 5 (Int.toNat f + (j - Int.toNat (h.2.2 6 1))) else h.2.2 7 j))
set_option maxRecDepth 100000 in
theorem ct_X1_putAll_v6x (l : Launch) (h : Hp) (hI : Inv h) (f : Int) (hf : I32 f) (g : Int) (hg : I32 g) (g0 : h.2.2 6 1 + (g - f) ≤ 1200) (g1 : 0 ≤ f ∧ f ≤ g) (g2 : g ≤ h.2.2 4 1) : Ct l D_X1_putAll 1 21 [.inr (.inr 6), .inr (.inr 4), .inl f, .inl g] h (Q_X1_putAll_v6x h f g) := by
  refine ct_of pn_X1_putAll (Nat.le_of_ble_eq_true rfl) ?_
  show To l E_X1_putAll (0, [(0, .inr (.inr 6)), (1, .inr (.inr 4)), (2, .inl f), (3, .inl g)], [], h, 0, 0) _
  obtain ⟨x1, ex1⟩ : ∃ y : Int, h.2.2 6 1 = y := ⟨_, rfl⟩
  have rx1 := hI.atR (a := 6) (j := 1) rfl
  rw [ex1] at rx1
  obtain ⟨x2, ex2⟩ : ∃ y : Int, h.2.2 4 1 = y := ⟨_, rfl⟩
  have rx2 := hI.atR (a := 4) (j := 1) rfl
  rw [ex2] at rx2
  refine to_iload_n (dat dk_X1_putAll 0 rfl) rfl (to_istore (L' := [(0, .inr (.inr 6)), (1, .inr (.inr 4)), (2, .inl f), (3, .inl g), (4, .inl f)]) (dat dk_X1_putAll 1 rfl) (by decide) rfl ?_)
  have lp3_n8 : ∀ (n8 : Nat) (y3 : Int) (h4 : Hp), (I32 y3) → (Inv h4) → (Fr [6] h h4) → (f ≤ y3 ∧ y3 ≤ g) → (h4.2.2 6 1 = h.2.2 6 1 + (y3 - f)) → (∀ j : Nat, h4.2.2 7 j = if Int.toNat (h.2.2 6 1) ≤ j ∧ j < Int.toNat (h.2.2 6 1 + (y3 - f)) then h.2.2 5 (Int.toNat f + (j - Int.toNat (h.2.2 6 1))) else h.2.2 7 j) → (g - y3 ≤ (n8 : Int)) → To l E_X1_putAll (3, [(0, .inr (.inr 6)), (1, .inr (.inr 4)), (2, .inl f), (3, .inl g), (4, .inl y3)], [], h4, 0, 0) (Q_X1_putAll_v6x h f g) := by
    intro n8
    induction n8 using Nat.strongRecOn with
    | _ n8 ihn8 =>
    intro y3 h4 ry3 Ih4 fh4 c5 c6 c7 c9
    obtain ⟨x10, ex10⟩ : ∃ y : Int, h4.2.2 6 1 = y := ⟨_, rfl⟩
    have rx10 := Ih4.atR (a := 6) (j := 1) rfl
    rw [ex10] at rx10
    refine to_iload (dat dk_X1_putAll 2 rfl) rfl (to_iload_n (dat dk_X1_putAll 3 rfl) rfl ?_)
    refine to_ige 25 (dat dk_X1_putAll 4 rfl) rfl ry3 hg (fun c11 => ?_) (fun c11 => ?_)
    · skip
      exact to_vret rfl (dat dk_X1_putAll 12 rfl) (rv_mk ⟨Ih4, fh4, (show h4.2.2 6 1 = h.2.2 6 1 + (g - f) by omega), (by rw [show g = y3 by omega]; exact c7)⟩)
    · skip
      refine to_aload_n (dat dk_X1_putAll 5 rfl) rfl (to_aload_n (dat dk_X1_putAll 6 rfl) rfl (to_iload (dat dk_X1_putAll 7 rfl) rfl ?_))
      have e12 : h4.2.2 4 1 = x2 := ((Fr.get fh4 (by have := hI.1.1; omega) rfl).trans ex2)
      refine to_cI ca_c2_23 (dat dk_X1_putAll 8 rfl) (ct_X1_byteAt_vx l h4 Ih4 4 rfl y3 ry3) rfl ⟨_, _, rfl, (Ih4.atS rfl)⟩ rfl (fun x13 h14 rx13 p15 => ?_)
      obtain ⟨rfl, p15_0⟩ := p15
      refine to_cV ca_c2_19 (dat dk_X1_putAll 9 rfl) (ct_X1_put_vx l h4 Ih4 6 rfl x13 rx13) rfl ⟨_, _, rfl, (Ih4.atS rfl)⟩ rfl (fun h17 p18 => ?_)
      obtain ⟨Ih17, fh17, p18_0⟩ := p18
      have f19 : Fr [6] h h17 := Fr.sub fh4 fh17 (sub_self _)
      obtain ⟨x20, ex20⟩ : ∃ y : Int, h17.2.2 6 1 = y := ⟨_, rfl⟩
      have rx20 := Ih17.atR (a := 6) (j := 1) rfl
      rw [ex20] at rx20
      obtain ⟨-, vv, uu⟩ := Or.resolve_right p18_0 (fun q => absurd q.1 (show ¬ ((1200 : Int) ≤ _) by omega))
      obtain ⟨-, -, ww⟩ := Or.resolve_left p15_0 (fun q => by have := q.1; omega)
      have ss : h4.2.2 5 (Int.toNat y3) = h.2.2 5 (Int.toNat y3) := Fr.getF fh4 hI (by decide) rfl
      have sr := hI.atR (a := 5) (j := Int.toNat y3) rfl
      have xx := x13
      have eb : b8 x13 = h.2.2 5 (Int.toNat y3) := by rw [ww, ← ss]; exact b8_mod _ (by rw [ss]; exact sr)
      refine to_iinc (L' := [(0, .inr (.inr 6)), (1, .inr (.inr 4)), (2, .inl f), (3, .inl g), (4, .inl (y3 + 1))]) (dat dk_X1_putAll 10 rfl) rfl (by decide) rfl (to_goto (dat dk_X1_putAll 11 rfl) rfl ?_)
      exact ihn8 (n8 - 1) (by omega) (y3 + 1) h17 (by omega) Ih17 f19 (show f ≤ (y3 + 1) ∧ (y3 + 1) ≤ g by omega) (show h17.2.2 6 1 = h.2.2 6 1 + ((y3 + 1) - f) by omega) (pa_step (i := y3) ⟨by omega, by omega, by omega⟩ (by omega) c7 uu eb) (show g - (y3 + 1) ≤ ((n8 - 1 : Nat) : Int) by omega)
  exact lp3_n8 (g - f).toNat f h hf hI (Fr.rf _ _) (show f ≤ f ∧ f ≤ g by omega) (show h.2.2 6 1 = h.2.2 6 1 + (f - f) by omega) (pa_init rfl) (by omega)
abbrev Q_X11_end_vx (h : Hp) (n : Int) : Option V → Hp → Nat → Nat → Prop := RI (fun x H => Inv H ∧ Fr [2, 4] h H ∧ ((x = -1 ∧ H.2.2 4 1 = h.2.2 4 1 ∧ H.2.2 2 1 = h.2.2 2 1 ∧ H.2.2 5 = h.2.2 5 ∧ H.2.2 3 = h.2.2 3 ∧ (n < 0 ∨ 20 < n ∨ 1200 < h.2.2 4 1 + n)) ∨ (x = h.2.2 4 1 + n ∧ H.2.2 4 1 = h.2.2 4 1 + n ∧ H.2.2 2 1 = 20 ∧ (0 ≤ n ∧ n ≤ 20 ∧ h.2.2 4 1 + n ≤ 1200) ∧ (∀ j : Nat, H.2.2 5 j = if Int.toNat (h.2.2 4 1) ≤ j ∧ j < Int.toNat (h.2.2 4 1 + n) then h.2.2 3 (j - Int.toNat (h.2.2 4 1)) else h.2.2 5 j) ∧ ∀ j : Nat, j < 20 → H.2.2 3 j = 0)))
set_option maxRecDepth 100000 in
theorem ct_X11_end_vx (l : Launch) (h : Hp) (hI : Inv h) (n : Int) (hn : I32 n) (g0 : h.2.2 2 1 = 20) : Ct l D_X11_end 3 67 [.inr (.inr 1), .inl n] h (Q_X11_end_vx h n) := by
  refine ct_of pn_X11_end (Nat.le_of_ble_eq_true rfl) ?_
  show To l E_X11_end (0, [(0, .inr (.inr 1)), (1, .inl n)], [], h, 0, 0) _
  obtain ⟨x1, ex1⟩ : ∃ y : Int, h.2.2 4 1 = y := ⟨_, rfl⟩
  have rx1 := hI.atR (a := 4) (j := 1) rfl
  rw [ex1] at rx1
  obtain ⟨x2, ex2⟩ : ∃ y : Int, h.2.2 2 1 = y := ⟨_, rfl⟩
  have rx2 := hI.atR (a := 2) (j := 1) rfl
  rw [ex2] at rx2
  refine to_iload_n (dat dk_X11_end 0 rfl) rfl ?_
  refine to_iflt 25 (dat dk_X11_end 1 rfl) rfl hn (fun c3 => ?_) (fun c3 => ?_)
  · skip
    refine to_iconst (dat dk_X11_end 12 rfl) ?_
    exact to_iret rfl (dat dk_X11_end 13 rfl) (ri_mk (by decide) ⟨hI, (Fr.rf _ _), (Or.inl ⟨by omega, by omega, by omega, rfl, rfl, by omega⟩)⟩)
  · skip
    refine to_iload_n (dat dk_X11_end 2 rfl) rfl (to_bipush (dat dk_X11_end 3 rfl) (by decide) ?_)
    refine to_igt 25 (dat dk_X11_end 4 rfl) rfl hn (by decide) (fun c4 => ?_) (fun c4 => ?_)
    · skip
      refine to_iconst (dat dk_X11_end 12 rfl) ?_
      exact to_iret rfl (dat dk_X11_end 13 rfl) (ri_mk (by decide) ⟨hI, (Fr.rf _ _), (Or.inl ⟨by omega, by omega, by omega, rfl, rfl, by omega⟩)⟩)
    · skip
      refine to_aload_n (dat dk_X11_end 5 rfl) rfl (to_getR 4 g_c0_18 (dat dk_X11_end 6 rfl) (hI.atS rfl) (hI.atE rfl) ?_)
      refine to_cI ca_c0_85 (dat dk_X11_end 7 rfl) (ct_X1_size l h hI 4 rfl) rfl ⟨_, _, rfl, (hI.atS rfl)⟩ rfl (fun x5 h6 rx5 p7 => ?_)
      obtain ⟨rfl, p7_0⟩ := p7
      refine to_iload_n (dat dk_X11_end 8 rfl) rfl (to_iadd (dat dk_X11_end 9 rfl) (to_sipush (dat dk_X11_end 10 rfl) (by decide) ?_))
      refine to_ile 27 (dat dk_X11_end 11 rfl) rfl (by omega) (by decide) (fun c8 => ?_) (fun c8 => ?_)
      · skip
        refine to_aload_n (dat dk_X11_end 14 rfl) rfl (to_getR 4 g_c0_18 (dat dk_X11_end 15 rfl) (hI.atS rfl) (hI.atE rfl) (to_aload_n (dat dk_X11_end 16 rfl) rfl (to_getR 2 g_c0_14 (dat dk_X11_end 17 rfl) (hI.atS rfl) (hI.atE rfl) (to_iconst (dat dk_X11_end 18 rfl) (to_iload_n (dat dk_X11_end 19 rfl) rfl ?_)))))
        refine to_cV ca_c0_89 (dat dk_X11_end 20 rfl) (ct_X1_putAll_v4x l h hI 0 (by decide) n hn (show h.2.2 4 1 + (n - (0 : Int)) ≤ 1200 by omega) (show 0 ≤ (0 : Int) ∧ (0 : Int) ≤ n by omega) (show n ≤ h.2.2 2 1 by omega)) rfl ⟨_, _, rfl, (hI.atS rfl)⟩ rfl (fun h10 p11 => ?_)
        obtain ⟨Ih10, fh10, p11_0, p11_1⟩ := p11
        have f12 : Fr [2, 4] h h10 := Fr.sub (Fr.rf _ _) fh10 rfl
        obtain ⟨x13, ex13⟩ : ∃ y : Int, h10.2.2 4 1 = y := ⟨_, rfl⟩
        have rx13 := Ih10.atR (a := 4) (j := 1) rfl
        rw [ex13] at rx13
        refine to_aload_n (dat dk_X11_end 21 rfl) rfl (to_iconst (dat dk_X11_end 22 rfl) (to_iconst (dat dk_X11_end 23 rfl) (to_iconst (dat dk_X11_end 24 rfl) (to_iconst (dat dk_X11_end 25 rfl) (to_iconst (dat dk_X11_end 26 rfl) ?_)))))
        refine to_cV ca_c0_81 (dat dk_X11_end 27 rfl) (ct_X11_makeReady_vx l h10 Ih10 0 (by decide) 0 (by decide) 0 (by decide) 0 (by decide) 0 (by decide)) rfl ⟨_, _, rfl, (Ih10.atS rfl)⟩ rfl (fun h15 p16 => ?_)
        obtain ⟨Ih15, fh15, p16_0, p16_1⟩ := p16
        have f17 : Fr [2, 4] h h15 := Fr.sub f12 fh15 rfl
        obtain ⟨x18, ex18⟩ : ∃ y : Int, h15.2.2 2 1 = y := ⟨_, rfl⟩
        have rx18 := Ih15.atR (a := 2) (j := 1) rfl
        rw [ex18] at rx18
        refine to_aload_n (dat dk_X11_end 28 rfl) rfl (to_getR 4 g_c0_18 (dat dk_X11_end 29 rfl) (Ih15.atS rfl) (Ih15.atE rfl) ?_)
        have e19 : h15.2.2 4 1 = x13 := ((Fr.get fh15 (by have := Ih10.1.1; omega) rfl).trans ex13)
        refine to_cI ca_c0_85 (dat dk_X11_end 30 rfl) (ct_X1_size l h15 Ih15 4 rfl) rfl ⟨_, _, rfl, (Ih15.atS rfl)⟩ rfl (fun x20 h21 rx20 p22 => ?_)
        obtain ⟨rfl, p22_0⟩ := p22
        exact to_iret rfl (dat dk_X11_end 31 rfl) (ri_mk rx20 ⟨Ih15, f17, (Or.inr ⟨by omega, by omega, by omega, ⟨by omega, by omega, by omega⟩, fun j => by rw [Fr.arr fh15 Ih10 (a := 5) (by decide) (fun _ => rfl)]; exact pa_0 p11_1 j, fun j hj => (p16_1 j hj).trans rdy0⟩)⟩)
      · skip
        refine to_iconst (dat dk_X11_end 12 rfl) ?_
        exact to_iret rfl (dat dk_X11_end 13 rfl) (ri_mk (by decide) ⟨hI, (Fr.rf _ _), (Or.inl ⟨by omega, by omega, by omega, rfl, rfl, by omega⟩)⟩)
abbrev Q_X11_takeTape_vx (h : Hp) : Option V → Hp → Nat → Nat → Prop := RV (fun H => Inv H ∧ Fr [4, 6] h H ∧ (H.2.2 4 1 = 0) ∧ (H.2.2 6 1 = h.2.2 4 1) ∧ (∀ j : Nat, j < Int.toNat (h.2.2 4 1) → H.2.2 7 j = h.2.2 5 j))
set_option maxRecDepth 100000 in
theorem ct_X11_takeTape_vx (l : Launch) (h : Hp) (hI : Inv h)  : Ct l D_X11_takeTape 2 45 [.inr (.inr 1)] h (Q_X11_takeTape_vx h) := by
  refine ct_of pn_X11_takeTape (Nat.le_of_ble_eq_true rfl) ?_
  show To l E_X11_takeTape (0, [(0, .inr (.inr 1))], [], h, 0, 0) _
  obtain ⟨x1, ex1⟩ : ∃ y : Int, h.2.2 4 1 = y := ⟨_, rfl⟩
  have rx1 := hI.atR (a := 4) (j := 1) rfl
  rw [ex1] at rx1
  obtain ⟨x2, ex2⟩ : ∃ y : Int, h.2.2 6 1 = y := ⟨_, rfl⟩
  have rx2 := hI.atR (a := 6) (j := 1) rfl
  rw [ex2] at rx2
  refine to_aload_n (dat dk_X11_takeTape 0 rfl) rfl (to_getR 6 g_c0_21 (dat dk_X11_takeTape 1 rfl) (hI.atS rfl) (hI.atE rfl) ?_)
  refine to_cV ca_c0_113 (dat dk_X11_takeTape 2 rfl) (ct_X1_clear_vx l h hI 6 rfl) rfl ⟨_, _, rfl, (hI.atS rfl)⟩ rfl (fun h4 p5 => ?_)
  obtain ⟨Ih4, fh4, p5_0, p5_1⟩ := p5
  have f6 : Fr [4, 6] h h4 := Fr.sub (Fr.rf _ _) fh4 rfl
  obtain ⟨x7, ex7⟩ : ∃ y : Int, h4.2.2 6 1 = y := ⟨_, rfl⟩
  have rx7 := Ih4.atR (a := 6) (j := 1) rfl
  rw [ex7] at rx7
  refine to_aload_n (dat dk_X11_takeTape 3 rfl) rfl (to_getR 6 g_c0_21 (dat dk_X11_takeTape 4 rfl) (Ih4.atS rfl) (Ih4.atE rfl) (to_aload_n (dat dk_X11_takeTape 5 rfl) rfl (to_getR 4 g_c0_18 (dat dk_X11_takeTape 6 rfl) (Ih4.atS rfl) (Ih4.atE rfl) (to_iconst (dat dk_X11_takeTape 7 rfl) (to_aload_n (dat dk_X11_takeTape 8 rfl) rfl (to_getR 4 g_c0_18 (dat dk_X11_takeTape 9 rfl) (Ih4.atS rfl) (Ih4.atE rfl) ?_))))))
  have e8 : h4.2.2 4 1 = x1 := ((Fr.get fh4 (by have := hI.1.1; omega) rfl).trans ex1)
  refine to_cI ca_c0_85 (dat dk_X11_takeTape 10 rfl) (ct_X1_size l h4 Ih4 4 rfl) rfl ⟨_, _, rfl, (Ih4.atS rfl)⟩ rfl (fun x9 h10 rx9 p11 => ?_)
  obtain ⟨rfl, p11_0⟩ := p11
  refine to_cV ca_c0_89 (dat dk_X11_takeTape 11 rfl) (ct_X1_putAll_v6x l h4 Ih4 0 (by decide) x9 rx9 (show h4.2.2 6 1 + (x9 - (0 : Int)) ≤ 1200 by omega) (show 0 ≤ (0 : Int) ∧ (0 : Int) ≤ x9 by omega) (show x9 ≤ h4.2.2 4 1 by omega)) rfl ⟨_, _, rfl, (Ih4.atS rfl)⟩ rfl (fun h13 p14 => ?_)
  obtain ⟨Ih13, fh13, p14_0, p14_1⟩ := p14
  have f15 : Fr [4, 6] h h13 := Fr.sub f6 fh13 rfl
  obtain ⟨x16, ex16⟩ : ∃ y : Int, h13.2.2 6 1 = y := ⟨_, rfl⟩
  have rx16 := Ih13.atR (a := 6) (j := 1) rfl
  rw [ex16] at rx16
  refine to_aload_n (dat dk_X11_takeTape 12 rfl) rfl (to_getR 4 g_c0_18 (dat dk_X11_takeTape 13 rfl) (Ih13.atS rfl) (Ih13.atE rfl) ?_)
  refine to_cV ca_c0_113 (dat dk_X11_takeTape 14 rfl) (ct_X1_clear_vx l h13 Ih13 4 rfl) rfl ⟨_, _, rfl, (Ih13.atS rfl)⟩ rfl (fun h18 p19 => ?_)
  obtain ⟨Ih18, fh18, p19_0, p19_1⟩ := p19
  have f20 : Fr [4, 6] h h18 := Fr.sub f15 fh18 rfl
  obtain ⟨x21, ex21⟩ : ∃ y : Int, h18.2.2 4 1 = y := ⟨_, rfl⟩
  have rx21 := Ih18.atR (a := 4) (j := 1) rfl
  rw [ex21] at rx21
  have e22 : h18.2.2 6 1 = x16 := ((Fr.get fh18 (by have := Ih13.1.1; omega) rfl).trans ex16)
  exact to_vret rfl (dat dk_X11_takeTape 15 rfl) (rv_mk ⟨Ih18, f20, (show h18.2.2 4 1 = 0 by omega), (show h18.2.2 6 1 = h.2.2 4 1 by omega), (fun j hj => by rw [Fr.arr fh18 Ih13 (a := 7) (by decide) (fun _ => rfl), p14_1 j, if_pos ⟨by omega, by omega⟩]; have e5 := Fr.getF (a := 5) (j := Int.toNat 0 + (j - Int.toNat (h4.2.2 6 1))) fh4 hI (by decide) rfl; rw [e5]; exact congrArg (h.2.2 5) (by omega))⟩)
abbrev Q_X12_feed_vx (h : Hp) (a : Int) (b : Int) (c : Int) (d : Int) (e : Int) : Option V → Hp → Nat → Nat → Prop := RV (fun H => Inv H ∧ Fr [61, 200] h H ∧ (∀ j : Nat, j < 20 → H.2.2 61 j = rdyF a b c d e j))
set_option maxRecDepth 100000 in
theorem ct_X12_feed_vx (l : Launch) (h : Hp) (hI : Inv h) (a : Int) (ha : I32 a) (b : Int) (hb : I32 b) (c : Int) (hc : I32 c) (d : Int) (hd : I32 d) (e : Int) (he : I32 e) : Ct l D_X12_feed 0 0 [.inr (.inr 60), .inl a, .inl b, .inl c, .inl d, .inl e] h (Q_X12_feed_vx h a b c d e) := by
  refine ct_of pn_X12_feed (Nat.le_of_ble_eq_true rfl) ?_
  show To l E_X12_feed (0, [(0, .inr (.inr 60)), (1, .inl a), (2, .inl b), (3, .inl c), (4, .inl d), (5, .inl e)], [], h, 0, 0) _
  refine to_aload_n (dat dk_X12_feed 0 rfl) rfl (to_iconst (dat dk_X12_feed 1 rfl) (to_putIw p_c13_154 (dat dk_X12_feed 2 rfl) (hI.atS rfl) ?_))
  intro h3 wh3
  have I1 : Inv h3 := by rw [wh3]; exact hI.put (a := 60) (j := 0) (x := 0) (0) (3) rfl rfl (show (0 : Int) ≤ 0 ∧ 0 ≤ 3 by decide)
  have f2 : Fr [61, 200] h h3 := by rw [wh3]; exact Fr.putF (a := 60) (j := 0) (x := 0) (Fr.rf _ _) rfl
  refine to_iconst (dat dk_X12_feed 3 rfl) (to_istore (L' := [(0, .inr (.inr 60)), (1, .inl a), (2, .inl b), (3, .inl c), (4, .inl d), (5, .inl e), (6, .inl 0)]) (dat dk_X12_feed 4 rfl) (by decide) rfl ?_)
  have lp8_n8 : ∀ (n8 : Nat) (y4 : Int) (h5 : Hp), (I32 y4) → (Inv h5) → (Fr [61, 200] h h5) → (0 ≤ y4 ∧ y4 ≤ 20) → (∀ j : Nat, j < Int.toNat y4 → h5.2.2 61 j = rdyF a b c d e j) → (20 - y4 ≤ (n8 : Int)) → To l E_X12_feed (8, [(0, .inr (.inr 60)), (1, .inl a), (2, .inl b), (3, .inl c), (4, .inl d), (5, .inl e), (6, .inl y4)], [], h5, 0, 0) (Q_X12_feed_vx h a b c d e) := by
    intro n8
    induction n8 using Nat.strongRecOn with
    | _ n8 ihn8 =>
    intro y4 h5 ry4 Ih5 fh5 c6 c7 c9
    refine to_iload (dat dk_X12_feed 5 rfl) rfl (to_bipush (dat dk_X12_feed 6 rfl) (by decide) ?_)
    refine to_ige 90 (dat dk_X12_feed 7 rfl) rfl ry4 (by decide) (fun c10 => ?_) (fun c10 => ?_)
    · skip
      exact to_vret rfl (dat dk_X12_feed 46 rfl) (rv_mk ⟨Ih5, fh5, (fun j hj => c7 j (by omega))⟩)
    · skip
      have jn61_n13 : ∀ (y11 : Int), (I32 y11) → ((y4 < 4 ∧ y11 = a) ∨ (4 ≤ y4 ∧ y4 < 8 ∧ y11 = b) ∨ (8 ≤ y4 ∧ y4 < 12 ∧ y11 = c) ∨ (12 ≤ y4 ∧ y4 < 16 ∧ y11 = d) ∨ (16 ≤ y4 ∧ y11 = e)) → To l E_X12_feed (61, [(0, .inr (.inr 60)), (1, .inl a), (2, .inl b), (3, .inl c), (4, .inl d), (5, .inl e), (6, .inl y4)], [.inl y11], h5, 0, 0) (Q_X12_feed_vx h a b c d e) := by
        intro y11 ry11 c12
        have jv := c12
        refine to_istore (L' := [(0, .inr (.inr 60)), (1, .inl a), (2, .inl b), (3, .inl c), (4, .inl d), (5, .inl e), (6, .inl y4), (7, .inl y11)]) (dat dk_X12_feed 29 rfl) (by decide) rfl (to_aload_n (dat dk_X12_feed 30 rfl) rfl (to_getR 61 g_c13_7 (dat dk_X12_feed 31 rfl) (Ih5.atS rfl) (Ih5.atE rfl) (to_iload (dat dk_X12_feed 32 rfl) rfl (to_iload (dat dk_X12_feed 33 rfl) rfl (to_bipush (dat dk_X12_feed 34 rfl) (by decide) (to_bipush (dat dk_X12_feed 35 rfl) (by decide) (to_iload (dat dk_X12_feed 36 rfl) rfl (to_iconst (dat dk_X12_feed 37 rfl) (to_iremx (by omega) (by decide) (dat dk_X12_feed 38 rfl) (to_imul (dat dk_X12_feed 39 rfl) (to_isub (dat dk_X12_feed 40 rfl) (to_ishrx (dat dk_X12_feed 41 rfl) (to_i2b (dat dk_X12_feed 42 rfl) (to_bastw (dat dk_X12_feed 43 rfl) (Ih5.atS rfl) rfl (by decide) (by omega) ?_))))))))))))))
        intro h16 wh16
        have I14 : Inv h16 := by rw [wh16]; exact Ih5.put (a := 61) (j := (Int.toNat y4)) (x := (b8 (b8 (shx y11 (24 - (8 * (y4 % 4))))))) (-128) (127) rfl rfl (show (-128 : Int) ≤ (b8 (b8 (shx y11 (24 - (8 * (y4 % 4)))))) ∧ (b8 (b8 (shx y11 (24 - (8 * (y4 % 4)))))) ≤ 127 by have := b8_in (b8 (shx y11 (24 - (8 * (y4 % 4))))); omega)
        have f15 : Fr [61, 200] h h16 := by rw [wh16]; exact Fr.putF (a := 61) (j := (Int.toNat y4)) (x := (b8 (b8 (shx y11 (24 - (8 * (y4 % 4))))))) fh5 rfl
        refine to_iinc (L' := [(0, .inr (.inr 60)), (1, .inl a), (2, .inl b), (3, .inl c), (4, .inl d), (5, .inl e), (6, .inl (y4 + 1)), (7, .inl y11)]) (dat dk_X12_feed 44 rfl) rfl (by decide) rfl (to_goto (dat dk_X12_feed 45 rfl) rfl ?_)
        refine to_pick [0, 1, 2, 3, 4, 5, 6] rfl ?_
        exact ihn8 (n8 - 1) (by omega) (y4 + 1) h16 (by omega) I14 f15 (show 0 ≤ (y4 + 1) ∧ (y4 + 1) ≤ 20 by omega) (fun j hj => by rw [wh16, wr_if]; exact if cj : j = Int.toNat y4 then (by rw [if_pos ⟨rfl, cj⟩, b8_b8, cj]; exact rdy_at ha hb hc hd he ⟨by omega, by omega⟩ jv) else (by rw [if_neg (fun q => cj q.2)]; exact c7 j (by omega))) (show 20 - (y4 + 1) ≤ ((n8 - 1 : Nat) : Int) by omega)
      refine to_iload (dat dk_X12_feed 8 rfl) rfl (to_iconst (dat dk_X12_feed 9 rfl) ?_)
      refine to_ige 25 (dat dk_X12_feed 10 rfl) rfl ry4 (by decide) (fun c17 => ?_) (fun c17 => ?_)
      · skip
        refine to_iload (dat dk_X12_feed 13 rfl) rfl (to_bipush (dat dk_X12_feed 14 rfl) (by decide) ?_)
        refine to_ige 36 (dat dk_X12_feed 15 rfl) rfl ry4 (by decide) (fun c18 => ?_) (fun c18 => ?_)
        · skip
          refine to_iload (dat dk_X12_feed 18 rfl) rfl (to_bipush (dat dk_X12_feed 19 rfl) (by decide) ?_)
          refine to_ige 47 (dat dk_X12_feed 20 rfl) rfl ry4 (by decide) (fun c19 => ?_) (fun c19 => ?_)
          · skip
            refine to_iload (dat dk_X12_feed 23 rfl) rfl (to_bipush (dat dk_X12_feed 24 rfl) (by decide) ?_)
            refine to_ige 59 (dat dk_X12_feed 25 rfl) rfl ry4 (by decide) (fun c20 => ?_) (fun c20 => ?_)
            · skip
              refine to_iload (dat dk_X12_feed 28 rfl) rfl ?_
              exact jn61_n13 e he (show (y4 < 4 ∧ e = a) ∨ (4 ≤ y4 ∧ y4 < 8 ∧ e = b) ∨ (8 ≤ y4 ∧ y4 < 12 ∧ e = c) ∨ (12 ≤ y4 ∧ y4 < 16 ∧ e = d) ∨ (16 ≤ y4 ∧ e = e) by omega)
            · skip
              refine to_iload (dat dk_X12_feed 26 rfl) rfl (to_goto (dat dk_X12_feed 27 rfl) rfl ?_)
              exact jn61_n13 d hd (show (y4 < 4 ∧ d = a) ∨ (4 ≤ y4 ∧ y4 < 8 ∧ d = b) ∨ (8 ≤ y4 ∧ y4 < 12 ∧ d = c) ∨ (12 ≤ y4 ∧ y4 < 16 ∧ d = d) ∨ (16 ≤ y4 ∧ d = e) by omega)
          · skip
            refine to_iload_n (dat dk_X12_feed 21 rfl) rfl (to_goto (dat dk_X12_feed 22 rfl) rfl ?_)
            exact jn61_n13 c hc (show (y4 < 4 ∧ c = a) ∨ (4 ≤ y4 ∧ y4 < 8 ∧ c = b) ∨ (8 ≤ y4 ∧ y4 < 12 ∧ c = c) ∨ (12 ≤ y4 ∧ y4 < 16 ∧ c = d) ∨ (16 ≤ y4 ∧ c = e) by omega)
        · skip
          refine to_iload_n (dat dk_X12_feed 16 rfl) rfl (to_goto (dat dk_X12_feed 17 rfl) rfl ?_)
          exact jn61_n13 b hb (show (y4 < 4 ∧ b = a) ∨ (4 ≤ y4 ∧ y4 < 8 ∧ b = b) ∨ (8 ≤ y4 ∧ y4 < 12 ∧ b = c) ∨ (12 ≤ y4 ∧ y4 < 16 ∧ b = d) ∨ (16 ≤ y4 ∧ b = e) by omega)
      · skip
        refine to_iload_n (dat dk_X12_feed 11 rfl) rfl (to_goto (dat dk_X12_feed 12 rfl) rfl ?_)
        exact jn61_n13 a ha (show (y4 < 4 ∧ a = a) ∨ (4 ≤ y4 ∧ y4 < 8 ∧ a = b) ∨ (8 ≤ y4 ∧ y4 < 12 ∧ a = c) ∨ (12 ≤ y4 ∧ y4 < 16 ∧ a = d) ∨ (16 ≤ y4 ∧ a = e) by omega)
  exact lp8_n8 (20 - (0 : Int)).toNat 0 h3 (by decide) I1 f2 (show 0 ≤ (0 : Int) ∧ (0 : Int) ≤ 20 by omega) (fun j hj => absurd hj (Nat.not_lt_zero j)) (by omega)
abbrev Q_X12_end_vx (h : Hp) (n : Int) : Option V → Hp → Nat → Nat → Prop := RI (fun x H => Inv H ∧ Fr [61, 62, 200, 203] h H ∧ ((x = -1 ∧ H.2.2 60 3 = h.2.2 60 3 ∧ H.2.2 62 = h.2.2 62 ∧ H.2.2 61 = h.2.2 61 ∧ (n < 0 ∨ 20 < n ∨ 1200 < h.2.2 60 3 + n)) ∨ (x = h.2.2 60 3 + n ∧ H.2.2 60 3 = h.2.2 60 3 + n ∧ (0 ≤ n ∧ n ≤ 20 ∧ h.2.2 60 3 + n ≤ 1200) ∧ (∀ j : Nat, H.2.2 62 j = if Int.toNat (h.2.2 60 3) ≤ j ∧ j < Int.toNat (h.2.2 60 3 + n) then h.2.2 61 (j - Int.toNat (h.2.2 60 3)) else h.2.2 62 j) ∧ ∀ j : Nat, j < 20 → H.2.2 61 j = 0)))
set_option maxRecDepth 100000 in
theorem ct_X12_end_vx (l : Launch) (h : Hp) (hI : Inv h) (n : Int) (hn : I32 n) : Ct l D_X12_end 0 0 [.inr (.inr 60), .inl n] h (Q_X12_end_vx h n) := by
  refine ct_of pn_X12_end (Nat.le_of_ble_eq_true rfl) ?_
  show To l E_X12_end (0, [(0, .inr (.inr 60)), (1, .inl n)], [], h, 0, 0) _
  obtain ⟨x1, ex1⟩ : ∃ y : Int, h.2.2 60 3 = y := ⟨_, rfl⟩
  have rx1 := hI.atR (a := 60) (j := 3) rfl
  rw [ex1] at rx1
  refine to_aload_n (dat dk_X12_end 0 rfl) rfl (to_iconst (dat dk_X12_end 1 rfl) (to_putIw p_c13_154 (dat dk_X12_end 2 rfl) (hI.atS rfl) ?_))
  intro h4 wh4
  have I2 : Inv h4 := by rw [wh4]; exact hI.put (a := 60) (j := 0) (x := 0) (0) (3) rfl rfl (show (0 : Int) ≤ 0 ∧ 0 ≤ 3 by decide)
  have f3 : Fr [61, 62, 200, 203] h h4 := by rw [wh4]; exact Fr.putF (a := 60) (j := 0) (x := 0) (Fr.rf _ _) rfl
  refine to_iload_n (dat dk_X12_end 3 rfl) rfl ?_
  refine to_iflt 27 (dat dk_X12_end 4 rfl) rfl hn (fun c5 => ?_) (fun c5 => ?_)
  · skip
    refine to_iconst (dat dk_X12_end 14 rfl) ?_
    have e6 : h4.2.2 60 3 = x1 := (by rw [wh4]; exact ex1)
    exact to_iret rfl (dat dk_X12_end 15 rfl) (ri_mk (by decide) ⟨I2, f3, (Or.inl ⟨by omega, by omega, by rw [wh4]; exact funext fun i => wr_ne (by decide), by rw [wh4]; exact funext fun i => wr_ne (by decide), by omega⟩)⟩)
  · skip
    refine to_iload_n (dat dk_X12_end 5 rfl) rfl (to_bipush (dat dk_X12_end 6 rfl) (by decide) ?_)
    refine to_igt 27 (dat dk_X12_end 7 rfl) rfl hn (by decide) (fun c7 => ?_) (fun c7 => ?_)
    · skip
      refine to_iconst (dat dk_X12_end 14 rfl) ?_
      have e8 : h4.2.2 60 3 = x1 := (by rw [wh4]; exact ex1)
      exact to_iret rfl (dat dk_X12_end 15 rfl) (ri_mk (by decide) ⟨I2, f3, (Or.inl ⟨by omega, by omega, by rw [wh4]; exact funext fun i => wr_ne (by decide), by rw [wh4]; exact funext fun i => wr_ne (by decide), by omega⟩)⟩)
    · skip
      refine to_aload_n (dat dk_X12_end 8 rfl) rfl (to_getIv (y := x1) (by rw [wh4]; exact ex1) g_c13_496 (dat dk_X12_end 9 rfl) (I2.atS rfl) (to_iload_n (dat dk_X12_end 10 rfl) rfl (to_iadd (dat dk_X12_end 11 rfl) (to_sipush (dat dk_X12_end 12 rfl) (by decide) ?_))))
      refine to_ile 29 (dat dk_X12_end 13 rfl) rfl (by omega) (by decide) (fun c9 => ?_) (fun c9 => ?_)
      · skip
        refine to_iconst (dat dk_X12_end 16 rfl) (to_istore_n (L' := [(0, .inr (.inr 60)), (1, .inl n), (2, .inl 0)]) (dat dk_X12_end 17 rfl) (by decide) rfl ?_)
        have e13 : h4.2.2 60 3 = x1 := (by rw [wh4]; exact ex1)
        have lp31_n17 : ∀ (n17 : Nat) (y10 : Int) (h11 : Hp), (I32 y10) → (Inv h11) → (Fr [61, 62, 200, 203] h h11) → (0 ≤ y10 ∧ y10 ≤ n) → (h11.2.2 60 3 = h.2.2 60 3) → (∀ j : Nat, h11.2.2 62 j = if Int.toNat (h.2.2 60 3) ≤ j ∧ j < Int.toNat (h.2.2 60 3 + y10) then h.2.2 61 (j - Int.toNat (h.2.2 60 3)) else h.2.2 62 j) → (h11.2.2 61 = h.2.2 61) → (n - y10 ≤ (n17 : Int)) → To l E_X12_end (31, [(0, .inr (.inr 60)), (1, .inl n), (2, .inl y10)], [], h11, 0, 0) (Q_X12_end_vx h n) := by
          intro n17
          induction n17 using Nat.strongRecOn with
          | _ n17 ihn17 =>
          intro y10 h11 ry10 Ih11 fh11 c12 c14 c15 c16 c18
          obtain ⟨x19, ex19⟩ : ∃ y : Int, h11.2.2 60 3 = y := ⟨_, rfl⟩
          have rx19 := Ih11.atR (a := 60) (j := 3) rfl
          rw [ex19] at rx19
          refine to_iload_n (dat dk_X12_end 18 rfl) rfl (to_iload_n (dat dk_X12_end 19 rfl) rfl ?_)
          refine to_ige 59 (dat dk_X12_end 20 rfl) rfl ry10 hn (fun c20 => ?_) (fun c20 => ?_)
          · skip
            refine to_aload_n (dat dk_X12_end 34 rfl) rfl (to_dup (dat dk_X12_end 35 rfl) rfl (to_getIv (y := x19) ex19 g_c13_496 (dat dk_X12_end 36 rfl) (Ih11.atS rfl) (to_iload_n (dat dk_X12_end 37 rfl) rfl (to_iadd (dat dk_X12_end 38 rfl) (to_putIw p_c13_496 (dat dk_X12_end 39 rfl) (Ih11.atS rfl) ?_)))))
            intro h23 wh23
            have I21 : Inv h23 := by rw [wh23]; exact Ih11.put (a := 60) (j := 3) (x := (x19 + n)) (0) (1200) rfl rfl (show (0 : Int) ≤ (x19 + n) ∧ (x19 + n) ≤ 1200 by omega)
            have f22 : Fr [61, 62, 200, 203] h h23 := by rw [wh23]; exact Fr.putF (a := 60) (j := 3) (x := (x19 + n)) fh11 rfl
            refine to_iconst (dat dk_X12_end 40 rfl) (to_istore_n (L' := [(0, .inr (.inr 60)), (1, .inl n), (2, .inl 0)]) (dat dk_X12_end 41 rfl) (by decide) rfl ?_)
            have e27 : h23.2.2 60 3 = (x19 + n) := (by rw [wh23]; exact wr_eq)
            have lp71_n31 : ∀ (n31 : Nat) (y24 : Int) (h25 : Hp), (I32 y24) → (Inv h25) → (Fr [61, 62, 200, 203] h h25) → (0 ≤ y24 ∧ y24 ≤ 20) → (h25.2.2 60 3 = h.2.2 60 3 + n) → (∀ j : Nat, h25.2.2 62 j = if Int.toNat (h.2.2 60 3) ≤ j ∧ j < Int.toNat (h.2.2 60 3 + n) then h.2.2 61 (j - Int.toNat (h.2.2 60 3)) else h.2.2 62 j) → (∀ j : Nat, j < Int.toNat y24 → h25.2.2 61 j = 0) → (20 - y24 ≤ (n31 : Int)) → To l E_X12_end (71, [(0, .inr (.inr 60)), (1, .inl n), (2, .inl y24)], [], h25, 0, 0) (Q_X12_end_vx h n) := by
              intro n31
              induction n31 using Nat.strongRecOn with
              | _ n31 ihn31 =>
              intro y24 h25 ry24 Ih25 fh25 c26 c28 c29 c30 c32
              obtain ⟨x33, ex33⟩ : ∃ y : Int, h25.2.2 60 3 = y := ⟨_, rfl⟩
              have rx33 := Ih25.atR (a := 60) (j := 3) rfl
              rw [ex33] at rx33
              refine to_iload_n (dat dk_X12_end 42 rfl) rfl (to_bipush (dat dk_X12_end 43 rfl) (by decide) ?_)
              refine to_ige 90 (dat dk_X12_end 44 rfl) rfl ry24 (by decide) (fun c34 => ?_) (fun c34 => ?_)
              · skip
                refine to_aload_n (dat dk_X12_end 52 rfl) rfl (to_getIv (y := x33) ex33 g_c13_496 (dat dk_X12_end 53 rfl) (Ih25.atS rfl) ?_)
                exact to_iret rfl (dat dk_X12_end 54 rfl) (ri_mk (by omega) ⟨Ih25, fh25, (Or.inr ⟨by omega, by omega, ⟨by omega, by omega, by omega⟩, c29, fun j hj => c30 j (by omega)⟩)⟩)
              · skip
                refine to_aload_n (dat dk_X12_end 45 rfl) rfl (to_getR 61 g_c13_7 (dat dk_X12_end 46 rfl) (Ih25.atS rfl) (Ih25.atE rfl) (to_iload_n (dat dk_X12_end 47 rfl) rfl (to_iconst (dat dk_X12_end 48 rfl) (to_bastw (dat dk_X12_end 49 rfl) (Ih25.atS rfl) rfl (by decide) (by omega) ?_))))
                intro h37 wh37
                have I35 : Inv h37 := by rw [wh37]; exact Ih25.put (a := 61) (j := (Int.toNat y24)) (x := (b8 0)) (-128) (127) rfl rfl (show (-128 : Int) ≤ (b8 0) ∧ (b8 0) ≤ 127 by have := b8_in 0; omega)
                have f36 : Fr [61, 62, 200, 203] h h37 := by rw [wh37]; exact Fr.putF (a := 61) (j := (Int.toNat y24)) (x := (b8 0)) fh25 rfl
                refine to_iinc (L' := [(0, .inr (.inr 60)), (1, .inl n), (2, .inl (y24 + 1))]) (dat dk_X12_end 50 rfl) rfl (by decide) rfl (to_goto (dat dk_X12_end 51 rfl) rfl ?_)
                have e38 : h37.2.2 60 3 = x33 := (by rw [wh37]; exact ex33)
                exact ihn31 (n31 - 1) (by omega) (y24 + 1) h37 (by omega) I35 f36 (show 0 ≤ (y24 + 1) ∧ (y24 + 1) ≤ 20 by omega) (show h37.2.2 60 3 = h.2.2 60 3 + n by omega) (fun j => by rw [wh37, wr_ne (by decide)]; exact c29 j) (fun j hj => by rw [wh37, wr_if]; exact if cj : j = Int.toNat y24 then (by rw [if_pos ⟨rfl, cj⟩]; rfl) else (by rw [if_neg (fun q => cj q.2)]; exact c30 j (by omega))) (show 20 - (y24 + 1) ≤ ((n31 - 1 : Nat) : Int) by omega)
            exact lp71_n31 (20 - (0 : Int)).toNat 0 h23 (by decide) I21 f22 (show 0 ≤ (0 : Int) ∧ (0 : Int) ≤ 20 by omega) (show h23.2.2 60 3 = h.2.2 60 3 + n by omega) (fun j => by rw [wh23, wr_ne (by decide), c15 j]; congr 3; omega) (fun j hj => absurd hj (Nat.not_lt_zero j)) (by omega)
          · skip
            refine to_aload_n (dat dk_X12_end 21 rfl) rfl (to_getR 62 g_c13_13 (dat dk_X12_end 22 rfl) (Ih11.atS rfl) (Ih11.atE rfl) (to_aload_n (dat dk_X12_end 23 rfl) rfl (to_getIv (y := x19) ex19 g_c13_496 (dat dk_X12_end 24 rfl) (Ih11.atS rfl) (to_iload_n (dat dk_X12_end 25 rfl) rfl (to_iadd (dat dk_X12_end 26 rfl) (to_aload_n (dat dk_X12_end 27 rfl) rfl (to_getR 61 g_c13_7 (dat dk_X12_end 28 rfl) (Ih11.atS rfl) (Ih11.atE rfl) (to_iload_n (dat dk_X12_end 29 rfl) rfl ?_))))))))
            obtain ⟨x39, ex39⟩ : ∃ y : Int, h11.2.2 61 (Int.toNat y10) = y := ⟨_, rfl⟩
            have rx39 := Ih11.atR (a := 61) (j := Int.toNat y10) rfl
            rw [ex39] at rx39
            refine to_baldv (q := 1) ex39 (dat dk_X12_end 30 rfl) (by decide) (Ih11.atS rfl) rfl (by decide) (by omega) (to_bastw (dat dk_X12_end 31 rfl) (Ih11.atS rfl) rfl (by decide) (by omega) ?_)
            intro h42 wh42
            have I40 : Inv h42 := by rw [wh42]; exact Ih11.put (a := 62) (j := (Int.toNat (x19 + y10))) (x := (b8 x39)) (-128) (127) rfl rfl (show (-128 : Int) ≤ (b8 x39) ∧ (b8 x39) ≤ 127 by have := b8_in x39; omega)
            have f41 : Fr [61, 62, 200, 203] h h42 := by rw [wh42]; exact Fr.putF (a := 62) (j := (Int.toNat (x19 + y10))) (x := (b8 x39)) fh11 rfl
            refine to_iinc (L' := [(0, .inr (.inr 60)), (1, .inl n), (2, .inl (y10 + 1))]) (dat dk_X12_end 32 rfl) rfl (by decide) rfl (to_goto (dat dk_X12_end 33 rfl) rfl ?_)
            have e43 : h42.2.2 60 3 = x19 := (by rw [wh42]; exact ex19)
            exact ihn17 (n17 - 1) (by omega) (y10 + 1) h42 (by omega) I40 f41 (show 0 ≤ (y10 + 1) ∧ (y10 + 1) ≤ n by omega) (show h42.2.2 60 3 = h.2.2 60 3 by omega) (rd_step (k := y10) (by omega) (by omega) (by omega) c15 (fun j => Eq.trans (congrArg (fun q : Hp => q.2.2 62 j) wh42) wr_own) (by rw [← ex39, c16]; exact b8_id (by have := hI.atR (a := 61) (j := Int.toNat y10) rfl; omega))) (by rw [wh42]; exact (funext fun i => wr_ne (by decide)).trans c16) (show n - (y10 + 1) ≤ ((n17 - 1 : Nat) : Int) by omega)
        exact lp31_n17 (n - (0 : Int)).toNat 0 h4 (by decide) I2 f3 (show 0 ≤ (0 : Int) ∧ (0 : Int) ≤ n by omega) (show h4.2.2 60 3 = h.2.2 60 3 by omega) (fun j => by rw [if_neg (by omega), wh4]; exact wr_ne (by decide)) (by rw [wh4]; exact funext fun i => wr_ne (by decide)) (by omega)
      · skip
        refine to_iconst (dat dk_X12_end 14 rfl) ?_
        have e44 : h4.2.2 60 3 = x1 := (by rw [wh4]; exact ex1)
        exact to_iret rfl (dat dk_X12_end 15 rfl) (ri_mk (by decide) ⟨I2, f3, (Or.inl ⟨by omega, by omega, by rw [wh4]; exact funext fun i => wr_ne (by decide), by rw [wh4]; exact funext fun i => wr_ne (by decide), by omega⟩)⟩)
