/-! What the constructor makes ready. -/
abbrev Q_X1_put_v0x (h : Hp) (a : Nat) (b : Int) : Option V → Hp → Nat → Nat → Prop := RV (fun H => BB H ∧ Fr [a] h H ∧ (((h.2.2 a 1 < (bcap a : Int)) ∧ H.2.2 a 1 = h.2.2 a 1 + 1 ∧ ∀ j : Nat, H.2.2 (a + 1) j = if j = Int.toNat (h.2.2 a 1) then b8 b else h.2.2 (a + 1) j) ∨ ((bcap a : Int) ≤ h.2.2 a 1 ∧ H.2.2 a 1 = h.2.2 a 1 ∧ H.2.2 (a + 1) = h.2.2 (a + 1))))
set_option maxRecDepth 100000 in
theorem ct_X1_put_v0x (l : Launch) (h : Hp) (hI : BB h) (a : Nat) (ha : isB0 a = true) (b : Int) (hb : I32 b) : Ct l D_X1_put 0 0 [.inr (.inr a), .inl b] h (Q_X1_put_v0x h a b) := by
  refine ct_of pn_X1_put (Nat.le_of_ble_eq_true rfl) ?_
  show To l E_X1_put (0, [(0, .inr (.inr a)), (1, .inl b)], [], h, 0, 0) _
  obtain ⟨x1, ex1⟩ : ∃ y : Int, h.2.2 a 1 = y := ⟨_, rfl⟩
  have rx1 := hI.blen ha
  rw [ex1] at rx1
  refine to_aload_np (dat dk_X1_put 0 rfl) (hI.pos ha) rfl (to_getIv (y := x1) ex1 g_c2_15 (dat dk_X1_put 1 rfl) (hI.bty ha) ?_)
  refine to_iflt 40 (dat dk_X1_put 2 rfl) rfl (by omega) (fun c2 => ?_) (fun c2 => ?_)
  · skip
    exact to_vret rfl (dat dk_X1_put 22 rfl) (rv_mk ⟨hI, (Fr.rf _ _), (Or.inr ⟨by omega, by omega, rfl⟩)⟩)
  · skip
    refine to_aload_np (dat dk_X1_put 3 rfl) (hI.pos ha) rfl (to_getIv (y := x1) ex1 g_c2_15 (dat dk_X1_put 4 rfl) (hI.bty ha) (to_aload_np (dat dk_X1_put 5 rfl) (hI.pos ha) rfl (to_getR (a + 1) g_c2_9 (dat dk_X1_put 6 rfl) (hI.bty ha) (hI.brow ha) (to_alen (dat dk_X1_put 7 rfl) (hI.brt ha) (by decide) ?_))))
    refine to_ige 40 (dat dk_X1_put 8 rfl) rfl (by omega) (by omega) (fun c3 => ?_) (fun c3 => ?_)
    · skip
      exact to_vret rfl (dat dk_X1_put 22 rfl) (rv_mk ⟨hI, (Fr.rf _ _), (Or.inr ⟨by omega, by omega, rfl⟩)⟩)
    · skip
      refine to_aload_np (dat dk_X1_put 9 rfl) (hI.pos ha) rfl (to_getR (a + 1) g_c2_9 (dat dk_X1_put 10 rfl) (hI.bty ha) (hI.brow ha) (to_aload_np (dat dk_X1_put 11 rfl) (hI.pos ha) rfl (to_getIv (y := x1) ex1 g_c2_15 (dat dk_X1_put 12 rfl) (hI.bty ha) (to_iload_n (dat dk_X1_put 13 rfl) rfl (to_i2b (dat dk_X1_put 14 rfl) (to_bastw (dat dk_X1_put 15 rfl) (hI.brt ha) rfl (bcap_n a) (by omega) ?_))))))
      intro h6 wh6
      have I4 : BB h6 := by rw [wh6]; exact hI.putBr (j := (Int.toNat x1)) (x := (b8 (b8 b))) ha (by have := b8_in (b8 b); omega)
      have f5 : Fr [a] h h6 := by rw [wh6]; exact Fr.putBr (j := (Int.toNat x1)) (x := (b8 (b8 b))) (Fr.rf _ _) (isB0_B ha) (contains1 _)
      refine to_aload_np (dat dk_X1_put 16 rfl) (I4.pos ha) rfl (to_dup (dat dk_X1_put 17 rfl) rfl (to_getIv (y := x1) (by rw [wh6]; exact (wr_ne (ne_ty (hI.bty ha) (hI.brt ha) (by intro e; cases e))).trans ex1) g_c2_15 (dat dk_X1_put 18 rfl) (I4.bty ha) (to_iconst (dat dk_X1_put 19 rfl) (to_iadd (dat dk_X1_put 20 rfl) (to_putIw p_c2_15 (dat dk_X1_put 21 rfl) (I4.bty ha) ?_)))))
      intro h9 wh9
      have I7 : BB h9 := by rw [wh9]; exact I4.putB (x := (x1 + 1)) ha (by omega)
      have f8 : Fr [a] h h9 := by rw [wh9]; exact Fr.putB (j := 1) (x := (x1 + 1)) f5 (isB0_B ha) (contains1 _)
      have e10 : h9.2.2 a 1 = (x1 + 1) := (by rw [wh9]; exact wr_eq)
      exact to_vret rfl (dat dk_X1_put 22 rfl) (rv_mk ⟨I7, f8, (Or.inl ⟨by omega, by omega, fun j => by rw [wh9, wr_ne (by omega), wh6, wr_if, ex1]; simp only [true_and, b8_b8]⟩)⟩)
abbrev Q_X1_clear_v0x (h : Hp) (a : Nat) : Option V → Hp → Nat → Nat → Prop := RV (fun H => BB H ∧ Fr [a] h H ∧ (H.2.2 a 1 = 0) ∧ (H.2.2 (a + 1) = h.2.2 (a + 1)))
set_option maxRecDepth 100000 in
theorem ct_X1_clear_v0x (l : Launch) (h : Hp) (hI : BB h) (a : Nat) (ha : isB0 a = true) : Ct l D_X1_clear 0 0 [.inr (.inr a)] h (Q_X1_clear_v0x h a) := by
  refine ct_of pn_X1_clear (Nat.le_of_ble_eq_true rfl) ?_
  show To l E_X1_clear (0, [(0, .inr (.inr a))], [], h, 0, 0) _
  obtain ⟨x1, ex1⟩ : ∃ y : Int, h.2.2 a 1 = y := ⟨_, rfl⟩
  have rx1 := hI.blen ha
  rw [ex1] at rx1
  refine to_aload_np (dat dk_X1_clear 0 rfl) (hI.pos ha) rfl (to_iconst (dat dk_X1_clear 1 rfl) (to_putIw p_c2_15 (dat dk_X1_clear 2 rfl) (hI.bty ha) ?_))
  intro h4 wh4
  have I2 : BB h4 := by rw [wh4]; exact hI.putB (x := 0) ha (by omega)
  have f3 : Fr [a] h h4 := by rw [wh4]; exact Fr.putB (j := 1) (x := 0) (Fr.rf _ _) (isB0_B ha) (contains1 _)
  have e5 : h4.2.2 a 1 = (0 : Int) := (by rw [wh4]; exact wr_eq)
  exact to_vret rfl (dat dk_X1_clear 3 rfl) (rv_mk ⟨I2, f3, (show h4.2.2 a 1 = 0 by omega), (by rw [wh4]; exact funext fun i => wr_ne (by omega))⟩)
abbrev Q_X1_putNumber_v0x (h : Hp) (a : Nat) (b : Int) : Option V → Hp → Nat → Nat → Prop := RV (fun H => BB H ∧ Fr [a] h H ∧ (H.2.2 a 1 = h.2.2 a 1 + 4) ∧ (∀ j : Nat, H.2.2 (a + 1) j = put4 (h.2.2 (a + 1)) (Int.toNat (h.2.2 a 1)) b j))
set_option maxRecDepth 100000 in
theorem ct_X1_putNumber_v0x (l : Launch) (h : Hp) (hI : BB h) (a : Nat) (ha : isB0 a = true) (b : Int) (hb : I32 b) (g0 : h.2.2 a 1 + 4 ≤ (bcap a : Int)) : Ct l D_X1_putNumber 1 21 [.inr (.inr a), .inl b] h (Q_X1_putNumber_v0x h a b) := by
  refine ct_of pn_X1_putNumber (Nat.le_of_ble_eq_true rfl) ?_
  show To l E_X1_putNumber (0, [(0, .inr (.inr a)), (1, .inl b)], [], h, 0, 0) _
  obtain ⟨x1, ex1⟩ : ∃ y : Int, h.2.2 a 1 = y := ⟨_, rfl⟩
  have rx1 := hI.blen ha
  rw [ex1] at rx1
  refine to_aload_np (dat dk_X1_putNumber 0 rfl) (hI.pos ha) rfl (to_iload_n (dat dk_X1_putNumber 1 rfl) rfl (to_bipush (dat dk_X1_putNumber 2 rfl) (by decide) (to_ishrx (dat dk_X1_putNumber 3 rfl) ?_)))
  refine to_cV ca_c2_19 (dat dk_X1_putNumber 4 rfl) (ct_X1_put_v0x l h hI a ha (shx b 24) (shx_i32 _ _)) rfl ⟨_, _, rfl, (hI.bty ha)⟩ rfl (fun h3 p4 => ?_)
  obtain ⟨Ih3, fh3, p4_0⟩ := p4
  have f5 : Fr [a] h h3 := Fr.sub (Fr.rf _ _) fh3 (sub_self _)
  obtain ⟨x6, ex6⟩ : ∃ y : Int, h3.2.2 a 1 = y := ⟨_, rfl⟩
  have rx6 := Ih3.blen ha
  rw [ex6] at rx6
  refine to_aload_np (dat dk_X1_putNumber 5 rfl) (Ih3.pos ha) rfl (to_iload_n (dat dk_X1_putNumber 6 rfl) rfl (to_bipush (dat dk_X1_putNumber 7 rfl) (by decide) (to_ishrx (dat dk_X1_putNumber 8 rfl) ?_)))
  refine to_cV ca_c2_19 (dat dk_X1_putNumber 9 rfl) (ct_X1_put_v0x l h3 Ih3 a ha (shx b 16) (shx_i32 _ _)) rfl ⟨_, _, rfl, (Ih3.bty ha)⟩ rfl (fun h8 p9 => ?_)
  obtain ⟨Ih8, fh8, p9_0⟩ := p9
  have f10 : Fr [a] h h8 := Fr.sub f5 fh8 (sub_self _)
  obtain ⟨x11, ex11⟩ : ∃ y : Int, h8.2.2 a 1 = y := ⟨_, rfl⟩
  have rx11 := Ih8.blen ha
  rw [ex11] at rx11
  refine to_aload_np (dat dk_X1_putNumber 10 rfl) (Ih8.pos ha) rfl (to_iload_n (dat dk_X1_putNumber 11 rfl) rfl (to_bipush (dat dk_X1_putNumber 12 rfl) (by decide) (to_ishrx (dat dk_X1_putNumber 13 rfl) ?_)))
  refine to_cV ca_c2_19 (dat dk_X1_putNumber 14 rfl) (ct_X1_put_v0x l h8 Ih8 a ha (shx b 8) (shx_i32 _ _)) rfl ⟨_, _, rfl, (Ih8.bty ha)⟩ rfl (fun h13 p14 => ?_)
  obtain ⟨Ih13, fh13, p14_0⟩ := p14
  have f15 : Fr [a] h h13 := Fr.sub f10 fh13 (sub_self _)
  obtain ⟨x16, ex16⟩ : ∃ y : Int, h13.2.2 a 1 = y := ⟨_, rfl⟩
  have rx16 := Ih13.blen ha
  rw [ex16] at rx16
  refine to_aload_np (dat dk_X1_putNumber 15 rfl) (Ih13.pos ha) rfl (to_iload_n (dat dk_X1_putNumber 16 rfl) rfl ?_)
  refine to_cV ca_c2_19 (dat dk_X1_putNumber 17 rfl) (ct_X1_put_v0x l h13 Ih13 a ha b hb) rfl ⟨_, _, rfl, (Ih13.bty ha)⟩ rfl (fun h18 p19 => ?_)
  obtain ⟨Ih18, fh18, p19_0⟩ := p19
  have f20 : Fr [a] h h18 := Fr.sub f15 fh18 (sub_self _)
  obtain ⟨x21, ex21⟩ : ∃ y : Int, h18.2.2 a 1 = y := ⟨_, rfl⟩
  have rx21 := Ih18.blen ha
  rw [ex21] at rx21
  obtain ⟨-, v0, u0⟩ := Or.resolve_right p4_0 (fun q => absurd q.1 (by omega))
  obtain ⟨-, v1, u1⟩ := Or.resolve_right p9_0 (fun q => absurd q.1 (by omega))
  obtain ⟨-, v2, u2⟩ := Or.resolve_right p14_0 (fun q => absurd q.1 (by omega))
  obtain ⟨-, v3, u3⟩ := Or.resolve_right p19_0 (fun q => absurd q.1 (by omega))
  have u : ∀ j : Nat, h18.2.2 (a + 1) j = put4 (h.2.2 (a + 1)) (Int.toNat (h.2.2 a 1)) b j := fun j => by
    have n1 : Int.toNat (h3.2.2 a 1) = Int.toNat (h.2.2 a 1) + 1 := by omega
    have n2 : Int.toNat (h8.2.2 a 1) = Int.toNat (h.2.2 a 1) + 2 := by omega
    have n3 : Int.toNat (h13.2.2 a 1) = Int.toNat (h.2.2 a 1) + 3 := by omega
    rw [u3, u2, u1, u0, n3, n2, n1]
    rfl
  exact to_vret rfl (dat dk_X1_putNumber 18 rfl) (rv_mk ⟨Ih18, f20, (show h18.2.2 a 1 = h.2.2 a 1 + 4 by omega), u⟩)
abbrev Q_X11_makeReady_v0x (h : Hp) (a : Int) (b : Int) (c : Int) (d : Int) (e : Int) : Option V → Hp → Nat → Nat → Prop := RV (fun H => BB H ∧ Fr [2] h H ∧ (H.2.2 2 1 = 20) ∧ (∀ j : Nat, j < 20 → H.2.2 3 j = rdyF a b c d e j))
set_option maxRecDepth 100000 in
theorem ct_X11_makeReady_v0x (l : Launch) (h : Hp) (hI : BB h) (a : Int) (ha : I32 a) (b : Int) (hb : I32 b) (c : Int) (hc : I32 c) (d : Int) (hd : I32 d) (e : Int) (he : I32 e) : Ct l D_X11_makeReady 2 42 [.inr (.inr 1), .inl a, .inl b, .inl c, .inl d, .inl e] h (Q_X11_makeReady_v0x h a b c d e) := by
  refine ct_of pn_X11_makeReady (Nat.le_of_ble_eq_true rfl) ?_
  show To l E_X11_makeReady (0, [(0, .inr (.inr 1)), (1, .inl a), (2, .inl b), (3, .inl c), (4, .inl d), (5, .inl e)], [], h, 0, 0) _
  obtain ⟨x1, ex1⟩ : ∃ y : Int, h.2.2 2 1 = y := ⟨_, rfl⟩
  have rx1 := hI.atR (a := 2) (j := 1) rfl
  rw [ex1] at rx1
  refine to_aload_n (dat dk_X11_makeReady 0 rfl) rfl (to_getR 2 g_c0_14 (dat dk_X11_makeReady 1 rfl) (hI.atS rfl) (hI.atE rfl) ?_)
  refine to_cV ca_c0_113 (dat dk_X11_makeReady 2 rfl) (ct_X1_clear_v0x l h hI 2 rfl) rfl ⟨_, _, rfl, (hI.atS rfl)⟩ rfl (fun h3 p4 => ?_)
  obtain ⟨Ih3, fh3, p4_0, p4_1⟩ := p4
  have f5 : Fr [2] h h3 := Fr.sub (Fr.rf _ _) fh3 (sub_self _)
  obtain ⟨x6, ex6⟩ : ∃ y : Int, h3.2.2 2 1 = y := ⟨_, rfl⟩
  have rx6 := Ih3.atR (a := 2) (j := 1) rfl
  rw [ex6] at rx6
  refine to_aload_n (dat dk_X11_makeReady 3 rfl) rfl (to_getR 2 g_c0_14 (dat dk_X11_makeReady 4 rfl) (Ih3.atS rfl) (Ih3.atE rfl) (to_iload_n (dat dk_X11_makeReady 5 rfl) rfl ?_))
  refine to_cV ca_c0_243 (dat dk_X11_makeReady 6 rfl) (ct_X1_putNumber_v0x l h3 Ih3 2 rfl a ha (show h3.2.2 2 1 + 4 ≤ (20 : Int) by omega)) rfl ⟨_, _, rfl, (Ih3.atS rfl)⟩ rfl (fun h8 p9 => ?_)
  obtain ⟨Ih8, fh8, p9_0, p9_1⟩ := p9
  have f10 : Fr [2] h h8 := Fr.sub f5 fh8 (sub_self _)
  obtain ⟨x11, ex11⟩ : ∃ y : Int, h8.2.2 2 1 = y := ⟨_, rfl⟩
  have rx11 := Ih8.atR (a := 2) (j := 1) rfl
  rw [ex11] at rx11
  refine to_aload_n (dat dk_X11_makeReady 7 rfl) rfl (to_getR 2 g_c0_14 (dat dk_X11_makeReady 8 rfl) (Ih8.atS rfl) (Ih8.atE rfl) (to_iload_n (dat dk_X11_makeReady 9 rfl) rfl ?_))
  refine to_cV ca_c0_243 (dat dk_X11_makeReady 10 rfl) (ct_X1_putNumber_v0x l h8 Ih8 2 rfl b hb (show h8.2.2 2 1 + 4 ≤ (20 : Int) by omega)) rfl ⟨_, _, rfl, (Ih8.atS rfl)⟩ rfl (fun h13 p14 => ?_)
  obtain ⟨Ih13, fh13, p14_0, p14_1⟩ := p14
  have f15 : Fr [2] h h13 := Fr.sub f10 fh13 (sub_self _)
  obtain ⟨x16, ex16⟩ : ∃ y : Int, h13.2.2 2 1 = y := ⟨_, rfl⟩
  have rx16 := Ih13.atR (a := 2) (j := 1) rfl
  rw [ex16] at rx16
  refine to_aload_n (dat dk_X11_makeReady 11 rfl) rfl (to_getR 2 g_c0_14 (dat dk_X11_makeReady 12 rfl) (Ih13.atS rfl) (Ih13.atE rfl) (to_iload_n (dat dk_X11_makeReady 13 rfl) rfl ?_))
  refine to_cV ca_c0_243 (dat dk_X11_makeReady 14 rfl) (ct_X1_putNumber_v0x l h13 Ih13 2 rfl c hc (show h13.2.2 2 1 + 4 ≤ (20 : Int) by omega)) rfl ⟨_, _, rfl, (Ih13.atS rfl)⟩ rfl (fun h18 p19 => ?_)
  obtain ⟨Ih18, fh18, p19_0, p19_1⟩ := p19
  have f20 : Fr [2] h h18 := Fr.sub f15 fh18 (sub_self _)
  obtain ⟨x21, ex21⟩ : ∃ y : Int, h18.2.2 2 1 = y := ⟨_, rfl⟩
  have rx21 := Ih18.atR (a := 2) (j := 1) rfl
  rw [ex21] at rx21
  refine to_aload_n (dat dk_X11_makeReady 15 rfl) rfl (to_getR 2 g_c0_14 (dat dk_X11_makeReady 16 rfl) (Ih18.atS rfl) (Ih18.atE rfl) (to_iload (dat dk_X11_makeReady 17 rfl) rfl ?_))
  refine to_cV ca_c0_243 (dat dk_X11_makeReady 18 rfl) (ct_X1_putNumber_v0x l h18 Ih18 2 rfl d hd (show h18.2.2 2 1 + 4 ≤ (20 : Int) by omega)) rfl ⟨_, _, rfl, (Ih18.atS rfl)⟩ rfl (fun h23 p24 => ?_)
  obtain ⟨Ih23, fh23, p24_0, p24_1⟩ := p24
  have f25 : Fr [2] h h23 := Fr.sub f20 fh23 (sub_self _)
  obtain ⟨x26, ex26⟩ : ∃ y : Int, h23.2.2 2 1 = y := ⟨_, rfl⟩
  have rx26 := Ih23.atR (a := 2) (j := 1) rfl
  rw [ex26] at rx26
  refine to_aload_n (dat dk_X11_makeReady 19 rfl) rfl (to_getR 2 g_c0_14 (dat dk_X11_makeReady 20 rfl) (Ih23.atS rfl) (Ih23.atE rfl) (to_iload (dat dk_X11_makeReady 21 rfl) rfl ?_))
  refine to_cV ca_c0_243 (dat dk_X11_makeReady 22 rfl) (ct_X1_putNumber_v0x l h23 Ih23 2 rfl e he (show h23.2.2 2 1 + 4 ≤ (20 : Int) by omega)) rfl ⟨_, _, rfl, (Ih23.atS rfl)⟩ rfl (fun h28 p29 => ?_)
  obtain ⟨Ih28, fh28, p29_0, p29_1⟩ := p29
  have f30 : Fr [2] h h28 := Fr.sub f25 fh28 (sub_self _)
  obtain ⟨x31, ex31⟩ : ∃ y : Int, h28.2.2 2 1 = y := ⟨_, rfl⟩
  have rx31 := Ih28.atR (a := 2) (j := 1) rfl
  rw [ex31] at rx31
  have v0 : h8.2.2 2 1 = h3.2.2 2 1 + 4 := p9_0
  have v1 : h13.2.2 2 1 = h8.2.2 2 1 + 4 := p14_0
  have v2 : h18.2.2 2 1 = h13.2.2 2 1 + 4 := p19_0
  have v3 : h23.2.2 2 1 = h18.2.2 2 1 + 4 := p24_0
  have v4 : h28.2.2 2 1 = h23.2.2 2 1 + 4 := p29_0
  have n0 : Int.toNat (h3.2.2 2 1) = 0 := by omega
  have u0 : ∀ j : Nat, h8.2.2 3 j = put4 (h3.2.2 3) 0 a j := fun j => by have u := p9_1 j; rw [n0] at u; exact u
  have n1 : Int.toNat (h8.2.2 2 1) = 4 := by omega
  have u1 : ∀ j : Nat, h13.2.2 3 j = put4 (h8.2.2 3) 4 b j := fun j => by have u := p14_1 j; rw [n1] at u; exact u
  have n2 : Int.toNat (h13.2.2 2 1) = 8 := by omega
  have u2 : ∀ j : Nat, h18.2.2 3 j = put4 (h13.2.2 3) 8 c j := fun j => by have u := p19_1 j; rw [n2] at u; exact u
  have n3 : Int.toNat (h18.2.2 2 1) = 12 := by omega
  have u3 : ∀ j : Nat, h23.2.2 3 j = put4 (h18.2.2 3) 12 d j := fun j => by have u := p24_1 j; rw [n3] at u; exact u
  have n4 : Int.toNat (h23.2.2 2 1) = 16 := by omega
  have u4 : ∀ j : Nat, h28.2.2 3 j = put4 (h23.2.2 3) 16 e j := fun j => by have u := p29_1 j; rw [n4] at u; exact u
  exact to_vret rfl (dat dk_X11_makeReady 23 rfl) (rv_mk ⟨Ih28, f30, (show h28.2.2 2 1 = 20 by omega), (rdy_put4 u0 u1 u2 u3 u4)⟩)
set_option maxRecDepth 100000 in
theorem ncx_A20 (l : Launch) : Ct l D_X11_init 4 80 [.inr (.inr 1)] (hpx hp0 2 TA_2 WA_0) (RVa (fun H mc ms => BB H ∧ Fr [2] (hpx hp0 60 TA_60 WA_73) H ∧ (H.2.2 2 1 = 20 ∧ ∀ j : Nat, j < 20 → H.2.2 3 j = rdyF 0 0 0 0 0 j) ∧ mc = 58 ∧ ms = 24493)) := by
  refine ct_of pn_X11_init (Nat.le_of_ble_eq_true rfl) ?_
  show To l E_X11_init (0, [(0, .inr (.inr 1))], [], (hpx hp0 2 TA_2 WA_0), 0, 0) _
  refine to_aload_np (dat dk_X11_init 0 rfl) (by decide) rfl ?_
  refine to_obj (tin 1 37 (by decide +kernel) rfl) (tin 1 38 (by decide +kernel) rfl) (tin 1 39 (by decide +kernel) rfl) (dat dk_X11_init 1 rfl) rfl rfl ?_
  refine to_aload_np (dat dk_X11_init 2 rfl) (by decide) rfl ?_
  refine to_new nw_c0_7 (dat dk_X11_init 3 rfl) (show (2 : Nat) < 1000000 by decide) ?_
  show To l E_X11_init (8, [(0, .inr (.inr 1))], [.inr (.inr 2), .inr (.inr 1)], (hpx hp0 3 TA_3 WA_0), 1, 2) _
  refine to_dup (dat dk_X11_init 4 rfl) rfl ?_
  refine to_bipush (dat dk_X11_init 5 rfl) (by decide) ?_
  refine to_cVa ca_c0_11 (dat dk_X11_init 6 rfl) (nc_A1 l) rfl ⟨2, .inr 2, _, rfl, rfl⟩ rfl (fun H mc ms p => ?_)
  obtain ⟨rfl, rfl, rfl⟩ := p
  show To l E_X11_init (14, [(0, .inr (.inr 1))], [.inr (.inr 2), .inr (.inr 1)], (hpx hp0 4 TA_4 WA_1), 2, 22) _
  refine to_putR p_c0_14 (dat dk_X11_init 7 rfl) rfl ?_
  show To l E_X11_init (17, [(0, .inr (.inr 1))], [], (hpx hp0 4 TA_4 WA_2), 2, 22) _
  refine to_aload_np (dat dk_X11_init 8 rfl) (by decide) rfl ?_
  refine to_new nw_c0_7 (dat dk_X11_init 9 rfl) (show (4 : Nat) < 1000000 by decide) ?_
  show To l E_X11_init (21, [(0, .inr (.inr 1))], [.inr (.inr 4), .inr (.inr 1)], (hpx hp0 5 TA_5 WA_2), 3, 24) _
  refine to_dup (dat dk_X11_init 10 rfl) rfl ?_
  refine to_sipush (dat dk_X11_init 11 rfl) (by decide) ?_
  refine to_cVa ca_c0_11 (dat dk_X11_init 12 rfl) (nc_A2 l) rfl ⟨4, .inr 2, _, rfl, rfl⟩ rfl (fun H mc ms p => ?_)
  obtain ⟨rfl, rfl, rfl⟩ := p
  show To l E_X11_init (28, [(0, .inr (.inr 1))], [.inr (.inr 4), .inr (.inr 1)], (hpx hp0 6 TA_6 WA_3), 4, 1224) _
  refine to_putR p_c0_18 (dat dk_X11_init 13 rfl) rfl ?_
  show To l E_X11_init (31, [(0, .inr (.inr 1))], [], (hpx hp0 6 TA_6 WA_4), 4, 1224) _
  refine to_aload_np (dat dk_X11_init 14 rfl) (by decide) rfl ?_
  refine to_new nw_c0_7 (dat dk_X11_init 15 rfl) (show (6 : Nat) < 1000000 by decide) ?_
  show To l E_X11_init (35, [(0, .inr (.inr 1))], [.inr (.inr 6), .inr (.inr 1)], (hpx hp0 7 TA_7 WA_4), 5, 1226) _
  refine to_dup (dat dk_X11_init 16 rfl) rfl ?_
  refine to_sipush (dat dk_X11_init 17 rfl) (by decide) ?_
  refine to_cVa ca_c0_11 (dat dk_X11_init 18 rfl) (nc_A3 l) rfl ⟨6, .inr 2, _, rfl, rfl⟩ rfl (fun H mc ms p => ?_)
  obtain ⟨rfl, rfl, rfl⟩ := p
  show To l E_X11_init (42, [(0, .inr (.inr 1))], [.inr (.inr 6), .inr (.inr 1)], (hpx hp0 8 TA_8 WA_5), 6, 2426) _
  refine to_putR p_c0_21 (dat dk_X11_init 19 rfl) rfl ?_
  show To l E_X11_init (45, [(0, .inr (.inr 1))], [], (hpx hp0 8 TA_8 WA_6), 6, 2426) _
  refine to_aload_np (dat dk_X11_init 20 rfl) (by decide) rfl ?_
  refine to_new nw_c0_24 (dat dk_X11_init 21 rfl) (show (8 : Nat) < 1000000 by decide) ?_
  show To l E_X11_init (49, [(0, .inr (.inr 1))], [.inr (.inr 8), .inr (.inr 1)], (hpx hp0 9 TA_9 WA_6), 7, 2433) _
  refine to_dup (dat dk_X11_init 22 rfl) rfl ?_
  refine to_cVa ca_c0_26 (dat dk_X11_init 23 rfl) (nc_A4 l) rfl ⟨8, .inr 1, _, rfl, rfl⟩ rfl (fun H mc ms p => ?_)
  obtain ⟨rfl, rfl, rfl⟩ := p
  show To l E_X11_init (53, [(0, .inr (.inr 1))], [.inr (.inr 8), .inr (.inr 1)], (hpx hp0 14 TA_14 WA_11), 12, 4162) _
  refine to_putR p_c0_27 (dat dk_X11_init 24 rfl) rfl ?_
  show To l E_X11_init (56, [(0, .inr (.inr 1))], [], (hpx hp0 14 TA_14 WA_12), 12, 4162) _
  refine to_aload_np (dat dk_X11_init 25 rfl) (by decide) rfl ?_
  refine to_new nw_c0_24 (dat dk_X11_init 26 rfl) (show (14 : Nat) < 1000000 by decide) ?_
  show To l E_X11_init (60, [(0, .inr (.inr 1))], [.inr (.inr 14), .inr (.inr 1)], (hpx hp0 15 TA_15 WA_12), 13, 4169) _
  refine to_dup (dat dk_X11_init 27 rfl) rfl ?_
  refine to_cVa ca_c0_26 (dat dk_X11_init 28 rfl) (nc_A5 l) rfl ⟨14, .inr 1, _, rfl, rfl⟩ rfl (fun H mc ms p => ?_)
  obtain ⟨rfl, rfl, rfl⟩ := p
  show To l E_X11_init (64, [(0, .inr (.inr 1))], [.inr (.inr 14), .inr (.inr 1)], (hpx hp0 20 TA_20 WA_17), 18, 5898) _
  refine to_putR p_c0_31 (dat dk_X11_init 29 rfl) rfl ?_
  show To l E_X11_init (67, [(0, .inr (.inr 1))], [], (hpx hp0 20 TA_20 WA_18), 18, 5898) _
  refine to_aload_np (dat dk_X11_init 30 rfl) (by decide) rfl ?_
  refine to_new nw_c0_24 (dat dk_X11_init 31 rfl) (show (20 : Nat) < 1000000 by decide) ?_
  show To l E_X11_init (71, [(0, .inr (.inr 1))], [.inr (.inr 20), .inr (.inr 1)], (hpx hp0 21 TA_21 WA_18), 19, 5905) _
  refine to_dup (dat dk_X11_init 32 rfl) rfl ?_
  refine to_cVa ca_c0_26 (dat dk_X11_init 33 rfl) (nc_A6 l) rfl ⟨20, .inr 1, _, rfl, rfl⟩ rfl (fun H mc ms p => ?_)
  obtain ⟨rfl, rfl, rfl⟩ := p
  show To l E_X11_init (75, [(0, .inr (.inr 1))], [.inr (.inr 20), .inr (.inr 1)], (hpx hp0 26 TA_26 WA_23), 24, 7634) _
  refine to_putR p_c0_34 (dat dk_X11_init 34 rfl) rfl ?_
  show To l E_X11_init (78, [(0, .inr (.inr 1))], [], (hpx hp0 26 TA_26 WA_24), 24, 7634) _
  refine to_aload_np (dat dk_X11_init 35 rfl) (by decide) rfl ?_
  refine to_new nw_c0_37 (dat dk_X11_init 36 rfl) (show (26 : Nat) < 1000000 by decide) ?_
  show To l E_X11_init (82, [(0, .inr (.inr 1))], [.inr (.inr 26), .inr (.inr 1)], (hpx hp0 27 TA_27 WA_24), 25, 7637) _
  refine to_dup (dat dk_X11_init 37 rfl) rfl ?_
  refine to_cVa ca_c0_39 (dat dk_X11_init 38 rfl) (nc_A9 l) rfl ⟨26, .inr 0, _, rfl, rfl⟩ rfl (fun H mc ms p => ?_)
  obtain ⟨rfl, rfl, rfl⟩ := p
  show To l E_X11_init (86, [(0, .inr (.inr 1))], [.inr (.inr 26), .inr (.inr 1)], (hpx hp0 27 TA_27 WA_26), 25, 7637) _
  refine to_putR p_c0_40 (dat dk_X11_init 39 rfl) rfl ?_
  show To l E_X11_init (89, [(0, .inr (.inr 1))], [], (hpx hp0 27 TA_27 WA_27), 25, 7637) _
  refine to_aload_np (dat dk_X11_init 40 rfl) (by decide) rfl ?_
  refine to_new nw_c0_44 (dat dk_X11_init 41 rfl) (show (27 : Nat) < 1000000 by decide) ?_
  show To l E_X11_init (93, [(0, .inr (.inr 1))], [.inr (.inr 27), .inr (.inr 1)], (hpx hp0 28 TA_28 WA_27), 26, 7644) _
  refine to_dup (dat dk_X11_init 42 rfl) rfl ?_
  refine to_aload_np (dat dk_X11_init 43 rfl) (by decide) rfl ?_
  refine to_getR 26 g_c0_40 (dat dk_X11_init 44 rfl) rfl rfl ?_
  refine to_aload_np (dat dk_X11_init 45 rfl) (by decide) rfl ?_
  refine to_getR 14 g_c0_31 (dat dk_X11_init 46 rfl) rfl rfl ?_
  refine to_cVa ca_c0_46 (dat dk_X11_init 47 rfl) (nc_A10 l) rfl ⟨27, .inr 8, _, rfl, rfl⟩ rfl (fun H mc ms p => ?_)
  obtain ⟨rfl, rfl, rfl⟩ := p
  show To l E_X11_init (105, [(0, .inr (.inr 1))], [.inr (.inr 27), .inr (.inr 1)], (hpx hp0 32 TA_32 WA_33), 30, 18084) _
  refine to_putR p_c0_49 (dat dk_X11_init 48 rfl) rfl ?_
  show To l E_X11_init (108, [(0, .inr (.inr 1))], [], (hpx hp0 32 TA_32 WA_34), 30, 18084) _
  refine to_aload_np (dat dk_X11_init 49 rfl) (by decide) rfl ?_
  refine to_new nw_c0_53 (dat dk_X11_init 50 rfl) (show (32 : Nat) < 1000000 by decide) ?_
  show To l E_X11_init (112, [(0, .inr (.inr 1))], [.inr (.inr 32), .inr (.inr 1)], (hpx hp0 33 TA_33 WA_34), 31, 18099) _
  refine to_dup (dat dk_X11_init 51 rfl) rfl ?_
  refine to_aload_np (dat dk_X11_init 52 rfl) (by decide) rfl ?_
  refine to_getR 4 g_c0_18 (dat dk_X11_init 53 rfl) rfl rfl ?_
  refine to_aload_np (dat dk_X11_init 54 rfl) (by decide) rfl ?_
  refine to_getR 8 g_c0_27 (dat dk_X11_init 55 rfl) rfl rfl ?_
  refine to_aload_np (dat dk_X11_init 56 rfl) (by decide) rfl ?_
  refine to_getR 14 g_c0_31 (dat dk_X11_init 57 rfl) rfl rfl ?_
  refine to_cVa ca_c0_55 (dat dk_X11_init 58 rfl) (nc_A16 l) rfl ⟨32, .inr 6, _, rfl, rfl⟩ rfl (fun H mc ms p => ?_)
  obtain ⟨rfl, rfl, rfl⟩ := p
  show To l E_X11_init (128, [(0, .inr (.inr 1))], [.inr (.inr 32), .inr (.inr 1)], (hpx hp0 49 TA_49 WA_54), 47, 23006) _
  refine to_putR p_c0_58 (dat dk_X11_init 59 rfl) rfl ?_
  show To l E_X11_init (131, [(0, .inr (.inr 1))], [], (hpx hp0 49 TA_49 WA_55), 47, 23006) _
  refine to_aload_np (dat dk_X11_init 60 rfl) (by decide) rfl ?_
  refine to_new nw_c0_62 (dat dk_X11_init 61 rfl) (show (49 : Nat) < 1000000 by decide) ?_
  show To l E_X11_init (135, [(0, .inr (.inr 1))], [.inr (.inr 49), .inr (.inr 1)], (hpx hp0 50 TA_50 WA_55), 48, 23023) _
  refine to_dup (dat dk_X11_init 62 rfl) rfl ?_
  refine to_aload_np (dat dk_X11_init 63 rfl) (by decide) rfl ?_
  refine to_getR 6 g_c0_21 (dat dk_X11_init 64 rfl) rfl rfl ?_
  refine to_aload_np (dat dk_X11_init 65 rfl) (by decide) rfl ?_
  refine to_getR 26 g_c0_40 (dat dk_X11_init 66 rfl) rfl rfl ?_
  refine to_aload_np (dat dk_X11_init 67 rfl) (by decide) rfl ?_
  refine to_getR 27 g_c0_49 (dat dk_X11_init 68 rfl) rfl rfl ?_
  refine to_aload_np (dat dk_X11_init 69 rfl) (by decide) rfl ?_
  refine to_getR 8 g_c0_27 (dat dk_X11_init 70 rfl) rfl rfl ?_
  refine to_aload_np (dat dk_X11_init 71 rfl) (by decide) rfl ?_
  refine to_getR 14 g_c0_31 (dat dk_X11_init 72 rfl) rfl rfl ?_
  refine to_aload_np (dat dk_X11_init 73 rfl) (by decide) rfl ?_
  refine to_getR 20 g_c0_34 (dat dk_X11_init 74 rfl) rfl rfl ?_
  refine to_cVa ca_c0_64 (dat dk_X11_init 75 rfl) (nc_A19 l) rfl ⟨49, .inr 7, _, rfl, rfl⟩ rfl (fun H mc ms p => ?_)
  obtain ⟨rfl, rfl, rfl⟩ := p
  show To l E_X11_init (163, [(0, .inr (.inr 1))], [.inr (.inr 49), .inr (.inr 1)], (hpx hp0 57 TA_57 WA_69), 55, 24313) _
  refine to_putR p_c0_67 (dat dk_X11_init 76 rfl) rfl ?_
  show To l E_X11_init (166, [(0, .inr (.inr 1))], [], (hpx hp0 57 TA_57 WA_70), 55, 24313) _
  refine to_aload_np (dat dk_X11_init 77 rfl) (by decide) rfl ?_
  refine to_bipush (dat dk_X11_init 78 rfl) (by decide) ?_
  refine to_newarray 0 rfl (by decide) rfl (tin 1 82 (by decide +kernel) rfl) (dat dk_X11_init 79 rfl) (by decide) (show (57 : Nat) < 1000000 by decide) ?_
  show To l E_X11_init (171, [(0, .inr (.inr 1))], [.inr (.inr 57), .inr (.inr 1)], (hpx hp0 58 TA_58 WA_70), 56, 24373) _
  refine to_putR p_c0_71 (dat dk_X11_init 80 rfl) rfl ?_
  show To l E_X11_init (174, [(0, .inr (.inr 1))], [], (hpx hp0 58 TA_58 WA_71), 56, 24373) _
  refine to_aload_np (dat dk_X11_init 81 rfl) (by decide) rfl ?_
  refine to_bipush (dat dk_X11_init 82 rfl) (by decide) ?_
  refine to_newarray 0 rfl (by decide) rfl (tin 1 82 (by decide +kernel) rfl) (dat dk_X11_init 83 rfl) (by decide) (show (58 : Nat) < 1000000 by decide) ?_
  show To l E_X11_init (179, [(0, .inr (.inr 1))], [.inr (.inr 58), .inr (.inr 1)], (hpx hp0 59 TA_59 WA_71), 57, 24433) _
  refine to_putR p_c0_75 (dat dk_X11_init 84 rfl) rfl ?_
  show To l E_X11_init (182, [(0, .inr (.inr 1))], [], (hpx hp0 59 TA_59 WA_72), 57, 24433) _
  refine to_aload_np (dat dk_X11_init 85 rfl) (by decide) rfl ?_
  refine to_bipush (dat dk_X11_init 86 rfl) (by decide) ?_
  refine to_newarray 0 rfl (by decide) rfl (tin 1 82 (by decide +kernel) rfl) (dat dk_X11_init 87 rfl) (by decide) (show (59 : Nat) < 1000000 by decide) ?_
  show To l E_X11_init (187, [(0, .inr (.inr 1))], [.inr (.inr 59), .inr (.inr 1)], (hpx hp0 60 TA_60 WA_72), 58, 24493) _
  refine to_putR p_c0_78 (dat dk_X11_init 88 rfl) rfl ?_
  show To l E_X11_init (190, [(0, .inr (.inr 1))], [], (hpx hp0 60 TA_60 WA_73), 58, 24493) _
  refine to_aload_np (dat dk_X11_init 89 rfl) (by decide) rfl ?_
  refine to_iconst (dat dk_X11_init 90 rfl) ?_
  refine to_iconst (dat dk_X11_init 91 rfl) ?_
  refine to_iconst (dat dk_X11_init 92 rfl) ?_
  refine to_iconst (dat dk_X11_init 93 rfl) ?_
  refine to_iconst (dat dk_X11_init 94 rfl) ?_
  refine to_cV ca_c0_81 (dat dk_X11_init 95 rfl) (ct_X11_makeReady_v0x l _ bb_start 0 (by decide) 0 (by decide) 0 (by decide) 0 (by decide) 0 (by decide)) rfl ⟨_, _, rfl, rfl⟩ rfl (fun H p => ?_)
  exact to_vret rfl (dat dk_X11_init 96 rfl) (rv_mka ⟨p.1, p.2.1, p.2.2, rfl, rfl⟩)

section START6
variable {b : Hp}
theorem st_bi (hB : BB (hpx b 60 [] [])) (hF : Fr [2] (hpx hp0 60 TA_60 WA_73) (hpx b 60 [] [])) : BI (hsT b) := by
  have e5 : bE (hsT b) = 0 := st_v hF 20 5 0 (by decide +kernel)
  have e2 : (hsT b).2.2 20 2 = 23 := st_v hF 20 2 23 (by decide +kernel)
  have e4 : (hsT b).2.2 20 4 = 25 := st_v hF 20 4 25 (by decide +kernel)
  have e23 : (hsT b).2.2 23 0 = 0 := st_v hF 23 0 0 (by decide +kernel)
  have s0 : st_ (hsT b) 0 = 0 := by
    unfold st_
    rw [e2]
    exact e23
  have h21 : ∀ s : Int, hd_ (hsT b) s = 0 := fun s => by
    unfold hd_
    rw [st_val hF (by decide) (by decide +kernel)]
    exact lkW_no (by decide +kernel) _
  obtain ⟨-, -, hk⟩ := st_bkR hB hF
  have u4 : (hsT b).2.1 25 = some (.inl (80 + 601, 512)) := hk.2.1.2.2.2
  refine ⟨⟨by omega, fun k k0 k1 => by omega⟩, ?_, fun s _ _ => ?_, fun k k0 k1 => by omega, fun x y x0 xy y1 => by omega⟩
  · rw [e5, s0, e4, show (25 : Int).toNat = 25 from rfl, len_of u4]
    decide
  · refine ⟨?_, fun q => ?_, fun j j0 j1 => ?_⟩
    · rw [h21, e5]
      decide
    · rw [h21] at q
      omega
    · rw [h21] at j0
      omega
theorem st_te (hB : BB (hpx b 60 [] [])) (hF : Fr [2] (hpx hp0 60 TA_60 WA_73) (hpx b 60 [] [])) (hu : (hpx b 60 [] []).2.2 2 1 = 20 ∧ ∀ j : Nat, j < 20 → (hpx b 60 [] []).2.2 3 j = rdyF 0 0 0 0 0 j) : TE (hsT b) := by
  have k2 : (hsT b).2.2 2 1 = (hpx b 60 [] []).2.2 2 1 := lkW_no (W := WB_45) (f := b.2.2) (a := 2) (by decide +kernel) 1
  have k3 : ∀ j, (hsT b).2.2 3 j = (hpx b 60 [] []).2.2 3 j := fun j => lkW_no (W := WB_45) (f := b.2.2) (a := 3) (by decide +kernel) j
  have e41 : (hsT b).2.2 4 1 = 0 := st_v hF _ _ _ (by decide +kernel)
  have e26 : (hsT b).2.2 26 2 = 0 := st_v hF _ _ _ (by decide +kernel)
  refine ⟨⟨k2.trans hu.1, fun j hj => ?_⟩, TP.z e41, st_bi hB hF, fun j M m hj => ?_, fun j j' M M' hj => ?_⟩
  · rw [k3 j, hu.2 j hj, st_zero hB (by decide)]
    exact rdy0
  · rw [e26] at hj
    exact absurd hj (Nat.not_lt_zero _)
  · rw [e26] at hj
    exact absurd hj (Nat.not_lt_zero _)
end START6
