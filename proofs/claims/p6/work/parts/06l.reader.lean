/-! Contracts, by program. -/
abbrev Q_X7_isId (h : Hp) (f : Int) (g : Int) : Option V → Hp → Nat → Nat → Prop := RI (fun x H => h = H ∧ (x = 0 ∨ x = 1) ∧ (x = 0 ∨ (0 ≤ f ∧ 0 ≤ g ∧ 2 ≤ g - f ∧ g - f ≤ 61)))
set_option maxRecDepth 100000 in
theorem ct_X7_isId (l : Launch) (h : Hp) (hI : Inv h) (f : Int) (hf : I32 f) (g : Int) (hg : I32 g) (g0 : -1 ≤ f ∧ f ≤ 1201) (g1 : -1 ≤ g ∧ g ≤ 1201) : Ct l D_X7_isId 1 21 [.inr (.inr 32), .inl f, .inl g] h (Q_X7_isId h f g) := by
  refine ct_of pn_X7_isId (Nat.le_of_ble_eq_true rfl) ?_
  show To l E_X7_isId (0, [(0, .inr (.inr 32)), (1, .inl f), (2, .inl g)], [], h, 0, 0) _
  refine to_iload_n (dat dk_X7_isId 0 rfl) rfl (to_iconst (dat dk_X7_isId 1 rfl) ?_)
  refine to_ieq 25 (dat dk_X7_isId 2 rfl) rfl hf (by decide) (fun c1 => ?_) (fun c1 => ?_)
  · skip
    refine to_iconst (dat dk_X7_isId 16 rfl) ?_
    exact to_zret rfl (dat dk_X7_isId 17 rfl) (by decide) (ri_mk (by decide) ⟨rfl, (by decide), (show (0 : Int) = 0 ∨ (0 ≤ f ∧ 0 ≤ g ∧ 2 ≤ g - f ∧ g - f ≤ 61) by omega)⟩)
  · skip
    refine to_iload_n (dat dk_X7_isId 3 rfl) rfl (to_iconst (dat dk_X7_isId 4 rfl) ?_)
    refine to_ieq 25 (dat dk_X7_isId 5 rfl) rfl hg (by decide) (fun c2 => ?_) (fun c2 => ?_)
    · skip
      refine to_iconst (dat dk_X7_isId 16 rfl) ?_
      exact to_zret rfl (dat dk_X7_isId 17 rfl) (by decide) (ri_mk (by decide) ⟨rfl, (by decide), (show (0 : Int) = 0 ∨ (0 ≤ f ∧ 0 ≤ g ∧ 2 ≤ g - f ∧ g - f ≤ 61) by omega)⟩)
    · skip
      refine to_iload_n (dat dk_X7_isId 6 rfl) rfl (to_iload_n (dat dk_X7_isId 7 rfl) rfl (to_isub (dat dk_X7_isId 8 rfl) (to_iconst (dat dk_X7_isId 9 rfl) ?_)))
      refine to_ilt 25 (dat dk_X7_isId 10 rfl) rfl (by omega) (by decide) (fun c3 => ?_) (fun c3 => ?_)
      · skip
        refine to_iconst (dat dk_X7_isId 16 rfl) ?_
        exact to_zret rfl (dat dk_X7_isId 17 rfl) (by decide) (ri_mk (by decide) ⟨rfl, (by decide), (show (0 : Int) = 0 ∨ (0 ≤ f ∧ 0 ≤ g ∧ 2 ≤ g - f ∧ g - f ≤ 61) by omega)⟩)
      · skip
        refine to_iload_n (dat dk_X7_isId 11 rfl) rfl (to_iload_n (dat dk_X7_isId 12 rfl) rfl (to_isub (dat dk_X7_isId 13 rfl) (to_bipush (dat dk_X7_isId 14 rfl) (by decide) ?_)))
        refine to_ile 27 (dat dk_X7_isId 15 rfl) rfl (by omega) (by decide) (fun c4 => ?_) (fun c4 => ?_)
        · skip
          refine to_iload_n (dat dk_X7_isId 18 rfl) rfl (to_iconst (dat dk_X7_isId 19 rfl) (to_iadd (dat dk_X7_isId 20 rfl) (to_istore_n (L' := [(0, .inr (.inr 32)), (1, .inl f), (2, .inl g), (3, .inl (f + 1))]) (dat dk_X7_isId 21 rfl) (by decide) rfl ?_)))
          have lp31_n6 : ∀ (n6 : Nat) (y5 : Int), (I32 y5) → (g - y5 ≤ (n6 : Int)) → To l E_X7_isId (31, [(0, .inr (.inr 32)), (1, .inl f), (2, .inl g), (3, .inl y5)], [], h, 0, 0) (Q_X7_isId h f g) := by
            intro n6
            induction n6 using Nat.strongRecOn with
            | _ n6 ihn6 =>
            intro y5 ry5 c7
            refine to_iload_n (dat dk_X7_isId 22 rfl) rfl (to_iload_n (dat dk_X7_isId 23 rfl) rfl ?_)
            refine to_ige 58 (dat dk_X7_isId 24 rfl) rfl ry5 hg (fun c8 => ?_) (fun c8 => ?_)
            · skip
              refine to_iconst (dat dk_X7_isId 35 rfl) ?_
              exact to_zret rfl (dat dk_X7_isId 36 rfl) (by decide) (ri_mk (by decide) ⟨rfl, (by decide), (show (1 : Int) = 0 ∨ (0 ≤ f ∧ 0 ≤ g ∧ 2 ≤ g - f ∧ g - f ≤ 61) by omega)⟩)
            · skip
              refine to_aload_n (dat dk_X7_isId 25 rfl) rfl (to_getR 33 g_c8_14 (dat dk_X7_isId 26 rfl) (hI.atS rfl) (hI.atE rfl) (to_iload_n (dat dk_X7_isId 27 rfl) rfl ?_))
              obtain ⟨x9, ex9⟩ : ∃ y : Int, h.2.2 33 1 = y := ⟨_, rfl⟩
              have rx9 := hI.atR (a := 33) (j := 1) rfl
              rw [ex9] at rx9
              refine to_cI ca_c8_206 (dat dk_X7_isId 28 rfl) (ct_X1_byteAt l h hI 33 rfl y5 ry5) rfl ⟨_, _, rfl, (hI.atS rfl)⟩ rfl (fun x10 h11 rx10 p12 => ?_)
              obtain ⟨rfl, p12_0⟩ := p12
              refine to_cI ca_c8_235 (dat dk_X7_isId 29 rfl) (ct_X9_isBlank l h hI x10 rx10) rfl trivial rfl (fun x13 h14 rx13 p15 => ?_)
              obtain ⟨rfl, zx13⟩ := p15
              refine to_ifeq 52 (dat dk_X7_isId 30 rfl) rfl rx13 (fun c16 => ?_) (fun c16 => ?_)
              · skip
                refine to_iinc (L' := [(0, .inr (.inr 32)), (1, .inl f), (2, .inl g), (3, .inl (y5 + 1))]) (dat dk_X7_isId 33 rfl) rfl (by decide) rfl (to_goto (dat dk_X7_isId 34 rfl) rfl ?_)
                exact ihn6 (n6 - 1) (by omega) (y5 + 1) (by omega) (show g - (y5 + 1) ≤ ((n6 - 1 : Nat) : Int) by omega)
              · skip
                refine to_iconst (dat dk_X7_isId 31 rfl) ?_
                exact to_zret rfl (dat dk_X7_isId 32 rfl) (by decide) (ri_mk (by decide) ⟨rfl, (by decide), (show (0 : Int) = 0 ∨ (0 ≤ f ∧ 0 ≤ g ∧ 2 ≤ g - f ∧ g - f ≤ 61) by omega)⟩)
          exact lp31_n6 (g - (f + 1)).toNat (f + 1) (by omega) (by omega)
        · skip
          refine to_iconst (dat dk_X7_isId 16 rfl) ?_
          exact to_zret rfl (dat dk_X7_isId 17 rfl) (by decide) (ri_mk (by decide) ⟨rfl, (by decide), (show (0 : Int) = 0 ∨ (0 ≤ f ∧ 0 ≤ g ∧ 2 ≤ g - f ∧ g - f ≤ 61) by omega)⟩)
abbrev Q_X7_behindBoundary (h : Hp) (f : Int) : Option V → Hp → Nat → Nat → Prop := RI (fun x H => h = H)
set_option maxRecDepth 100000 in
theorem ct_X7_behindBoundary (l : Launch) (h : Hp) (hI : Inv h) (f : Int) (hf : I32 f) (g0 : 0 ≤ f ∧ f ≤ 1201) : Ct l D_X7_behindBoundary 6 131 [.inr (.inr 32), .inl f] h (Q_X7_behindBoundary h f) := by
  refine ct_of pn_X7_behindBoundary (Nat.le_of_ble_eq_true rfl) ?_
  show To l E_X7_behindBoundary (0, [(0, .inr (.inr 32)), (1, .inl f)], [], h, 0, 0) _
  refine to_aload_n (dat dk_X7_behindBoundary 0 rfl) rfl (to_getR 4 g_c8_45 (dat dk_X7_behindBoundary 1 rfl) (hI.atS rfl) (hI.atE rfl) (to_iload_n (dat dk_X7_behindBoundary 2 rfl) rfl (to_ldcS (q := 169) (tx := "--") (List.mem_of_getElem? (i := 34) rfl) (dat dk_X7_behindBoundary 3 rfl) (to_iconst (dat dk_X7_behindBoundary 4 rfl) ?_))))
  refine to_cI ca_c8_161 (dat dk_X7_behindBoundary 5 rfl) (ct_X1_hasAt l h hI 4 rfl f hf 1000169 2 (List.mem_of_getElem? (i := 34) rfl) 0 (by decide)) rfl ⟨_, _, rfl, (hI.atS rfl)⟩ rfl (fun x1 h2 rx1 p3 => ?_)
  obtain ⟨rfl, zx1⟩ := p3
  refine to_ifne 16 (dat dk_X7_behindBoundary 6 rfl) rfl rx1 (fun c4 => ?_) (fun c4 => ?_)
  · skip
    refine to_iconst (dat dk_X7_behindBoundary 9 rfl) (to_istore_n (L' := [(0, .inr (.inr 32)), (1, .inl f), (2, .inl 0)]) (dat dk_X7_behindBoundary 10 rfl) (by decide) rfl ?_)
    have lp18_n7 : ∀ (n7 : Nat) (y5 : Int), (I32 y5) → (0 ≤ y5) → (h.2.2 39 1 - y5 ≤ (n7 : Int)) → To l E_X7_behindBoundary (18, [(0, .inr (.inr 32)), (1, .inl f), (2, .inl y5)], [], h, 0, 0) (Q_X7_behindBoundary h f) := by
      intro n7
      induction n7 using Nat.strongRecOn with
      | _ n7 ihn7 =>
      intro y5 ry5 c6 c8
      refine to_iload_n (dat dk_X7_behindBoundary 11 rfl) rfl (to_aload_n (dat dk_X7_behindBoundary 12 rfl) rfl (to_getR 39 g_c8_26 (dat dk_X7_behindBoundary 13 rfl) (hI.atS rfl) (hI.atE rfl) ?_))
      obtain ⟨x9, ex9⟩ : ∃ y : Int, h.2.2 39 1 = y := ⟨_, rfl⟩
      have rx9 := hI.atR (a := 39) (j := 1) rfl
      rw [ex9] at rx9
      refine to_cI ca_c8_64 (dat dk_X7_behindBoundary 14 rfl) (ct_X1_size l h hI 39 rfl) rfl ⟨_, _, rfl, (hI.atS rfl)⟩ rfl (fun x10 h11 rx10 p12 => ?_)
      obtain ⟨rfl, p12_0⟩ := p12
      refine to_ige 60 (dat dk_X7_behindBoundary 15 rfl) rfl ry5 rx10 (fun c13 => ?_) (fun c13 => ?_)
      · skip
        refine to_iload_n (dat dk_X7_behindBoundary 33 rfl) rfl (to_iconst (dat dk_X7_behindBoundary 34 rfl) (to_iadd (dat dk_X7_behindBoundary 35 rfl) (to_aload_n (dat dk_X7_behindBoundary 36 rfl) rfl (to_getR 39 g_c8_26 (dat dk_X7_behindBoundary 37 rfl) (hI.atS rfl) (hI.atE rfl) ?_))))
        refine to_cI ca_c8_64 (dat dk_X7_behindBoundary 38 rfl) (ct_X1_size l h hI 39 rfl) rfl ⟨_, _, rfl, (hI.atS rfl)⟩ rfl (fun x14 h15 rx14 p16 => ?_)
        obtain ⟨rfl, p16_0⟩ := p16
        refine to_iadd (dat dk_X7_behindBoundary 39 rfl) ?_
        exact to_iret rfl (dat dk_X7_behindBoundary 40 rfl) (ri_mk (by omega) rfl)
      · skip
        refine to_aload_n (dat dk_X7_behindBoundary 16 rfl) rfl (to_getR 4 g_c8_45 (dat dk_X7_behindBoundary 17 rfl) (hI.atS rfl) (hI.atE rfl) (to_iload_n (dat dk_X7_behindBoundary 18 rfl) rfl (to_iconst (dat dk_X7_behindBoundary 19 rfl) (to_iadd (dat dk_X7_behindBoundary 20 rfl) (to_iload_n (dat dk_X7_behindBoundary 21 rfl) rfl (to_iadd (dat dk_X7_behindBoundary 22 rfl) ?_))))))
        obtain ⟨x17, ex17⟩ : ∃ y : Int, h.2.2 4 1 = y := ⟨_, rfl⟩
        have rx17 := hI.atR (a := 4) (j := 1) rfl
        rw [ex17] at rx17
        refine to_cI ca_c8_206 (dat dk_X7_behindBoundary 23 rfl) (ct_X1_byteAt l h hI 4 rfl ((f + 2) + y5) (by omega)) rfl ⟨_, _, rfl, (hI.atS rfl)⟩ rfl (fun x18 h19 rx18 p20 => ?_)
        obtain ⟨rfl, p20_0⟩ := p20
        refine to_aload_n (dat dk_X7_behindBoundary 24 rfl) rfl (to_getR 39 g_c8_26 (dat dk_X7_behindBoundary 25 rfl) (hI.atS rfl) (hI.atE rfl) (to_iload_n (dat dk_X7_behindBoundary 26 rfl) rfl ?_))
        refine to_cI ca_c8_206 (dat dk_X7_behindBoundary 27 rfl) (ct_X1_byteAt l h hI 39 rfl y5 ry5) rfl ⟨_, _, rfl, (hI.atS rfl)⟩ rfl (fun x21 h22 rx21 p23 => ?_)
        obtain ⟨rfl, p23_0⟩ := p23
        refine to_ieq 54 (dat dk_X7_behindBoundary 28 rfl) rfl rx18 rx21 (fun c24 => ?_) (fun c24 => ?_)
        · skip
          refine to_iinc (L' := [(0, .inr (.inr 32)), (1, .inl f), (2, .inl (y5 + 1))]) (dat dk_X7_behindBoundary 31 rfl) rfl (by decide) rfl (to_goto (dat dk_X7_behindBoundary 32 rfl) rfl ?_)
          exact ihn7 (n7 - 1) (by omega) (y5 + 1) (by omega) (show 0 ≤ (y5 + 1) by omega) (show h.2.2 39 1 - (y5 + 1) ≤ ((n7 - 1 : Nat) : Int) by omega)
        · skip
          refine to_iconst (dat dk_X7_behindBoundary 29 rfl) ?_
          exact to_iret rfl (dat dk_X7_behindBoundary 30 rfl) (ri_mk (by decide) rfl)
    exact lp18_n7 (h.2.2 39 1 - (0 : Int)).toNat 0 (by decide) (show 0 ≤ (0 : Int) by omega) (by omega)
  · skip
    refine to_iconst (dat dk_X7_behindBoundary 7 rfl) ?_
    exact to_iret rfl (dat dk_X7_behindBoundary 8 rfl) (ri_mk (by decide) rfl)
abbrev Q_X7_putPart (h : Hp) (p : Int) (q : Int) (c : Int) : Option V → Hp → Nat → Nat → Prop := RV (fun H => Inv H ∧ Fr [32, 43, 44, 45] h H)
set_option maxRecDepth 100000 in
theorem ct_X7_putPart (l : Launch) (h : Hp) (hI : Inv h) (p : Int) (hp : I32 p) (q : Int) (hq : I32 q) (c : Int) (hc : I32 c) (g0 : -1 ≤ p ∧ p ≤ 1201) (g1 : 0 ≤ q ∧ q ≤ 1200) (g2 : 0 ≤ c) : Ct l D_X7_putPart 1 21 [.inr (.inr 32), .inl p, .inl q, .inl c] h (Q_X7_putPart h p q c) := by
  refine ct_of pn_X7_putPart (Nat.le_of_ble_eq_true rfl) ?_
  show To l E_X7_putPart (0, [(0, .inr (.inr 32)), (1, .inl p), (2, .inl q), (3, .inl c)], [], h, 0, 0) _
  refine to_iload_n (dat dk_X7_putPart 0 rfl) rfl (to_iconst (dat dk_X7_putPart 1 rfl) ?_)
  refine to_ieq 71 (dat dk_X7_putPart 2 rfl) rfl hp (by decide) (fun c1 => ?_) (fun c1 => ?_)
  · skip
    exact to_vret rfl (dat dk_X7_putPart 39 rfl) (rv_mk ⟨hI, (Fr.rf _ _)⟩)
  · skip
    refine to_aload_n (dat dk_X7_putPart 3 rfl) rfl ?_
    obtain ⟨x2, ex2⟩ : ∃ y : Int, h.2.2 32 14 = y := ⟨_, rfl⟩
    have rx2 := hI.atR (a := 32) (j := 14) rfl
    rw [ex2] at rx2
    refine to_getIv (y := x2) ex2 g_c8_124 (dat dk_X7_putPart 4 rfl) (hI.atS rfl) ?_
    refine to_iflt 71 (dat dk_X7_putPart 5 rfl) rfl (by omega) (fun c3 => ?_) (fun c3 => ?_)
    · skip
      exact to_vret rfl (dat dk_X7_putPart 39 rfl) (rv_mk ⟨hI, (Fr.rf _ _)⟩)
    · skip
      refine to_aload_n (dat dk_X7_putPart 6 rfl) rfl (to_getIv (y := x2) ex2 g_c8_124 (dat dk_X7_putPart 7 rfl) (hI.atS rfl) (to_sipush (dat dk_X7_putPart 8 rfl) (by decide) ?_))
      refine to_ige 71 (dat dk_X7_putPart 9 rfl) rfl (by omega) (by decide) (fun c4 => ?_) (fun c4 => ?_)
      · skip
        exact to_vret rfl (dat dk_X7_putPart 39 rfl) (rv_mk ⟨hI, (Fr.rf _ _)⟩)
      · skip
        refine to_iload_n (dat dk_X7_putPart 10 rfl) rfl (to_iconst (dat dk_X7_putPart 11 rfl) ?_)
        refine to_igt 71 (dat dk_X7_putPart 12 rfl) rfl hc (by decide) (fun c5 => ?_) (fun c5 => ?_)
        · skip
          exact to_vret rfl (dat dk_X7_putPart 39 rfl) (rv_mk ⟨hI, (Fr.rf _ _)⟩)
        · skip
          refine to_aload_n (dat dk_X7_putPart 13 rfl) rfl (to_getR 43 g_c8_36 (dat dk_X7_putPart 14 rfl) (hI.atS rfl) (hI.atE rfl) (to_aload_n (dat dk_X7_putPart 15 rfl) rfl (to_getIv (y := x2) ex2 g_c8_124 (dat dk_X7_putPart 16 rfl) (hI.atS rfl) (to_iload_n (dat dk_X7_putPart 17 rfl) rfl (to_iload_n (dat dk_X7_putPart 18 rfl) rfl ?_)))))
          refine to_mmin (tin 4 226 (by decide +kernel) rfl) (tin 3 170 (by decide +kernel) rfl) (tin 1 18 (by decide +kernel) rfl) (tin 3 171 (by decide +kernel) rfl) (dat dk_X7_putPart 19 rfl) hp hq rfl (fun x6 ax6 bx6 => ?_)
          refine to_iastw (dat dk_X7_putPart 20 rfl) (hI.atS rfl) rfl (by decide) (by omega) ?_
          intro h9 wh9
          have I7 : Inv h9 := by rw [wh9]; exact hI.put (a := 43) (j := (Int.toNat x2)) (x := x6) (0) (1201) rfl rfl (show (0 : Int) ≤ x6 ∧ x6 ≤ 1201 by omega)
          have f8 : Fr [32, 43, 44, 45] h h9 := by rw [wh9]; exact Fr.putF (a := 43) (j := (Int.toNat x2)) (x := x6) (Fr.rf _ _) rfl
          refine to_aload_n (dat dk_X7_putPart 21 rfl) rfl (to_getR 44 g_c8_39 (dat dk_X7_putPart 22 rfl) (I7.atS rfl) (I7.atE rfl) (to_aload_n (dat dk_X7_putPart 23 rfl) rfl (to_getIv (y := x2) (by rw [wh9]; exact ex2) g_c8_124 (dat dk_X7_putPart 24 rfl) (I7.atS rfl) (to_iload_n (dat dk_X7_putPart 25 rfl) rfl (to_iastw (dat dk_X7_putPart 26 rfl) (I7.atS rfl) rfl (by decide) (by omega) ?_)))))
          intro h12 wh12
          have I10 : Inv h12 := by rw [wh12]; exact I7.put (a := 44) (j := (Int.toNat x2)) (x := q) (0) (1200) rfl rfl (show (0 : Int) ≤ q ∧ q ≤ 1200 by omega)
          have f11 : Fr [32, 43, 44, 45] h h12 := by rw [wh12]; exact Fr.putF (a := 44) (j := (Int.toNat x2)) (x := q) f8 rfl
          refine to_aload_n (dat dk_X7_putPart 27 rfl) rfl (to_getR 45 g_c8_42 (dat dk_X7_putPart 28 rfl) (I10.atS rfl) (I10.atE rfl) (to_aload_n (dat dk_X7_putPart 29 rfl) rfl (to_getIv (y := x2) (by rw [wh12]; exact (show h9.2.2 32 14 = x2 from (by rw [wh9]; exact ex2))) g_c8_124 (dat dk_X7_putPart 30 rfl) (I10.atS rfl) (to_iload_n (dat dk_X7_putPart 31 rfl) rfl (to_iastw (dat dk_X7_putPart 32 rfl) (I10.atS rfl) rfl (by decide) (by omega) ?_)))))
          intro h15 wh15
          have I13 : Inv h15 := by rw [wh15]; exact I10.put (a := 45) (j := (Int.toNat x2)) (x := c) (0) (5) rfl rfl (show (0 : Int) ≤ c ∧ c ≤ 5 by omega)
          have f14 : Fr [32, 43, 44, 45] h h15 := by rw [wh15]; exact Fr.putF (a := 45) (j := (Int.toNat x2)) (x := c) f11 rfl
          refine to_aload_n (dat dk_X7_putPart 33 rfl) rfl (to_dup (dat dk_X7_putPart 34 rfl) rfl (to_getIv (y := x2) (by rw [wh15]; exact (show h12.2.2 32 14 = x2 from (by rw [wh12]; exact (show h9.2.2 32 14 = x2 from (by rw [wh9]; exact ex2))))) g_c8_124 (dat dk_X7_putPart 35 rfl) (I13.atS rfl) (to_iconst (dat dk_X7_putPart 36 rfl) (to_iadd (dat dk_X7_putPart 37 rfl) (to_putIw p_c8_124 (dat dk_X7_putPart 38 rfl) (I13.atS rfl) ?_)))))
          intro h18 wh18
          have I16 : Inv h18 := by rw [wh18]; exact I13.put (a := 32) (j := 14) (x := (x2 + 1)) (0) (401) rfl rfl (show (0 : Int) ≤ (x2 + 1) ∧ (x2 + 1) ≤ 401 by omega)
          have f17 : Fr [32, 43, 44, 45] h h18 := by rw [wh18]; exact Fr.putF (a := 32) (j := 14) (x := (x2 + 1)) f14 rfl
          exact to_vret rfl (dat dk_X7_putPart 39 rfl) (rv_mk ⟨I16, f17⟩)
abbrev Q_X7_putParts (h : Hp) (c : Int) : Option V → Hp → Nat → Nat → Prop := RV (fun H => Inv H ∧ Fr [32, 43, 44, 45] h H)
set_option maxRecDepth 100000 in
theorem ct_X7_putParts (l : Launch) (h : Hp) (hI : Inv h) (c : Int) (hc : I32 c) (g0 : 0 ≤ c) : Ct l D_X7_putParts 7 155 [.inr (.inr 32), .inl c] h (Q_X7_putParts h c) := by
  refine ct_of pn_X7_putParts (Nat.le_of_ble_eq_true rfl) ?_
  show To l E_X7_putParts (0, [(0, .inr (.inr 32)), (1, .inl c)], [], h, 0, 0) _
  refine to_iconst (dat dk_X7_putParts 0 rfl) (to_istore_n (L' := [(0, .inr (.inr 32)), (1, .inl c), (2, .inl (-1))]) (dat dk_X7_putParts 1 rfl) (by decide) rfl (to_aload_n (dat dk_X7_putParts 2 rfl) rfl (to_getR 46 g_c8_60 (dat dk_X7_putParts 3 rfl) (hI.atS rfl) (hI.atE rfl) ?_)))
  obtain ⟨x1, ex1⟩ : ∃ y : Int, h.2.2 46 3 = y := ⟨_, rfl⟩
  have rx1 := hI.atR (a := 46) (j := 3) rfl
  rw [ex1] at rx1
  refine to_getIv (y := x1) ex1 g_c8_176 (dat dk_X7_putParts 4 rfl) (hI.atS rfl) (to_istore_n (L' := [(0, .inr (.inr 32)), (1, .inl c), (2, .inl (-1)), (3, .inl x1)]) (dat dk_X7_putParts 5 rfl) (by decide) rfl (to_iload_n (dat dk_X7_putParts 6 rfl) rfl (to_istore (L' := [(0, .inr (.inr 32)), (1, .inl c), (2, .inl (-1)), (3, .inl x1), (4, .inl x1)]) (dat dk_X7_putParts 7 rfl) (by decide) rfl ?_)))
  have lp13_n9 : ∀ (n9 : Nat) (y2 : Int) (y3 : Int) (y4 : Int) (h5 : Hp), (I32 y2) → (I32 y3) → (I32 y4) → (Inv h5) → (Fr [32, 43, 44, 45] h h5) → (-1 ≤ y2 ∧ y2 ≤ 1201) → (0 ≤ y3 ∧ y3 ≤ 1201) → (0 ≤ y4) → (h5.2.2 46 4 - y4 ≤ (n9 : Int)) → To l E_X7_putParts (13, [(0, .inr (.inr 32)), (1, .inl c), (2, .inl y2), (3, .inl y3), (4, .inl y4)], [], h5, 0, 0) (Q_X7_putParts h c) := by
    intro n9
    induction n9 using Nat.strongRecOn with
    | _ n9 ihn9 =>
    intro y2 y3 y4 h5 ry2 ry3 ry4 Ih5 fh5 c6 c7 c8 c10
    refine to_iload (dat dk_X7_putParts 8 rfl) rfl (to_aload_n (dat dk_X7_putParts 9 rfl) rfl (to_getR 46 g_c8_60 (dat dk_X7_putParts 10 rfl) (Ih5.atS rfl) (Ih5.atE rfl) ?_))
    obtain ⟨x11, ex11⟩ : ∃ y : Int, h5.2.2 46 4 = y := ⟨_, rfl⟩
    have rx11 := Ih5.atR (a := 46) (j := 4) rfl
    rw [ex11] at rx11
    refine to_getIv (y := x11) ex11 g_c8_179 (dat dk_X7_putParts 11 rfl) (Ih5.atS rfl) ?_
    refine to_ige 151 (dat dk_X7_putParts 12 rfl) rfl ry4 (by omega) (fun c12 => ?_) (fun c12 => ?_)
    · skip
      refine to_aload_n (dat dk_X7_putParts 77 rfl) rfl (to_iload_n (dat dk_X7_putParts 78 rfl) rfl (to_aload_n (dat dk_X7_putParts 79 rfl) rfl (to_getR 46 g_c8_60 (dat dk_X7_putParts 80 rfl) (Ih5.atS rfl) (Ih5.atE rfl) (to_getIv (y := x11) ex11 g_c8_179 (dat dk_X7_putParts 81 rfl) (Ih5.atS rfl) (to_iload_n (dat dk_X7_putParts 82 rfl) rfl ?_)))))
      refine to_cV ca_c8_127 (dat dk_X7_putParts 83 rfl) (ct_X7_putPart l h5 Ih5 y2 ry2 x11 (by omega) c hc (show -1 ≤ y2 ∧ y2 ≤ 1201 by omega) (show 0 ≤ x11 ∧ x11 ≤ 1200 by omega) (show 0 ≤ c by omega)) rfl ⟨_, _, rfl, (Ih5.atS rfl)⟩ rfl (fun h14 p15 => ?_)
      obtain ⟨Ih14, fh14⟩ := p15
      have f16 : Fr [32, 43, 44, 45] h h14 := Fr.sub fh5 fh14 (sub_self _)
      exact to_vret rfl (dat dk_X7_putParts 84 rfl) (rv_mk ⟨Ih14, f16⟩)
    · skip
      refine to_iload_n (dat dk_X7_putParts 13 rfl) rfl (to_aload_n (dat dk_X7_putParts 14 rfl) rfl (to_getR 46 g_c8_60 (dat dk_X7_putParts 15 rfl) (Ih5.atS rfl) (Ih5.atE rfl) (to_getIv (y := x11) ex11 g_c8_179 (dat dk_X7_putParts 16 rfl) (Ih5.atS rfl) ?_)))
      refine to_ige 151 (dat dk_X7_putParts 17 rfl) rfl ry3 (by omega) (fun c17 => ?_) (fun c17 => ?_)
      · skip
        refine to_aload_n (dat dk_X7_putParts 77 rfl) rfl (to_iload_n (dat dk_X7_putParts 78 rfl) rfl (to_aload_n (dat dk_X7_putParts 79 rfl) rfl (to_getR 46 g_c8_60 (dat dk_X7_putParts 80 rfl) (Ih5.atS rfl) (Ih5.atE rfl) (to_getIv (y := x11) ex11 g_c8_179 (dat dk_X7_putParts 81 rfl) (Ih5.atS rfl) (to_iload_n (dat dk_X7_putParts 82 rfl) rfl ?_)))))
        refine to_cV ca_c8_127 (dat dk_X7_putParts 83 rfl) (ct_X7_putPart l h5 Ih5 y2 ry2 x11 (by omega) c hc (show -1 ≤ y2 ∧ y2 ≤ 1201 by omega) (show 0 ≤ x11 ∧ x11 ≤ 1200 by omega) (show 0 ≤ c by omega)) rfl ⟨_, _, rfl, (Ih5.atS rfl)⟩ rfl (fun h19 p20 => ?_)
        obtain ⟨Ih19, fh19⟩ := p20
        have f21 : Fr [32, 43, 44, 45] h h19 := Fr.sub fh5 fh19 (sub_self _)
        exact to_vret rfl (dat dk_X7_putParts 84 rfl) (rv_mk ⟨Ih19, f21⟩)
      · skip
        refine to_aload_n (dat dk_X7_putParts 18 rfl) rfl (to_getR 4 g_c8_45 (dat dk_X7_putParts 19 rfl) (Ih5.atS rfl) (Ih5.atE rfl) (to_iload_n (dat dk_X7_putParts 20 rfl) rfl (to_aload_n (dat dk_X7_putParts 21 rfl) rfl (to_getR 46 g_c8_60 (dat dk_X7_putParts 22 rfl) (Ih5.atS rfl) (Ih5.atE rfl) (to_getIv (y := x11) ex11 g_c8_179 (dat dk_X7_putParts 23 rfl) (Ih5.atS rfl) ?_)))))
        refine to_cI ca_c8_194 (dat dk_X7_putParts 24 rfl) (ct_X1_lineStop l h5 Ih5 4 rfl y3 ry3 x11 (by omega)) rfl ⟨_, _, rfl, (Ih5.atS rfl)⟩ rfl (fun x22 h23 rx22 p24 => ?_)
        obtain ⟨rfl, p24_0, p24_1⟩ := p24
        refine to_istore (L' := [(0, .inr (.inr 32)), (1, .inl c), (2, .inl y2), (3, .inl y3), (4, .inl y4), (5, .inl x22)]) (dat dk_X7_putParts 25 rfl) (by decide) rfl (to_aload_n (dat dk_X7_putParts 26 rfl) rfl (to_iload_n (dat dk_X7_putParts 27 rfl) rfl ?_))
        refine to_cI ca_c8_197 (dat dk_X7_putParts 28 rfl) (ct_X7_behindBoundary l h5 Ih5 y3 ry3 (show 0 ≤ y3 ∧ y3 ≤ 1201 by omega)) rfl ⟨_, _, rfl, (Ih5.atS rfl)⟩ rfl (fun x25 h26 rx25 p27 => ?_)
        subst p27
        refine to_istore (L' := [(0, .inr (.inr 32)), (1, .inl c), (2, .inl y2), (3, .inl y3), (4, .inl y4), (5, .inl x22), (6, .inl x25)]) (dat dk_X7_putParts 29 rfl) (by decide) rfl (to_iload (dat dk_X7_putParts 30 rfl) rfl (to_iconst (dat dk_X7_putParts 31 rfl) ?_))
        refine to_ieq 140 (dat dk_X7_putParts 32 rfl) rfl rx25 (by decide) (fun c28 => ?_) (fun c28 => ?_)
        · skip
          refine to_iload (dat dk_X7_putParts 71 rfl) rfl (to_iconst (dat dk_X7_putParts 72 rfl) (to_iadd (dat dk_X7_putParts 73 rfl) (to_istore_n (L' := [(0, .inr (.inr 32)), (1, .inl c), (2, .inl y2), (3, .inl (x22 + 1)), (4, .inl y4), (5, .inl x22), (6, .inl x25)]) (dat dk_X7_putParts 74 rfl) (by decide) rfl (to_iinc (L' := [(0, .inr (.inr 32)), (1, .inl c), (2, .inl y2), (3, .inl (x22 + 1)), (4, .inl (y4 + 1)), (5, .inl x22), (6, .inl x25)]) (dat dk_X7_putParts 75 rfl) rfl (by decide) rfl (to_goto (dat dk_X7_putParts 76 rfl) rfl ?_)))))
          refine to_pick [0, 1, 2, 3, 4] rfl ?_
          exact ihn9 (n9 - 1) (by omega) y2 (x22 + 1) (y4 + 1) h5 ry2 (by omega) (by omega) Ih5 fh5 (show -1 ≤ y2 ∧ y2 ≤ 1201 by omega) (show 0 ≤ (x22 + 1) ∧ (x22 + 1) ≤ 1201 by omega) (show 0 ≤ (y4 + 1) by omega) (show h5.2.2 46 4 - (y4 + 1) ≤ ((n9 - 1 : Nat) : Int) by omega)
        · skip
          refine to_aload_n (dat dk_X7_putParts 33 rfl) rfl (to_getR 4 g_c8_45 (dat dk_X7_putParts 34 rfl) (Ih5.atS rfl) (Ih5.atE rfl) (to_iload (dat dk_X7_putParts 35 rfl) rfl (to_aload_n (dat dk_X7_putParts 36 rfl) rfl (to_getR 4 g_c8_45 (dat dk_X7_putParts 37 rfl) (Ih5.atS rfl) (Ih5.atE rfl) (to_iload_n (dat dk_X7_putParts 38 rfl) rfl (to_iload (dat dk_X7_putParts 39 rfl) rfl (to_aload_n (dat dk_X7_putParts 40 rfl) rfl (to_getR 46 g_c8_60 (dat dk_X7_putParts 41 rfl) (Ih5.atS rfl) (Ih5.atE rfl) (to_getIv (y := x11) ex11 g_c8_179 (dat dk_X7_putParts 42 rfl) (Ih5.atS rfl) ?_)))))))))
          refine to_cI ca_c8_201 (dat dk_X7_putParts 43 rfl) (ct_X1_lineEnd l h5 Ih5 4 rfl y3 ry3 x22 rx22 x11 (by omega)) rfl ⟨_, _, rfl, (Ih5.atS rfl)⟩ rfl (fun x29 h30 rx29 p31 => ?_)
          obtain ⟨rfl, p31_0, p31_1⟩ := p31
          refine to_cI ca_c8_147 (dat dk_X7_putParts 44 rfl) (ct_X1_blanksBack l h5 Ih5 4 rfl x25 rx25 x29 rx29) rfl ⟨_, _, rfl, (Ih5.atS rfl)⟩ rfl (fun x32 h33 rx32 p34 => ?_)
          obtain ⟨rfl, p34_0, p34_1⟩ := p34
          refine to_istore (L' := [(0, .inr (.inr 32)), (1, .inl c), (2, .inl y2), (3, .inl y3), (4, .inl y4), (5, .inl x22), (6, .inl x25), (7, .inl x32)]) (dat dk_X7_putParts 45 rfl) (by decide) rfl (to_aload_n (dat dk_X7_putParts 46 rfl) rfl (to_getR 4 g_c8_45 (dat dk_X7_putParts 47 rfl) (Ih5.atS rfl) (Ih5.atE rfl) (to_iload (dat dk_X7_putParts 48 rfl) rfl (to_iload (dat dk_X7_putParts 49 rfl) rfl (to_ldcS (q := 169) (tx := "--") (List.mem_of_getElem? (i := 34) rfl) (dat dk_X7_putParts 50 rfl) (to_iconst (dat dk_X7_putParts 51 rfl) ?_))))))
          refine to_cI ca_c8_152 (dat dk_X7_putParts 52 rfl) (ct_X1_is l h5 Ih5 4 rfl x25 rx25 x32 rx32 1000169 2 (List.mem_of_getElem? (i := 34) rfl) 0 (by decide)) rfl ⟨_, _, rfl, (Ih5.atS rfl)⟩ rfl (fun x35 h36 rx35 p37 => ?_)
          obtain ⟨rfl, zx35⟩ := p37
          refine to_istore (L' := [(0, .inr (.inr 32)), (1, .inl c), (2, .inl y2), (3, .inl y3), (4, .inl y4), (5, .inl x22), (6, .inl x25), (7, .inl x32), (8, .inl x35)]) (dat dk_X7_putParts 53 rfl) (by decide) rfl (to_iload (dat dk_X7_putParts 54 rfl) rfl ?_)
          refine to_ifne 122 (dat dk_X7_putParts 55 rfl) rfl rx35 (fun c38 => ?_) (fun c38 => ?_)
          · skip
            refine to_aload_n (dat dk_X7_putParts 59 rfl) rfl (to_iload_n (dat dk_X7_putParts 60 rfl) rfl (to_iload_n (dat dk_X7_putParts 61 rfl) rfl (to_iload_n (dat dk_X7_putParts 62 rfl) rfl ?_)))
            refine to_cV ca_c8_127 (dat dk_X7_putParts 63 rfl) (ct_X7_putPart l h5 Ih5 y2 ry2 y3 ry3 c hc (show -1 ≤ y2 ∧ y2 ≤ 1201 by omega) (show 0 ≤ y3 ∧ y3 ≤ 1200 by omega) (show 0 ≤ c by omega)) rfl ⟨_, _, rfl, (Ih5.atS rfl)⟩ rfl (fun h40 p41 => ?_)
            obtain ⟨Ih40, fh40⟩ := p41
            have f42 : Fr [32, 43, 44, 45] h h40 := Fr.sub fh5 fh40 (sub_self _)
            refine to_iload (dat dk_X7_putParts 64 rfl) rfl (to_iconst (dat dk_X7_putParts 65 rfl) (to_iadd (dat dk_X7_putParts 66 rfl) (to_istore_n (L' := [(0, .inr (.inr 32)), (1, .inl c), (2, .inl (x22 + 1)), (3, .inl y3), (4, .inl y4), (5, .inl x22), (6, .inl x25), (7, .inl x32), (8, .inl x35)]) (dat dk_X7_putParts 67 rfl) (by decide) rfl (to_iload (dat dk_X7_putParts 68 rfl) rfl ?_))))
            refine to_ifeq 140 (dat dk_X7_putParts 69 rfl) rfl rx35 (fun c43 => ?_) (fun c43 => ?_)
            · skip
              refine to_iload (dat dk_X7_putParts 71 rfl) rfl (to_iconst (dat dk_X7_putParts 72 rfl) (to_iadd (dat dk_X7_putParts 73 rfl) (to_istore_n (L' := [(0, .inr (.inr 32)), (1, .inl c), (2, .inl (x22 + 1)), (3, .inl (x22 + 1)), (4, .inl y4), (5, .inl x22), (6, .inl x25), (7, .inl x32), (8, .inl x35)]) (dat dk_X7_putParts 74 rfl) (by decide) rfl (to_iinc (L' := [(0, .inr (.inr 32)), (1, .inl c), (2, .inl (x22 + 1)), (3, .inl (x22 + 1)), (4, .inl (y4 + 1)), (5, .inl x22), (6, .inl x25), (7, .inl x32), (8, .inl x35)]) (dat dk_X7_putParts 75 rfl) rfl (by decide) rfl (to_goto (dat dk_X7_putParts 76 rfl) rfl ?_)))))
              refine to_pick [0, 1, 2, 3, 4] rfl ?_
              have e44 : h40.2.2 46 4 = x11 := ((Fr.get fh40 (by have := Ih5.1.1; omega) rfl).trans ex11)
              exact ihn9 (n9 - 1) (by omega) (x22 + 1) (x22 + 1) (y4 + 1) h40 (by omega) (by omega) (by omega) Ih40 f42 (show -1 ≤ (x22 + 1) ∧ (x22 + 1) ≤ 1201 by omega) (show 0 ≤ (x22 + 1) ∧ (x22 + 1) ≤ 1201 by omega) (show 0 ≤ (y4 + 1) by omega) (show h40.2.2 46 4 - (y4 + 1) ≤ ((n9 - 1 : Nat) : Int) by omega)
            · skip
              exact to_vret rfl (dat dk_X7_putParts 70 rfl) (rv_mk ⟨Ih40, f42⟩)
          · skip
            refine to_iload (dat dk_X7_putParts 56 rfl) rfl (to_iload (dat dk_X7_putParts 57 rfl) rfl ?_)
            refine to_ine 134 (dat dk_X7_putParts 58 rfl) rfl rx25 rx32 (fun c45 => ?_) (fun c45 => ?_)
            · skip
              refine to_iload (dat dk_X7_putParts 68 rfl) rfl ?_
              refine to_ifeq 140 (dat dk_X7_putParts 69 rfl) rfl rx35 (fun c46 => ?_) (fun c46 => ?_)
              · skip
                refine to_iload (dat dk_X7_putParts 71 rfl) rfl (to_iconst (dat dk_X7_putParts 72 rfl) (to_iadd (dat dk_X7_putParts 73 rfl) (to_istore_n (L' := [(0, .inr (.inr 32)), (1, .inl c), (2, .inl y2), (3, .inl (x22 + 1)), (4, .inl y4), (5, .inl x22), (6, .inl x25), (7, .inl x32), (8, .inl x35)]) (dat dk_X7_putParts 74 rfl) (by decide) rfl (to_iinc (L' := [(0, .inr (.inr 32)), (1, .inl c), (2, .inl y2), (3, .inl (x22 + 1)), (4, .inl (y4 + 1)), (5, .inl x22), (6, .inl x25), (7, .inl x32), (8, .inl x35)]) (dat dk_X7_putParts 75 rfl) rfl (by decide) rfl (to_goto (dat dk_X7_putParts 76 rfl) rfl ?_)))))
                refine to_pick [0, 1, 2, 3, 4] rfl ?_
                exact ihn9 (n9 - 1) (by omega) y2 (x22 + 1) (y4 + 1) h5 ry2 (by omega) (by omega) Ih5 fh5 (show -1 ≤ y2 ∧ y2 ≤ 1201 by omega) (show 0 ≤ (x22 + 1) ∧ (x22 + 1) ≤ 1201 by omega) (show 0 ≤ (y4 + 1) by omega) (show h5.2.2 46 4 - (y4 + 1) ≤ ((n9 - 1 : Nat) : Int) by omega)
              · skip
                exact to_vret rfl (dat dk_X7_putParts 70 rfl) (rv_mk ⟨Ih5, fh5⟩)
            · skip
              refine to_aload_n (dat dk_X7_putParts 59 rfl) rfl (to_iload_n (dat dk_X7_putParts 60 rfl) rfl (to_iload_n (dat dk_X7_putParts 61 rfl) rfl (to_iload_n (dat dk_X7_putParts 62 rfl) rfl ?_)))
              refine to_cV ca_c8_127 (dat dk_X7_putParts 63 rfl) (ct_X7_putPart l h5 Ih5 y2 ry2 y3 ry3 c hc (show -1 ≤ y2 ∧ y2 ≤ 1201 by omega) (show 0 ≤ y3 ∧ y3 ≤ 1200 by omega) (show 0 ≤ c by omega)) rfl ⟨_, _, rfl, (Ih5.atS rfl)⟩ rfl (fun h48 p49 => ?_)
              obtain ⟨Ih48, fh48⟩ := p49
              have f50 : Fr [32, 43, 44, 45] h h48 := Fr.sub fh5 fh48 (sub_self _)
              refine to_iload (dat dk_X7_putParts 64 rfl) rfl (to_iconst (dat dk_X7_putParts 65 rfl) (to_iadd (dat dk_X7_putParts 66 rfl) (to_istore_n (L' := [(0, .inr (.inr 32)), (1, .inl c), (2, .inl (x22 + 1)), (3, .inl y3), (4, .inl y4), (5, .inl x22), (6, .inl x25), (7, .inl x32), (8, .inl x35)]) (dat dk_X7_putParts 67 rfl) (by decide) rfl (to_iload (dat dk_X7_putParts 68 rfl) rfl ?_))))
              refine to_ifeq 140 (dat dk_X7_putParts 69 rfl) rfl rx35 (fun c51 => ?_) (fun c51 => ?_)
              · skip
                refine to_iload (dat dk_X7_putParts 71 rfl) rfl (to_iconst (dat dk_X7_putParts 72 rfl) (to_iadd (dat dk_X7_putParts 73 rfl) (to_istore_n (L' := [(0, .inr (.inr 32)), (1, .inl c), (2, .inl (x22 + 1)), (3, .inl (x22 + 1)), (4, .inl y4), (5, .inl x22), (6, .inl x25), (7, .inl x32), (8, .inl x35)]) (dat dk_X7_putParts 74 rfl) (by decide) rfl (to_iinc (L' := [(0, .inr (.inr 32)), (1, .inl c), (2, .inl (x22 + 1)), (3, .inl (x22 + 1)), (4, .inl (y4 + 1)), (5, .inl x22), (6, .inl x25), (7, .inl x32), (8, .inl x35)]) (dat dk_X7_putParts 75 rfl) rfl (by decide) rfl (to_goto (dat dk_X7_putParts 76 rfl) rfl ?_)))))
                refine to_pick [0, 1, 2, 3, 4] rfl ?_
                have e52 : h48.2.2 46 4 = x11 := ((Fr.get fh48 (by have := Ih5.1.1; omega) rfl).trans ex11)
                exact ihn9 (n9 - 1) (by omega) (x22 + 1) (x22 + 1) (y4 + 1) h48 (by omega) (by omega) (by omega) Ih48 f50 (show -1 ≤ (x22 + 1) ∧ (x22 + 1) ≤ 1201 by omega) (show 0 ≤ (x22 + 1) ∧ (x22 + 1) ≤ 1201 by omega) (show 0 ≤ (y4 + 1) by omega) (show h48.2.2 46 4 - (y4 + 1) ≤ ((n9 - 1 : Nat) : Int) by omega)
              · skip
                exact to_vret rfl (dat dk_X7_putParts 70 rfl) (rv_mk ⟨Ih48, f50⟩)
  exact lp13_n9 (h.2.2 46 4 - x1).toNat (-1) x1 x1 h (by decide) (by omega) (by omega) hI (Fr.rf _ _) (show -1 ≤ (-1 : Int) ∧ (-1 : Int) ≤ 1201 by omega) (show 0 ≤ x1 ∧ x1 ≤ 1201 by omega) (show 0 ≤ x1 by omega) (by omega)
abbrev Q_X7_turnParts (h : Hp) (f : Int) : Option V → Hp → Nat → Nat → Prop := RV (fun H => Inv H ∧ Fr [43, 44] h H)
set_option maxRecDepth 100000 in
theorem ct_X7_turnParts (l : Launch) (h : Hp) (hI : Inv h) (f : Int) (hf : I32 f) : Ct l D_X7_turnParts 0 0 [.inr (.inr 32), .inl f] h (Q_X7_turnParts h f) := by
  refine ct_of pn_X7_turnParts (Nat.le_of_ble_eq_true rfl) ?_
  show To l E_X7_turnParts (0, [(0, .inr (.inr 32)), (1, .inl f)], [], h, 0, 0) _
  refine to_aload_n (dat dk_X7_turnParts 0 rfl) rfl ?_
  obtain ⟨x1, ex1⟩ : ∃ y : Int, h.2.2 32 14 = y := ⟨_, rfl⟩
  have rx1 := hI.atR (a := 32) (j := 14) rfl
  rw [ex1] at rx1
  refine to_getIv (y := x1) ex1 g_c8_124 (dat dk_X7_turnParts 1 rfl) (hI.atS rfl) (to_iconst (dat dk_X7_turnParts 2 rfl) (to_isub (dat dk_X7_turnParts 3 rfl) (to_istore_n (L' := [(0, .inr (.inr 32)), (1, .inl f), (2, .inl (x1 - 1))]) (dat dk_X7_turnParts 4 rfl) (by decide) rfl (to_iload_n (dat dk_X7_turnParts 5 rfl) rfl (to_istore_n (L' := [(0, .inr (.inr 32)), (1, .inl f), (2, .inl (x1 - 1)), (3, .inl f)]) (dat dk_X7_turnParts 6 rfl) (by decide) rfl ?_)))))
  have lp9_n6 : ∀ (n6 : Nat) (y2 : Int) (y3 : Int) (h4 : Hp), (I32 y2) → (I32 y3) → (Inv h4) → (Fr [43, 44] h h4) → (-1 ≤ y2 ∧ y2 ≤ 400) → (y2 - y3 ≤ (n6 : Int)) → To l E_X7_turnParts (9, [(0, .inr (.inr 32)), (1, .inl f), (2, .inl y2), (3, .inl y3)], [], h4, 0, 0) (Q_X7_turnParts h f) := by
    intro n6
    induction n6 using Nat.strongRecOn with
    | _ n6 ihn6 =>
    intro y2 y3 h4 ry2 ry3 Ih4 fh4 c5 c7
    refine to_iload_n (dat dk_X7_turnParts 7 rfl) rfl ?_
    refine to_iflt 90 (dat dk_X7_turnParts 8 rfl) rfl ry3 (fun c8 => ?_) (fun c8 => ?_)
    · skip
      exact to_vret rfl (dat dk_X7_turnParts 54 rfl) (rv_mk ⟨Ih4, fh4⟩)
    · skip
      refine to_iload_n (dat dk_X7_turnParts 9 rfl) rfl (to_iload_n (dat dk_X7_turnParts 10 rfl) rfl ?_)
      refine to_ige 90 (dat dk_X7_turnParts 11 rfl) rfl ry3 ry2 (fun c9 => ?_) (fun c9 => ?_)
      · skip
        exact to_vret rfl (dat dk_X7_turnParts 54 rfl) (rv_mk ⟨Ih4, fh4⟩)
      · skip
        refine to_iload_n (dat dk_X7_turnParts 12 rfl) rfl (to_sipush (dat dk_X7_turnParts 13 rfl) (by decide) ?_)
        refine to_ige 90 (dat dk_X7_turnParts 14 rfl) rfl ry2 (by decide) (fun c10 => ?_) (fun c10 => ?_)
        · skip
          exact to_vret rfl (dat dk_X7_turnParts 54 rfl) (rv_mk ⟨Ih4, fh4⟩)
        · skip
          refine to_aload_n (dat dk_X7_turnParts 15 rfl) rfl (to_getR 43 g_c8_36 (dat dk_X7_turnParts 16 rfl) (Ih4.atS rfl) (Ih4.atE rfl) (to_iload_n (dat dk_X7_turnParts 17 rfl) rfl ?_))
          obtain ⟨x11, ex11⟩ : ∃ y : Int, h4.2.2 43 (Int.toNat y3) = y := ⟨_, rfl⟩
          have rx11 := Ih4.atR (a := 43) (j := Int.toNat y3) rfl
          rw [ex11] at rx11
          refine to_ialdv ex11 (dat dk_X7_turnParts 18 rfl) (Ih4.atS rfl) rfl (by decide) (by omega) (to_istore (L' := [(0, .inr (.inr 32)), (1, .inl f), (2, .inl y2), (3, .inl y3), (4, .inl x11)]) (dat dk_X7_turnParts 19 rfl) (by decide) rfl (to_aload_n (dat dk_X7_turnParts 20 rfl) rfl (to_getR 44 g_c8_39 (dat dk_X7_turnParts 21 rfl) (Ih4.atS rfl) (Ih4.atE rfl) (to_iload_n (dat dk_X7_turnParts 22 rfl) rfl ?_))))
          obtain ⟨x12, ex12⟩ : ∃ y : Int, h4.2.2 44 (Int.toNat y3) = y := ⟨_, rfl⟩
          have rx12 := Ih4.atR (a := 44) (j := Int.toNat y3) rfl
          rw [ex12] at rx12
          refine to_ialdv ex12 (dat dk_X7_turnParts 23 rfl) (Ih4.atS rfl) rfl (by decide) (by omega) (to_istore (L' := [(0, .inr (.inr 32)), (1, .inl f), (2, .inl y2), (3, .inl y3), (4, .inl x11), (5, .inl x12)]) (dat dk_X7_turnParts 24 rfl) (by decide) rfl (to_aload_n (dat dk_X7_turnParts 25 rfl) rfl (to_getR 43 g_c8_36 (dat dk_X7_turnParts 26 rfl) (Ih4.atS rfl) (Ih4.atE rfl) (to_iload_n (dat dk_X7_turnParts 27 rfl) rfl (to_aload_n (dat dk_X7_turnParts 28 rfl) rfl (to_getR 43 g_c8_36 (dat dk_X7_turnParts 29 rfl) (Ih4.atS rfl) (Ih4.atE rfl) (to_iload_n (dat dk_X7_turnParts 30 rfl) rfl ?_)))))))
          obtain ⟨x13, ex13⟩ : ∃ y : Int, h4.2.2 43 (Int.toNat y2) = y := ⟨_, rfl⟩
          have rx13 := Ih4.atR (a := 43) (j := Int.toNat y2) rfl
          rw [ex13] at rx13
          refine to_ialdv ex13 (dat dk_X7_turnParts 31 rfl) (Ih4.atS rfl) rfl (by decide) (by omega) (to_iastw (dat dk_X7_turnParts 32 rfl) (Ih4.atS rfl) rfl (by decide) (by omega) ?_)
          intro h16 wh16
          have I14 : Inv h16 := by rw [wh16]; exact Ih4.put (a := 43) (j := (Int.toNat y3)) (x := x13) (0) (1201) rfl rfl (show (0 : Int) ≤ x13 ∧ x13 ≤ 1201 by omega)
          have f15 : Fr [43, 44] h h16 := by rw [wh16]; exact Fr.putF (a := 43) (j := (Int.toNat y3)) (x := x13) fh4 rfl
          refine to_aload_n (dat dk_X7_turnParts 33 rfl) rfl (to_getR 44 g_c8_39 (dat dk_X7_turnParts 34 rfl) (I14.atS rfl) (I14.atE rfl) (to_iload_n (dat dk_X7_turnParts 35 rfl) rfl (to_aload_n (dat dk_X7_turnParts 36 rfl) rfl (to_getR 44 g_c8_39 (dat dk_X7_turnParts 37 rfl) (I14.atS rfl) (I14.atE rfl) (to_iload_n (dat dk_X7_turnParts 38 rfl) rfl ?_)))))
          obtain ⟨x17, ex17⟩ : ∃ y : Int, h16.2.2 44 (Int.toNat y2) = y := ⟨_, rfl⟩
          have rx17 := I14.atR (a := 44) (j := Int.toNat y2) rfl
          rw [ex17] at rx17
          refine to_ialdv ex17 (dat dk_X7_turnParts 39 rfl) (I14.atS rfl) rfl (by decide) (by omega) (to_iastw (dat dk_X7_turnParts 40 rfl) (I14.atS rfl) rfl (by decide) (by omega) ?_)
          intro h20 wh20
          have I18 : Inv h20 := by rw [wh20]; exact I14.put (a := 44) (j := (Int.toNat y3)) (x := x17) (0) (1200) rfl rfl (show (0 : Int) ≤ x17 ∧ x17 ≤ 1200 by omega)
          have f19 : Fr [43, 44] h h20 := by rw [wh20]; exact Fr.putF (a := 44) (j := (Int.toNat y3)) (x := x17) f15 rfl
          refine to_aload_n (dat dk_X7_turnParts 41 rfl) rfl (to_getR 43 g_c8_36 (dat dk_X7_turnParts 42 rfl) (I18.atS rfl) (I18.atE rfl) (to_iload_n (dat dk_X7_turnParts 43 rfl) rfl (to_iload (dat dk_X7_turnParts 44 rfl) rfl (to_iastw (dat dk_X7_turnParts 45 rfl) (I18.atS rfl) rfl (by decide) (by omega) ?_))))
          intro h23 wh23
          have I21 : Inv h23 := by rw [wh23]; exact I18.put (a := 43) (j := (Int.toNat y2)) (x := x11) (0) (1201) rfl rfl (show (0 : Int) ≤ x11 ∧ x11 ≤ 1201 by omega)
          have f22 : Fr [43, 44] h h23 := by rw [wh23]; exact Fr.putF (a := 43) (j := (Int.toNat y2)) (x := x11) f19 rfl
          refine to_aload_n (dat dk_X7_turnParts 46 rfl) rfl (to_getR 44 g_c8_39 (dat dk_X7_turnParts 47 rfl) (I21.atS rfl) (I21.atE rfl) (to_iload_n (dat dk_X7_turnParts 48 rfl) rfl (to_iload (dat dk_X7_turnParts 49 rfl) rfl (to_iastw (dat dk_X7_turnParts 50 rfl) (I21.atS rfl) rfl (by decide) (by omega) ?_))))
          intro h26 wh26
          have I24 : Inv h26 := by rw [wh26]; exact I21.put (a := 44) (j := (Int.toNat y2)) (x := x12) (0) (1200) rfl rfl (show (0 : Int) ≤ x12 ∧ x12 ≤ 1200 by omega)
          have f25 : Fr [43, 44] h h26 := by rw [wh26]; exact Fr.putF (a := 44) (j := (Int.toNat y2)) (x := x12) f22 rfl
          refine to_iinc (L' := [(0, .inr (.inr 32)), (1, .inl f), (2, .inl (y2 + (-1))), (3, .inl y3), (4, .inl x11), (5, .inl x12)]) (dat dk_X7_turnParts 51 rfl) rfl (by decide) rfl (to_iinc (L' := [(0, .inr (.inr 32)), (1, .inl f), (2, .inl (y2 + (-1))), (3, .inl (y3 + 1)), (4, .inl x11), (5, .inl x12)]) (dat dk_X7_turnParts 52 rfl) rfl (by decide) rfl (to_goto (dat dk_X7_turnParts 53 rfl) rfl ?_))
          refine to_pick [0, 1, 2, 3] rfl ?_
          exact ihn6 (n6 - 1) (by omega) (y2 + (-1)) (y3 + 1) h26 (by omega) (by omega) I24 f25 (show -1 ≤ (y2 + (-1)) ∧ (y2 + (-1)) ≤ 400 by omega) (show (y2 + (-1)) - (y3 + 1) ≤ ((n6 - 1 : Nat) : Int) by omega)
  exact lp9_n6 ((x1 - 1) - f).toNat (x1 - 1) f h (by omega) hf hI (Fr.rf _ _) (show -1 ≤ (x1 - 1) ∧ (x1 - 1) ≤ 400 by omega) (by omega)
abbrev Q_X7_takeBoundary (h : Hp) (f : Int) (g : Int) : Option V → Hp → Nat → Nat → Prop := RV (fun H => Inv H ∧ Fr [39] h H)
set_option maxRecDepth 100000 in
theorem ct_X7_takeBoundary (l : Launch) (h : Hp) (hI : Inv h) (f : Int) (hf : I32 f) (g : Int) (hg : I32 g) : Ct l D_X7_takeBoundary 2 45 [.inr (.inr 32), .inl f, .inl g] h (Q_X7_takeBoundary h f g) := by
  refine ct_of pn_X7_takeBoundary (Nat.le_of_ble_eq_true rfl) ?_
  show To l E_X7_takeBoundary (0, [(0, .inr (.inr 32)), (1, .inl f), (2, .inl g)], [], h, 0, 0) _
  have jn40_n2 : ∀ (y1 : Int), (y1 = 0 ∨ y1 = 1) → To l E_X7_takeBoundary (40, [(0, .inr (.inr 32)), (1, .inl f), (2, .inl g)], [.inl y1], h, 0, 0) (Q_X7_takeBoundary h f g) := by
    intro y1 ry1
    refine to_istore_n (L' := [(0, .inr (.inr 32)), (1, .inl f), (2, .inl g), (3, .inl y1)]) (dat dk_X7_takeBoundary 22 rfl) (by decide) rfl (to_iload_n (dat dk_X7_takeBoundary 23 rfl) rfl ?_)
    refine to_ifeq 65 (dat dk_X7_takeBoundary 24 rfl) rfl (by omega) (fun c3 => ?_) (fun c3 => ?_)
    · skip
      refine to_aload_n (dat dk_X7_takeBoundary 37 rfl) rfl (to_getR 39 g_c8_26 (dat dk_X7_takeBoundary 38 rfl) (hI.atS rfl) (hI.atE rfl) (to_aload_n (dat dk_X7_takeBoundary 39 rfl) rfl (to_getR 33 g_c8_14 (dat dk_X7_takeBoundary 40 rfl) (hI.atS rfl) (hI.atE rfl) (to_iload_n (dat dk_X7_takeBoundary 41 rfl) rfl (to_iload_n (dat dk_X7_takeBoundary 42 rfl) rfl ?_)))))
      refine to_cV ca_c8_190 (dat dk_X7_takeBoundary 43 rfl) (ct_X1_putAll l h hI 39 rfl 33 rfl f hf g hg) rfl ⟨_, _, rfl, (hI.atS rfl)⟩ rfl (fun h5 p6 => ?_)
      obtain ⟨Ih5, fh5⟩ := p6
      have f7 : Fr [39] h h5 := Fr.sub (Fr.rf _ _) fh5 (sub_self _)
      exact to_vret rfl (dat dk_X7_takeBoundary 44 rfl) (rv_mk ⟨Ih5, f7⟩)
    · skip
      refine to_aload_n (dat dk_X7_takeBoundary 25 rfl) rfl (to_getR 39 g_c8_26 (dat dk_X7_takeBoundary 26 rfl) (hI.atS rfl) (hI.atE rfl) (to_aload_n (dat dk_X7_takeBoundary 27 rfl) rfl (to_getR 33 g_c8_14 (dat dk_X7_takeBoundary 28 rfl) (hI.atS rfl) (hI.atE rfl) (to_iload_n (dat dk_X7_takeBoundary 29 rfl) rfl (to_iconst (dat dk_X7_takeBoundary 30 rfl) ?_)))))
      refine to_iaddA (dat dk_X7_takeBoundary 31 rfl) (fun x8 rx8 => ?_)
      refine to_iload_n (dat dk_X7_takeBoundary 32 rfl) rfl (to_iconst (dat dk_X7_takeBoundary 33 rfl) ?_)
      refine to_isubA (dat dk_X7_takeBoundary 34 rfl) (fun x9 rx9 => ?_)
      refine to_cV ca_c8_190 (dat dk_X7_takeBoundary 35 rfl) (ct_X1_putAll l h hI 39 rfl 33 rfl x8 rx8 x9 rx9) rfl ⟨_, _, rfl, (hI.atS rfl)⟩ rfl (fun h11 p12 => ?_)
      obtain ⟨Ih11, fh11⟩ := p12
      have f13 : Fr [39] h h11 := Fr.sub (Fr.rf _ _) fh11 (sub_self _)
      refine to_goto (dat dk_X7_takeBoundary 36 rfl) rfl ?_
      exact to_vret rfl (dat dk_X7_takeBoundary 44 rfl) (rv_mk ⟨Ih11, f13⟩)
  refine to_iload_n (dat dk_X7_takeBoundary 0 rfl) rfl (to_iload_n (dat dk_X7_takeBoundary 1 rfl) rfl ?_)
  refine to_isubA (dat dk_X7_takeBoundary 2 rfl) (fun x14 rx14 => ?_)
  refine to_iconst (dat dk_X7_takeBoundary 3 rfl) ?_
  refine to_ilt 39 (dat dk_X7_takeBoundary 4 rfl) rfl rx14 (by decide) (fun c15 => ?_) (fun c15 => ?_)
  · skip
    refine to_iconst (dat dk_X7_takeBoundary 21 rfl) ?_
    exact jn40_n2 0 (by decide)
  · skip
    refine to_aload_n (dat dk_X7_takeBoundary 5 rfl) rfl (to_getR 33 g_c8_14 (dat dk_X7_takeBoundary 6 rfl) (hI.atS rfl) (hI.atE rfl) (to_iload_n (dat dk_X7_takeBoundary 7 rfl) rfl ?_))
    obtain ⟨x16, ex16⟩ : ∃ y : Int, h.2.2 33 1 = y := ⟨_, rfl⟩
    have rx16 := hI.atR (a := 33) (j := 1) rfl
    rw [ex16] at rx16
    refine to_cI ca_c8_206 (dat dk_X7_takeBoundary 8 rfl) (ct_X1_byteAt l h hI 33 rfl f hf) rfl ⟨_, _, rfl, (hI.atS rfl)⟩ rfl (fun x17 h18 rx17 p19 => ?_)
    obtain ⟨rfl, p19_0⟩ := p19
    refine to_bipush (dat dk_X7_takeBoundary 9 rfl) (by decide) ?_
    refine to_ine 39 (dat dk_X7_takeBoundary 10 rfl) rfl rx17 (by decide) (fun c20 => ?_) (fun c20 => ?_)
    · skip
      refine to_iconst (dat dk_X7_takeBoundary 21 rfl) ?_
      exact jn40_n2 0 (by decide)
    · skip
      refine to_aload_n (dat dk_X7_takeBoundary 11 rfl) rfl (to_getR 33 g_c8_14 (dat dk_X7_takeBoundary 12 rfl) (hI.atS rfl) (hI.atE rfl) (to_iload_n (dat dk_X7_takeBoundary 13 rfl) rfl (to_iconst (dat dk_X7_takeBoundary 14 rfl) ?_)))
      refine to_isubA (dat dk_X7_takeBoundary 15 rfl) (fun x21 rx21 => ?_)
      refine to_cI ca_c8_206 (dat dk_X7_takeBoundary 16 rfl) (ct_X1_byteAt l h hI 33 rfl x21 rx21) rfl ⟨_, _, rfl, (hI.atS rfl)⟩ rfl (fun x22 h23 rx22 p24 => ?_)
      obtain ⟨rfl, p24_0⟩ := p24
      refine to_bipush (dat dk_X7_takeBoundary 17 rfl) (by decide) ?_
      refine to_ine 39 (dat dk_X7_takeBoundary 18 rfl) rfl rx22 (by decide) (fun c25 => ?_) (fun c25 => ?_)
      · skip
        refine to_iconst (dat dk_X7_takeBoundary 21 rfl) ?_
        exact jn40_n2 0 (by decide)
      · skip
        refine to_iconst (dat dk_X7_takeBoundary 19 rfl) (to_goto (dat dk_X7_takeBoundary 20 rfl) rfl ?_)
        exact jn40_n2 1 (by decide)
abbrev Q_X7_readBoundary (h : Hp) (f : Int) : Option V → Hp → Nat → Nat → Prop := RV (fun H => Inv H ∧ Fr [39] h H)
set_option maxRecDepth 100000 in
theorem ct_X7_readBoundary (l : Launch) (h : Hp) (hI : Inv h) (f : Int) (hf : I32 f) (g0 : 0 ≤ f ∧ f ≤ 1200) : Ct l D_X7_readBoundary 6 131 [.inr (.inr 32), .inl f] h (Q_X7_readBoundary h f) := by
  refine ct_of pn_X7_readBoundary (Nat.le_of_ble_eq_true rfl) ?_
  show To l E_X7_readBoundary (0, [(0, .inr (.inr 32)), (1, .inl f)], [], h, 0, 0) _
  obtain ⟨x1, ex1⟩ : ∃ y : Int, h.2.2 33 1 = y := ⟨_, rfl⟩
  have rx1 := hI.atR (a := 33) (j := 1) rfl
  rw [ex1] at rx1
  refine to_aload_n (dat dk_X7_readBoundary 0 rfl) rfl (to_getR 39 g_c8_26 (dat dk_X7_readBoundary 1 rfl) (hI.atS rfl) (hI.atE rfl) ?_)
  refine to_cV ca_c8_90 (dat dk_X7_readBoundary 2 rfl) (ct_X1_clear l h hI 39 rfl) rfl ⟨_, _, rfl, (hI.atS rfl)⟩ rfl (fun h3 p4 => ?_)
  obtain ⟨Ih3, fh3, p4_0⟩ := p4
  have f5 : Fr [39] h h3 := Fr.sub (Fr.rf _ _) fh3 (sub_self _)
  obtain ⟨x6, ex6⟩ : ∃ y : Int, h3.2.2 39 1 = y := ⟨_, rfl⟩
  have rx6 := Ih3.atR (a := 39) (j := 1) rfl
  rw [ex6] at rx6
  refine to_iload_n (dat dk_X7_readBoundary 3 rfl) rfl (to_iconst (dat dk_X7_readBoundary 4 rfl) (to_iadd (dat dk_X7_readBoundary 5 rfl) (to_istore_n (L' := [(0, .inr (.inr 32)), (1, .inl f), (2, .inl (f + 1))]) (dat dk_X7_readBoundary 6 rfl) (by decide) rfl (to_iconst (dat dk_X7_readBoundary 7 rfl) (to_istore_n (L' := [(0, .inr (.inr 32)), (1, .inl f), (2, .inl (f + 1)), (3, .inl 0)]) (dat dk_X7_readBoundary 8 rfl) (by decide) rfl ?_)))))
  have e13 : h3.2.2 33 1 = x1 := ((Fr.get fh3 (by have := hI.1.1; omega) rfl).trans ex1)
  have lp13_n11 : ∀ (n11 : Nat) (y7 : Int) (y8 : Int), (I32 y7) → (I32 y8) → (0 ≤ y7 ∧ y7 ≤ 1201) → (0 ≤ y8) → (h3.2.2 33 1 - y8 ≤ (n11 : Int)) → To l E_X7_readBoundary (13, [(0, .inr (.inr 32)), (1, .inl f), (2, .inl y7), (3, .inl y8)], [], h3, 0, 0) (Q_X7_readBoundary h f) := by
    intro n11
    induction n11 using Nat.strongRecOn with
    | _ n11 ihn11 =>
    intro y7 y8 ry7 ry8 c9 c10 c12
    refine to_iload_n (dat dk_X7_readBoundary 9 rfl) rfl (to_aload_n (dat dk_X7_readBoundary 10 rfl) rfl (to_getR 33 g_c8_14 (dat dk_X7_readBoundary 11 rfl) (Ih3.atS rfl) (Ih3.atE rfl) ?_))
    have e14 : h3.2.2 33 1 = x1 := ((Fr.get fh3 (by have := hI.1.1; omega) rfl).trans ex1)
    refine to_cI ca_c8_64 (dat dk_X7_readBoundary 12 rfl) (ct_X1_size l h3 Ih3 33 rfl) rfl ⟨_, _, rfl, (Ih3.atS rfl)⟩ rfl (fun x15 h16 rx15 p17 => ?_)
    obtain ⟨rfl, p17_0⟩ := p17
    refine to_ige 146 (dat dk_X7_readBoundary 13 rfl) rfl ry8 rx15 (fun c18 => ?_) (fun c18 => ?_)
    · skip
      exact to_vret rfl (dat dk_X7_readBoundary 74 rfl) (rv_mk ⟨Ih3, f5⟩)
    · skip
      refine to_iload_n (dat dk_X7_readBoundary 14 rfl) rfl (to_aload_n (dat dk_X7_readBoundary 15 rfl) rfl (to_getR 33 g_c8_14 (dat dk_X7_readBoundary 16 rfl) (Ih3.atS rfl) (Ih3.atE rfl) ?_))
      refine to_cI ca_c8_64 (dat dk_X7_readBoundary 17 rfl) (ct_X1_size l h3 Ih3 33 rfl) rfl ⟨_, _, rfl, (Ih3.atS rfl)⟩ rfl (fun x19 h20 rx19 p21 => ?_)
      obtain ⟨rfl, p21_0⟩ := p21
      refine to_ige 146 (dat dk_X7_readBoundary 18 rfl) rfl ry7 rx19 (fun c22 => ?_) (fun c22 => ?_)
      · skip
        exact to_vret rfl (dat dk_X7_readBoundary 74 rfl) (rv_mk ⟨Ih3, f5⟩)
      · skip
        refine to_aload_n (dat dk_X7_readBoundary 19 rfl) rfl (to_getR 33 g_c8_14 (dat dk_X7_readBoundary 20 rfl) (Ih3.atS rfl) (Ih3.atE rfl) (to_bipush (dat dk_X7_readBoundary 21 rfl) (by decide) (to_iload_n (dat dk_X7_readBoundary 22 rfl) rfl (to_aload_n (dat dk_X7_readBoundary 23 rfl) rfl (to_getR 33 g_c8_14 (dat dk_X7_readBoundary 24 rfl) (Ih3.atS rfl) (Ih3.atE rfl) ?_)))))
        refine to_cI ca_c8_64 (dat dk_X7_readBoundary 25 rfl) (ct_X1_size l h3 Ih3 33 rfl) rfl ⟨_, _, rfl, (Ih3.atS rfl)⟩ rfl (fun x23 h24 rx23 p25 => ?_)
        obtain ⟨rfl, p25_0⟩ := p25
        refine to_cI ca_c8_143 (dat dk_X7_readBoundary 26 rfl) (ct_X1_seek l h3 Ih3 33 rfl 59 (by decide) y7 ry7 x23 rx23) rfl ⟨_, _, rfl, (Ih3.atS rfl)⟩ rfl (fun x26 h27 rx26 p28 => ?_)
        obtain ⟨rfl, p28_0⟩ := p28
        refine to_istore (L' := [(0, .inr (.inr 32)), (1, .inl f), (2, .inl y7), (3, .inl y8), (4, .inl x26)]) (dat dk_X7_readBoundary 27 rfl) (by decide) rfl ?_
        have jn72_n32 : ∀ (y29 : Int), (I32 y29) → (y29 ≤ h3.2.2 33 1) → (y7 ≤ y29) → To l E_X7_readBoundary (72, [(0, .inr (.inr 32)), (1, .inl f), (2, .inl y7), (3, .inl y8), (4, .inl x26)], [.inl y29], h3, 0, 0) (Q_X7_readBoundary h f) := by
          intro y29 ry29 c30 c31
          refine to_istore (L' := [(0, .inr (.inr 32)), (1, .inl f), (2, .inl y7), (3, .inl y8), (4, .inl x26), (5, .inl y29)]) (dat dk_X7_readBoundary 36 rfl) (by decide) rfl (to_aload_n (dat dk_X7_readBoundary 37 rfl) rfl (to_getR 33 g_c8_14 (dat dk_X7_readBoundary 38 rfl) (Ih3.atS rfl) (Ih3.atE rfl) (to_iload_n (dat dk_X7_readBoundary 39 rfl) rfl (to_iload (dat dk_X7_readBoundary 40 rfl) rfl ?_))))
          refine to_cI ca_c8_209 (dat dk_X7_readBoundary 41 rfl) (ct_X1_blanksOn l h3 Ih3 33 rfl y7 ry7 y29 ry29) rfl ⟨_, _, rfl, (Ih3.atS rfl)⟩ rfl (fun x33 h34 rx33 p35 => ?_)
          obtain ⟨rfl, p35_0, p35_1⟩ := p35
          refine to_istore (L' := [(0, .inr (.inr 32)), (1, .inl f), (2, .inl y7), (3, .inl y8), (4, .inl x26), (5, .inl y29), (6, .inl x33)]) (dat dk_X7_readBoundary 42 rfl) (by decide) rfl (to_iload (dat dk_X7_readBoundary 43 rfl) rfl (to_bipush (dat dk_X7_readBoundary 44 rfl) (by decide) (to_iadd (dat dk_X7_readBoundary 45 rfl) (to_iload (dat dk_X7_readBoundary 46 rfl) rfl ?_))))
          refine to_igt 135 (dat dk_X7_readBoundary 47 rfl) rfl (by omega) ry29 (fun c36 => ?_) (fun c36 => ?_)
          · skip
            refine to_iload (dat dk_X7_readBoundary 68 rfl) rfl (to_iconst (dat dk_X7_readBoundary 69 rfl) (to_iadd (dat dk_X7_readBoundary 70 rfl) (to_istore_n (L' := [(0, .inr (.inr 32)), (1, .inl f), (2, .inl (y29 + 1)), (3, .inl y8), (4, .inl x26), (5, .inl y29), (6, .inl x33)]) (dat dk_X7_readBoundary 71 rfl) (by decide) rfl (to_iinc (L' := [(0, .inr (.inr 32)), (1, .inl f), (2, .inl (y29 + 1)), (3, .inl (y8 + 1)), (4, .inl x26), (5, .inl y29), (6, .inl x33)]) (dat dk_X7_readBoundary 72 rfl) rfl (by decide) rfl (to_goto (dat dk_X7_readBoundary 73 rfl) rfl ?_)))))
            refine to_pick [0, 1, 2, 3] rfl ?_
            exact ihn11 (n11 - 1) (by omega) (y29 + 1) (y8 + 1) (by omega) (by omega) (show 0 ≤ (y29 + 1) ∧ (y29 + 1) ≤ 1201 by omega) (show 0 ≤ (y8 + 1) by omega) (show h3.2.2 33 1 - (y8 + 1) ≤ ((n11 - 1 : Nat) : Int) by omega)
          · skip
            refine to_aload_n (dat dk_X7_readBoundary 48 rfl) rfl (to_getR 33 g_c8_14 (dat dk_X7_readBoundary 49 rfl) (Ih3.atS rfl) (Ih3.atE rfl) (to_iload (dat dk_X7_readBoundary 50 rfl) rfl (to_ldcS (q := 171) (tx := "boundary=") (List.mem_of_getElem? (i := 35) rfl) (dat dk_X7_readBoundary 51 rfl) (to_iconst (dat dk_X7_readBoundary 52 rfl) ?_))))
            refine to_cI ca_c8_161 (dat dk_X7_readBoundary 53 rfl) (ct_X1_hasAt l h3 Ih3 33 rfl x33 rx33 1000171 9 (List.mem_of_getElem? (i := 35) rfl) 1 (by decide)) rfl ⟨_, _, rfl, (Ih3.atS rfl)⟩ rfl (fun x37 h38 rx37 p39 => ?_)
            obtain ⟨rfl, zx37⟩ := p39
            refine to_ifeq 135 (dat dk_X7_readBoundary 54 rfl) rfl rx37 (fun c40 => ?_) (fun c40 => ?_)
            · skip
              refine to_iload (dat dk_X7_readBoundary 68 rfl) rfl (to_iconst (dat dk_X7_readBoundary 69 rfl) (to_iadd (dat dk_X7_readBoundary 70 rfl) (to_istore_n (L' := [(0, .inr (.inr 32)), (1, .inl f), (2, .inl (y29 + 1)), (3, .inl y8), (4, .inl x26), (5, .inl y29), (6, .inl x33)]) (dat dk_X7_readBoundary 71 rfl) (by decide) rfl (to_iinc (L' := [(0, .inr (.inr 32)), (1, .inl f), (2, .inl (y29 + 1)), (3, .inl (y8 + 1)), (4, .inl x26), (5, .inl y29), (6, .inl x33)]) (dat dk_X7_readBoundary 72 rfl) rfl (by decide) rfl (to_goto (dat dk_X7_readBoundary 73 rfl) rfl ?_)))))
              refine to_pick [0, 1, 2, 3] rfl ?_
              exact ihn11 (n11 - 1) (by omega) (y29 + 1) (y8 + 1) (by omega) (by omega) (show 0 ≤ (y29 + 1) ∧ (y29 + 1) ≤ 1201 by omega) (show 0 ≤ (y8 + 1) by omega) (show h3.2.2 33 1 - (y8 + 1) ≤ ((n11 - 1 : Nat) : Int) by omega)
            · skip
              refine to_aload_n (dat dk_X7_readBoundary 55 rfl) rfl (to_iload (dat dk_X7_readBoundary 56 rfl) rfl (to_bipush (dat dk_X7_readBoundary 57 rfl) (by decide) (to_iadd (dat dk_X7_readBoundary 58 rfl) (to_aload_n (dat dk_X7_readBoundary 59 rfl) rfl (to_getR 33 g_c8_14 (dat dk_X7_readBoundary 60 rfl) (Ih3.atS rfl) (Ih3.atE rfl) (to_iload (dat dk_X7_readBoundary 61 rfl) rfl (to_bipush (dat dk_X7_readBoundary 62 rfl) (by decide) (to_iadd (dat dk_X7_readBoundary 63 rfl) (to_iload (dat dk_X7_readBoundary 64 rfl) rfl ?_)))))))))
              refine to_cI ca_c8_147 (dat dk_X7_readBoundary 65 rfl) (ct_X1_blanksBack l h3 Ih3 33 rfl (x33 + 9) (by omega) y29 ry29) rfl ⟨_, _, rfl, (Ih3.atS rfl)⟩ rfl (fun x41 h42 rx41 p43 => ?_)
              obtain ⟨rfl, p43_0, p43_1⟩ := p43
              refine to_cV ca_c8_214 (dat dk_X7_readBoundary 66 rfl) (ct_X7_takeBoundary l h3 Ih3 (x33 + 9) (by omega) x41 rx41) rfl ⟨_, _, rfl, (Ih3.atS rfl)⟩ rfl (fun h45 p46 => ?_)
              obtain ⟨Ih45, fh45⟩ := p46
              have f47 : Fr [39] h h45 := Fr.sub f5 fh45 (sub_self _)
              exact to_vret rfl (dat dk_X7_readBoundary 67 rfl) (rv_mk ⟨Ih45, f47⟩)
        refine to_iload (dat dk_X7_readBoundary 28 rfl) rfl (to_iconst (dat dk_X7_readBoundary 29 rfl) ?_)
        refine to_ine 70 (dat dk_X7_readBoundary 30 rfl) rfl rx26 (by decide) (fun c48 => ?_) (fun c48 => ?_)
        · skip
          refine to_iload (dat dk_X7_readBoundary 35 rfl) rfl ?_
          exact jn72_n32 x26 rx26 (show x26 ≤ h3.2.2 33 1 by omega) (show y7 ≤ x26 by omega)
        · skip
          refine to_aload_n (dat dk_X7_readBoundary 31 rfl) rfl (to_getR 33 g_c8_14 (dat dk_X7_readBoundary 32 rfl) (Ih3.atS rfl) (Ih3.atE rfl) ?_)
          refine to_cI ca_c8_64 (dat dk_X7_readBoundary 33 rfl) (ct_X1_size l h3 Ih3 33 rfl) rfl ⟨_, _, rfl, (Ih3.atS rfl)⟩ rfl (fun x49 h50 rx49 p51 => ?_)
          obtain ⟨rfl, p51_0⟩ := p51
          refine to_goto (dat dk_X7_readBoundary 34 rfl) rfl ?_
          exact jn72_n32 x49 rx49 (show x49 ≤ h3.2.2 33 1 by omega) (show y7 ≤ x49 by omega)
  exact lp13_n11 (h3.2.2 33 1 - (0 : Int)).toNat (f + 1) 0 (by omega) (by decide) (show 0 ≤ (f + 1) ∧ (f + 1) ≤ 1201 by omega) (show 0 ≤ (0 : Int) by omega) (by omega)
abbrev Q_X7_writePlain (h : Hp) : Option V → Hp → Nat → Nat → Prop := RV (fun H => Inv H ∧ Fr [33, 35] h H)
set_option maxRecDepth 100000 in
theorem ct_X7_writePlain (l : Launch) (h : Hp) (hI : Inv h)  : Ct l D_X7_writePlain 7 155 [.inr (.inr 32)] h (Q_X7_writePlain h) := by
  refine ct_of pn_X7_writePlain (Nat.le_of_ble_eq_true rfl) ?_
  show To l E_X7_writePlain (0, [(0, .inr (.inr 32))], [], h, 0, 0) _
  refine to_aload_n (dat dk_X7_writePlain 0 rfl) rfl (to_getR 46 g_c8_60 (dat dk_X7_writePlain 1 rfl) (hI.atS rfl) (hI.atE rfl) (to_bipush (dat dk_X7_writePlain 2 rfl) (by decide) (to_aload_n (dat dk_X7_writePlain 3 rfl) rfl (to_getR 33 g_c8_14 (dat dk_X7_writePlain 4 rfl) (hI.atS rfl) (hI.atE rfl) ?_))))
  refine to_cV ca_c8_86 (dat dk_X7_writePlain 5 rfl) (ct_X4_writeValue l h hI 8 (by decide) 33 rfl) rfl ⟨_, _, rfl, (hI.atS rfl)⟩ rfl (fun h2 p3 => ?_)
  obtain ⟨Ih2, fh2⟩ := p3
  have f4 : Fr [33, 35] h h2 := Fr.sub (Fr.rf _ _) fh2 rfl
  refine to_aload_n (dat dk_X7_writePlain 6 rfl) rfl (to_getR 33 g_c8_14 (dat dk_X7_writePlain 7 rfl) (Ih2.atS rfl) (Ih2.atE rfl) (to_iconst (dat dk_X7_writePlain 8 rfl) (to_aload_n (dat dk_X7_writePlain 9 rfl) rfl (to_getR 33 g_c8_14 (dat dk_X7_writePlain 10 rfl) (Ih2.atS rfl) (Ih2.atE rfl) ?_))))
  obtain ⟨x5, ex5⟩ : ∃ y : Int, h2.2.2 33 1 = y := ⟨_, rfl⟩
  have rx5 := Ih2.atR (a := 33) (j := 1) rfl
  rw [ex5] at rx5
  refine to_cI ca_c8_64 (dat dk_X7_writePlain 11 rfl) (ct_X1_size l h2 Ih2 33 rfl) rfl ⟨_, _, rfl, (Ih2.atS rfl)⟩ rfl (fun x6 h7 rx6 p8 => ?_)
  obtain ⟨rfl, p8_0⟩ := p8
  refine to_ldcS (q := 165) (tx := "quoted-printable") (List.mem_of_getElem? (i := 32) rfl) (dat dk_X7_writePlain 12 rfl) (to_iconst (dat dk_X7_writePlain 13 rfl) ?_)
  refine to_cI ca_c8_152 (dat dk_X7_writePlain 14 rfl) (ct_X1_is l h2 Ih2 33 rfl 0 (by decide) x6 rx6 1000165 16 (List.mem_of_getElem? (i := 32) rfl) 1 (by decide)) rfl ⟨_, _, rfl, (Ih2.atS rfl)⟩ rfl (fun x9 h10 rx9 p11 => ?_)
  obtain ⟨rfl, zx9⟩ := p11
  refine to_ifeq 62 (dat dk_X7_writePlain 15 rfl) rfl rx9 (fun c12 => ?_) (fun c12 => ?_)
  · skip
    refine to_aload_n (dat dk_X7_writePlain 28 rfl) rfl (to_getR 33 g_c8_14 (dat dk_X7_writePlain 29 rfl) (Ih2.atS rfl) (Ih2.atE rfl) (to_iconst (dat dk_X7_writePlain 30 rfl) (to_aload_n (dat dk_X7_writePlain 31 rfl) rfl (to_getR 33 g_c8_14 (dat dk_X7_writePlain 32 rfl) (Ih2.atS rfl) (Ih2.atE rfl) ?_))))
    refine to_cI ca_c8_64 (dat dk_X7_writePlain 33 rfl) (ct_X1_size l h2 Ih2 33 rfl) rfl ⟨_, _, rfl, (Ih2.atS rfl)⟩ rfl (fun x13 h14 rx13 p15 => ?_)
    obtain ⟨rfl, p15_0⟩ := p15
    refine to_ldcS (q := 167) (tx := "base64") (List.mem_of_getElem? (i := 33) rfl) (dat dk_X7_writePlain 34 rfl) (to_iconst (dat dk_X7_writePlain 35 rfl) ?_)
    refine to_cI ca_c8_152 (dat dk_X7_writePlain 36 rfl) (ct_X1_is l h2 Ih2 33 rfl 0 (by decide) x13 rx13 1000167 6 (List.mem_of_getElem? (i := 33) rfl) 1 (by decide)) rfl ⟨_, _, rfl, (Ih2.atS rfl)⟩ rfl (fun x16 h17 rx16 p18 => ?_)
    obtain ⟨rfl, zx16⟩ := p18
    refine to_ifeq 111 (dat dk_X7_writePlain 37 rfl) rfl rx16 (fun c19 => ?_) (fun c19 => ?_)
    · skip
      refine to_aload_n (dat dk_X7_writePlain 50 rfl) rfl (to_getR 35 g_c8_20 (dat dk_X7_writePlain 51 rfl) (Ih2.atS rfl) (Ih2.atE rfl) (to_aload_n (dat dk_X7_writePlain 52 rfl) rfl (to_getR 4 g_c8_45 (dat dk_X7_writePlain 53 rfl) (Ih2.atS rfl) (Ih2.atE rfl) (to_aload_n (dat dk_X7_writePlain 54 rfl) rfl (to_getR 46 g_c8_60 (dat dk_X7_writePlain 55 rfl) (Ih2.atS rfl) (Ih2.atE rfl) ?_)))))
      obtain ⟨x20, ex20⟩ : ∃ y : Int, h2.2.2 46 3 = y := ⟨_, rfl⟩
      have rx20 := Ih2.atR (a := 46) (j := 3) rfl
      rw [ex20] at rx20
      refine to_getIv (y := x20) ex20 g_c8_176 (dat dk_X7_writePlain 56 rfl) (Ih2.atS rfl) (to_aload_n (dat dk_X7_writePlain 57 rfl) rfl (to_getR 46 g_c8_60 (dat dk_X7_writePlain 58 rfl) (Ih2.atS rfl) (Ih2.atE rfl) ?_))
      obtain ⟨x21, ex21⟩ : ∃ y : Int, h2.2.2 46 4 = y := ⟨_, rfl⟩
      have rx21 := Ih2.atR (a := 46) (j := 4) rfl
      rw [ex21] at rx21
      refine to_getIv (y := x21) ex21 g_c8_179 (dat dk_X7_writePlain 59 rfl) (Ih2.atS rfl) ?_
      refine to_cV ca_c8_190 (dat dk_X7_writePlain 60 rfl) (ct_X1_putAll l h2 Ih2 35 rfl 4 rfl x20 (by omega) x21 (by omega)) rfl ⟨_, _, rfl, (Ih2.atS rfl)⟩ rfl (fun h23 p24 => ?_)
      obtain ⟨Ih23, fh23⟩ := p24
      have f25 : Fr [33, 35] h h23 := Fr.sub f4 fh23 rfl
      exact to_vret rfl (dat dk_X7_writePlain 61 rfl) (rv_mk ⟨Ih23, f25⟩)
    · skip
      refine to_aload_n (dat dk_X7_writePlain 38 rfl) rfl (to_getR 4 g_c8_45 (dat dk_X7_writePlain 39 rfl) (Ih2.atS rfl) (Ih2.atE rfl) (to_aload_n (dat dk_X7_writePlain 40 rfl) rfl (to_getR 46 g_c8_60 (dat dk_X7_writePlain 41 rfl) (Ih2.atS rfl) (Ih2.atE rfl) ?_)))
      obtain ⟨x26, ex26⟩ : ∃ y : Int, h2.2.2 46 3 = y := ⟨_, rfl⟩
      have rx26 := Ih2.atR (a := 46) (j := 3) rfl
      rw [ex26] at rx26
      refine to_getIv (y := x26) ex26 g_c8_176 (dat dk_X7_writePlain 42 rfl) (Ih2.atS rfl) (to_aload_n (dat dk_X7_writePlain 43 rfl) rfl (to_getR 46 g_c8_60 (dat dk_X7_writePlain 44 rfl) (Ih2.atS rfl) (Ih2.atE rfl) ?_))
      obtain ⟨x27, ex27⟩ : ∃ y : Int, h2.2.2 46 4 = y := ⟨_, rfl⟩
      have rx27 := Ih2.atR (a := 46) (j := 4) rfl
      rw [ex27] at rx27
      refine to_getIv (y := x27) ex27 g_c8_179 (dat dk_X7_writePlain 45 rfl) (Ih2.atS rfl) (to_aload_n (dat dk_X7_writePlain 46 rfl) rfl (to_getR 35 g_c8_20 (dat dk_X7_writePlain 47 rfl) (Ih2.atS rfl) (Ih2.atE rfl) ?_))
      refine to_cV ca_c8_188 (dat dk_X7_writePlain 48 rfl) (ct_X2_base64 l h2 Ih2 4 rfl x26 (by omega) x27 (by omega) 35 rfl) rfl trivial rfl (fun h29 p30 => ?_)
      obtain ⟨Ih29, fh29⟩ := p30
      have f31 : Fr [33, 35] h h29 := Fr.sub f4 fh29 rfl
      refine to_goto (dat dk_X7_writePlain 49 rfl) rfl ?_
      exact to_vret rfl (dat dk_X7_writePlain 61 rfl) (rv_mk ⟨Ih29, f31⟩)
  · skip
    refine to_aload_n (dat dk_X7_writePlain 16 rfl) rfl (to_getR 4 g_c8_45 (dat dk_X7_writePlain 17 rfl) (Ih2.atS rfl) (Ih2.atE rfl) (to_aload_n (dat dk_X7_writePlain 18 rfl) rfl (to_getR 46 g_c8_60 (dat dk_X7_writePlain 19 rfl) (Ih2.atS rfl) (Ih2.atE rfl) ?_)))
    obtain ⟨x32, ex32⟩ : ∃ y : Int, h2.2.2 46 3 = y := ⟨_, rfl⟩
    have rx32 := Ih2.atR (a := 46) (j := 3) rfl
    rw [ex32] at rx32
    refine to_getIv (y := x32) ex32 g_c8_176 (dat dk_X7_writePlain 20 rfl) (Ih2.atS rfl) (to_aload_n (dat dk_X7_writePlain 21 rfl) rfl (to_getR 46 g_c8_60 (dat dk_X7_writePlain 22 rfl) (Ih2.atS rfl) (Ih2.atE rfl) ?_))
    obtain ⟨x33, ex33⟩ : ∃ y : Int, h2.2.2 46 4 = y := ⟨_, rfl⟩
    have rx33 := Ih2.atR (a := 46) (j := 4) rfl
    rw [ex33] at rx33
    refine to_getIv (y := x33) ex33 g_c8_179 (dat dk_X7_writePlain 23 rfl) (Ih2.atS rfl) (to_aload_n (dat dk_X7_writePlain 24 rfl) rfl (to_getR 35 g_c8_20 (dat dk_X7_writePlain 25 rfl) (Ih2.atS rfl) (Ih2.atE rfl) ?_))
    refine to_cV ca_c8_182 (dat dk_X7_writePlain 26 rfl) (ct_X2_quoted l h2 Ih2 4 rfl x32 (by omega) x33 (by omega) 35 rfl) rfl trivial rfl (fun h35 p36 => ?_)
    obtain ⟨Ih35, fh35⟩ := p36
    have f37 : Fr [33, 35] h h35 := Fr.sub f4 fh35 rfl
    refine to_goto (dat dk_X7_writePlain 27 rfl) rfl ?_
    exact to_vret rfl (dat dk_X7_writePlain 61 rfl) (rv_mk ⟨Ih35, f37⟩)
abbrev Q_X7_writePart (h : Hp) (c : Int) : Option V → Hp → Nat → Nat → Prop := RV (fun H => Inv H ∧ Fr [32, 33, 35, 39, 43, 44, 45] h H)
set_option maxRecDepth 100000 in
theorem ct_X7_writePart (l : Launch) (h : Hp) (hI : Inv h) (c : Int) (hc : I32 c) (g0 : 0 ≤ c ∧ c ≤ 5) : Ct l D_X7_writePart 8 183 [.inr (.inr 32), .inl c] h (Q_X7_writePart h c) := by
  refine ct_of pn_X7_writePart (Nat.le_of_ble_eq_true rfl) ?_
  show To l E_X7_writePart (0, [(0, .inr (.inr 32)), (1, .inl c)], [], h, 0, 0) _
  obtain ⟨x1, ex1⟩ : ∃ y : Int, h.2.2 33 1 = y := ⟨_, rfl⟩
  have rx1 := hI.atR (a := 33) (j := 1) rfl
  rw [ex1] at rx1
  refine to_aload_n (dat dk_X7_writePart 0 rfl) rfl (to_getR 46 g_c8_60 (dat dk_X7_writePart 1 rfl) (hI.atS rfl) (hI.atE rfl) (to_bipush (dat dk_X7_writePart 2 rfl) (by decide) (to_aload_n (dat dk_X7_writePart 3 rfl) rfl (to_getR 33 g_c8_14 (dat dk_X7_writePart 4 rfl) (hI.atS rfl) (hI.atE rfl) ?_))))
  refine to_cV ca_c8_86 (dat dk_X7_writePart 5 rfl) (ct_X4_writeValue l h hI 7 (by decide) 33 rfl) rfl ⟨_, _, rfl, (hI.atS rfl)⟩ rfl (fun h3 p4 => ?_)
  obtain ⟨Ih3, fh3⟩ := p4
  have f5 : Fr [32, 33, 35, 39, 43, 44, 45] h h3 := Fr.sub (Fr.rf _ _) fh3 rfl
  refine to_aload_n (dat dk_X7_writePart 6 rfl) rfl (to_getR 33 g_c8_14 (dat dk_X7_writePart 7 rfl) (Ih3.atS rfl) (Ih3.atE rfl) (to_bipush (dat dk_X7_writePart 8 rfl) (by decide) (to_iconst (dat dk_X7_writePart 9 rfl) (to_aload_n (dat dk_X7_writePart 10 rfl) rfl (to_getR 33 g_c8_14 (dat dk_X7_writePart 11 rfl) (Ih3.atS rfl) (Ih3.atE rfl) ?_)))))
  obtain ⟨x6, ex6⟩ : ∃ y : Int, h3.2.2 33 1 = y := ⟨_, rfl⟩
  have rx6 := Ih3.atR (a := 33) (j := 1) rfl
  rw [ex6] at rx6
  refine to_cI ca_c8_64 (dat dk_X7_writePart 12 rfl) (ct_X1_size l h3 Ih3 33 rfl) rfl ⟨_, _, rfl, (Ih3.atS rfl)⟩ rfl (fun x7 h8 rx7 p9 => ?_)
  obtain ⟨rfl, p9_0⟩ := p9
  refine to_cI ca_c8_143 (dat dk_X7_writePart 13 rfl) (ct_X1_seek l h3 Ih3 33 rfl 59 (by decide) 0 (by decide) x7 rx7) rfl ⟨_, _, rfl, (Ih3.atS rfl)⟩ rfl (fun x10 h11 rx10 p12 => ?_)
  obtain ⟨rfl, p12_0⟩ := p12
  refine to_istore_n (L' := [(0, .inr (.inr 32)), (1, .inl c), (2, .inl x10)]) (dat dk_X7_writePart 14 rfl) (by decide) rfl ?_
  have jn47_n16 : ∀ (y13 : Int), (I32 y13) → (y13 ≤ h3.2.2 33 1) → (0 ≤ y13) → To l E_X7_writePart (47, [(0, .inr (.inr 32)), (1, .inl c), (2, .inl x10)], [.inl y13], h3, 0, 0) (Q_X7_writePart h c) := by
    intro y13 ry13 c14 c15
    refine to_istore_n (L' := [(0, .inr (.inr 32)), (1, .inl c), (2, .inl x10), (3, .inl y13)]) (dat dk_X7_writePart 23 rfl) (by decide) rfl (to_aload_n (dat dk_X7_writePart 24 rfl) rfl (to_getR 33 g_c8_14 (dat dk_X7_writePart 25 rfl) (Ih3.atS rfl) (Ih3.atE rfl) ?_))
    refine to_cI ca_c8_64 (dat dk_X7_writePart 26 rfl) (ct_X1_size l h3 Ih3 33 rfl) rfl ⟨_, _, rfl, (Ih3.atS rfl)⟩ rfl (fun x17 h18 rx17 p19 => ?_)
    obtain ⟨rfl, p19_0⟩ := p19
    refine to_ifeq 81 (dat dk_X7_writePart 27 rfl) rfl rx17 (fun c20 => ?_) (fun c20 => ?_)
    · skip
      refine to_aload_n (dat dk_X7_writePart 40 rfl) rfl ?_
      refine to_cV ca_c8_156 (dat dk_X7_writePart 41 rfl) (ct_X7_writePlain l h3 Ih3 ) rfl ⟨_, _, rfl, (Ih3.atS rfl)⟩ rfl (fun h22 p23 => ?_)
      obtain ⟨Ih22, fh22⟩ := p23
      have f24 : Fr [32, 33, 35, 39, 43, 44, 45] h h22 := Fr.sub f5 fh22 rfl
      refine to_goto (dat dk_X7_writePart 42 rfl) rfl ?_
      exact to_vret rfl (dat dk_X7_writePart 77 rfl) (rv_mk ⟨Ih22, f24⟩)
    · skip
      refine to_aload_n (dat dk_X7_writePart 28 rfl) rfl (to_getR 33 g_c8_14 (dat dk_X7_writePart 29 rfl) (Ih3.atS rfl) (Ih3.atE rfl) (to_iconst (dat dk_X7_writePart 30 rfl) (to_aload_n (dat dk_X7_writePart 31 rfl) rfl (to_getR 33 g_c8_14 (dat dk_X7_writePart 32 rfl) (Ih3.atS rfl) (Ih3.atE rfl) (to_iconst (dat dk_X7_writePart 33 rfl) (to_iload_n (dat dk_X7_writePart 34 rfl) rfl ?_))))))
      refine to_cI ca_c8_147 (dat dk_X7_writePart 35 rfl) (ct_X1_blanksBack l h3 Ih3 33 rfl 0 (by decide) y13 ry13) rfl ⟨_, _, rfl, (Ih3.atS rfl)⟩ rfl (fun x25 h26 rx25 p27 => ?_)
      obtain ⟨rfl, p27_0, p27_1⟩ := p27
      refine to_ldcS (q := 161) (tx := "text/plain") (List.mem_of_getElem? (i := 30) rfl) (dat dk_X7_writePart 36 rfl) (to_iconst (dat dk_X7_writePart 37 rfl) ?_)
      refine to_cI ca_c8_152 (dat dk_X7_writePart 38 rfl) (ct_X1_is l h3 Ih3 33 rfl 0 (by decide) x25 rx25 1000161 10 (List.mem_of_getElem? (i := 30) rfl) 1 (by decide)) rfl ⟨_, _, rfl, (Ih3.atS rfl)⟩ rfl (fun x28 h29 rx28 p30 => ?_)
      obtain ⟨rfl, zx28⟩ := p30
      refine to_ifeq 88 (dat dk_X7_writePart 39 rfl) rfl rx28 (fun c31 => ?_) (fun c31 => ?_)
      · skip
        refine to_iload_n (dat dk_X7_writePart 43 rfl) rfl (to_bipush (dat dk_X7_writePart 44 rfl) (by decide) ?_)
        refine to_ilt 155 (dat dk_X7_writePart 45 rfl) rfl ry13 (by decide) (fun c32 => ?_) (fun c32 => ?_)
        · skip
          exact to_vret rfl (dat dk_X7_writePart 77 rfl) (rv_mk ⟨Ih3, f5⟩)
        · skip
          refine to_aload_n (dat dk_X7_writePart 46 rfl) rfl (to_getR 33 g_c8_14 (dat dk_X7_writePart 47 rfl) (Ih3.atS rfl) (Ih3.atE rfl) (to_iconst (dat dk_X7_writePart 48 rfl) (to_ldcS (q := 163) (tx := "multipart/") (List.mem_of_getElem? (i := 31) rfl) (dat dk_X7_writePart 49 rfl) (to_iconst (dat dk_X7_writePart 50 rfl) ?_))))
          refine to_cI ca_c8_161 (dat dk_X7_writePart 51 rfl) (ct_X1_hasAt l h3 Ih3 33 rfl 0 (by decide) 1000163 10 (List.mem_of_getElem? (i := 31) rfl) 1 (by decide)) rfl ⟨_, _, rfl, (Ih3.atS rfl)⟩ rfl (fun x33 h34 rx33 p35 => ?_)
          obtain ⟨rfl, zx33⟩ := p35
          refine to_ifeq 155 (dat dk_X7_writePart 52 rfl) rfl rx33 (fun c36 => ?_) (fun c36 => ?_)
          · skip
            exact to_vret rfl (dat dk_X7_writePart 77 rfl) (rv_mk ⟨Ih3, f5⟩)
          · skip
            refine to_aload_n (dat dk_X7_writePart 53 rfl) rfl (to_iload_n (dat dk_X7_writePart 54 rfl) rfl ?_)
            refine to_cV ca_c8_165 (dat dk_X7_writePart 55 rfl) (ct_X7_readBoundary l h3 Ih3 y13 ry13 (show 0 ≤ y13 ∧ y13 ≤ 1200 by omega)) rfl ⟨_, _, rfl, (Ih3.atS rfl)⟩ rfl (fun h38 p39 => ?_)
            obtain ⟨Ih38, fh38⟩ := p39
            have f40 : Fr [32, 33, 35, 39, 43, 44, 45] h h38 := Fr.sub f5 fh38 rfl
            refine to_aload_n (dat dk_X7_writePart 56 rfl) rfl (to_getR 39 g_c8_26 (dat dk_X7_writePart 57 rfl) (Ih38.atS rfl) (Ih38.atE rfl) ?_)
            obtain ⟨x41, ex41⟩ : ∃ y : Int, h38.2.2 39 1 = y := ⟨_, rfl⟩
            have rx41 := Ih38.atR (a := 39) (j := 1) rfl
            rw [ex41] at rx41
            refine to_cI ca_c8_64 (dat dk_X7_writePart 58 rfl) (ct_X1_size l h38 Ih38 39 rfl) rfl ⟨_, _, rfl, (Ih38.atS rfl)⟩ rfl (fun x42 h43 rx42 p44 => ?_)
            obtain ⟨rfl, p44_0⟩ := p44
            refine to_iconst (dat dk_X7_writePart 59 rfl) ?_
            refine to_ilt 155 (dat dk_X7_writePart 60 rfl) rfl rx42 (by decide) (fun c45 => ?_) (fun c45 => ?_)
            · skip
              exact to_vret rfl (dat dk_X7_writePart 77 rfl) (rv_mk ⟨Ih38, f40⟩)
            · skip
              refine to_aload_n (dat dk_X7_writePart 61 rfl) rfl (to_getR 39 g_c8_26 (dat dk_X7_writePart 62 rfl) (Ih38.atS rfl) (Ih38.atE rfl) ?_)
              refine to_cI ca_c8_64 (dat dk_X7_writePart 63 rfl) (ct_X1_size l h38 Ih38 39 rfl) rfl ⟨_, _, rfl, (Ih38.atS rfl)⟩ rfl (fun x46 h47 rx46 p48 => ?_)
              obtain ⟨rfl, p48_0⟩ := p48
              refine to_bipush (dat dk_X7_writePart 64 rfl) (by decide) ?_
              refine to_igt 155 (dat dk_X7_writePart 65 rfl) rfl rx46 (by decide) (fun c49 => ?_) (fun c49 => ?_)
              · skip
                exact to_vret rfl (dat dk_X7_writePart 77 rfl) (rv_mk ⟨Ih38, f40⟩)
              · skip
                refine to_aload_n (dat dk_X7_writePart 66 rfl) rfl ?_
                obtain ⟨x50, ex50⟩ : ∃ y : Int, h38.2.2 32 14 = y := ⟨_, rfl⟩
                have rx50 := Ih38.atR (a := 32) (j := 14) rfl
                rw [ex50] at rx50
                refine to_getIv (y := x50) ex50 g_c8_124 (dat dk_X7_writePart 67 rfl) (Ih38.atS rfl) (to_istore (L' := [(0, .inr (.inr 32)), (1, .inl c), (2, .inl x10), (3, .inl y13), (4, .inl x50)]) (dat dk_X7_writePart 68 rfl) (by decide) rfl (to_aload_n (dat dk_X7_writePart 69 rfl) rfl (to_iload_n (dat dk_X7_writePart 70 rfl) rfl (to_iconst (dat dk_X7_writePart 71 rfl) (to_iadd (dat dk_X7_writePart 72 rfl) ?_)))))
                refine to_cV ca_c8_168 (dat dk_X7_writePart 73 rfl) (ct_X7_putParts l h38 Ih38 (c + 1) (by omega) (show 0 ≤ (c + 1) by omega)) rfl ⟨_, _, rfl, (Ih38.atS rfl)⟩ rfl (fun h52 p53 => ?_)
                obtain ⟨Ih52, fh52⟩ := p53
                have f54 : Fr [32, 33, 35, 39, 43, 44, 45] h h52 := Fr.sub f40 fh52 rfl
                refine to_aload_n (dat dk_X7_writePart 74 rfl) rfl (to_iload (dat dk_X7_writePart 75 rfl) rfl ?_)
                refine to_cV ca_c8_171 (dat dk_X7_writePart 76 rfl) (ct_X7_turnParts l h52 Ih52 x50 (by omega)) rfl ⟨_, _, rfl, (Ih52.atS rfl)⟩ rfl (fun h56 p57 => ?_)
                obtain ⟨Ih56, fh56⟩ := p57
                have f58 : Fr [32, 33, 35, 39, 43, 44, 45] h h56 := Fr.sub f54 fh56 rfl
                exact to_vret rfl (dat dk_X7_writePart 77 rfl) (rv_mk ⟨Ih56, f58⟩)
      · skip
        refine to_aload_n (dat dk_X7_writePart 40 rfl) rfl ?_
        refine to_cV ca_c8_156 (dat dk_X7_writePart 41 rfl) (ct_X7_writePlain l h3 Ih3 ) rfl ⟨_, _, rfl, (Ih3.atS rfl)⟩ rfl (fun h60 p61 => ?_)
        obtain ⟨Ih60, fh60⟩ := p61
        have f62 : Fr [32, 33, 35, 39, 43, 44, 45] h h60 := Fr.sub f5 fh60 rfl
        refine to_goto (dat dk_X7_writePart 42 rfl) rfl ?_
        exact to_vret rfl (dat dk_X7_writePart 77 rfl) (rv_mk ⟨Ih60, f62⟩)
  refine to_iload_n (dat dk_X7_writePart 15 rfl) rfl (to_iconst (dat dk_X7_writePart 16 rfl) ?_)
  refine to_ine 46 (dat dk_X7_writePart 17 rfl) rfl rx10 (by decide) (fun c63 => ?_) (fun c63 => ?_)
  · skip
    refine to_iload_n (dat dk_X7_writePart 22 rfl) rfl ?_
    exact jn47_n16 x10 rx10 (show x10 ≤ h3.2.2 33 1 by omega) (show 0 ≤ x10 by omega)
  · skip
    refine to_aload_n (dat dk_X7_writePart 18 rfl) rfl (to_getR 33 g_c8_14 (dat dk_X7_writePart 19 rfl) (Ih3.atS rfl) (Ih3.atE rfl) ?_)
    refine to_cI ca_c8_64 (dat dk_X7_writePart 20 rfl) (ct_X1_size l h3 Ih3 33 rfl) rfl ⟨_, _, rfl, (Ih3.atS rfl)⟩ rfl (fun x64 h65 rx64 p66 => ?_)
    obtain ⟨rfl, p66_0⟩ := p66
    refine to_goto (dat dk_X7_writePart 21 rfl) rfl ?_
    exact jn47_n16 x64 rx64 (show x64 ≤ h3.2.2 33 1 by omega) (show 0 ≤ x64 by omega)
abbrev Q_X7_writeText (h : Hp) : Option V → Hp → Nat → Nat → Prop := RV (fun H => Inv H ∧ Fr [32, 33, 35, 39, 43, 44, 45, 46, 47, 48] h H)
set_option maxRecDepth 100000 in
theorem ct_X7_writeText (l : Launch) (h : Hp) (hI : Inv h)  : Ct l D_X7_writeText 9 207 [.inr (.inr 32)] h (Q_X7_writeText h) := by
  refine ct_of pn_X7_writeText (Nat.le_of_ble_eq_true rfl) ?_
  show To l E_X7_writeText (0, [(0, .inr (.inr 32))], [], h, 0, 0) _
  refine to_aload_n (dat dk_X7_writeText 0 rfl) rfl (to_getR 35 g_c8_20 (dat dk_X7_writeText 1 rfl) (hI.atS rfl) (hI.atE rfl) ?_)
  refine to_cV ca_c8_90 (dat dk_X7_writeText 2 rfl) (ct_X1_clear l h hI 35 rfl) rfl ⟨_, _, rfl, (hI.atS rfl)⟩ rfl (fun h2 p3 => ?_)
  obtain ⟨Ih2, fh2, p3_0⟩ := p3
  have f4 : Fr [32, 33, 35, 39, 43, 44, 45, 46, 47, 48] h h2 := Fr.sub (Fr.rf _ _) fh2 rfl
  obtain ⟨x5, ex5⟩ : ∃ y : Int, h2.2.2 35 1 = y := ⟨_, rfl⟩
  have rx5 := Ih2.atR (a := 35) (j := 1) rfl
  rw [ex5] at rx5
  refine to_aload_n (dat dk_X7_writeText 3 rfl) rfl (to_iconst (dat dk_X7_writeText 4 rfl) (to_putIw p_c8_124 (dat dk_X7_writeText 5 rfl) (Ih2.atS rfl) ?_))
  intro h8 wh8
  have I6 : Inv h8 := by rw [wh8]; exact Ih2.put (a := 32) (j := 14) (x := 0) (0) (401) rfl rfl (show (0 : Int) ≤ 0 ∧ 0 ≤ 401 by decide)
  have f7 : Fr [32, 33, 35, 39, 43, 44, 45, 46, 47, 48] h h8 := by rw [wh8]; exact Fr.putF (a := 32) (j := 14) (x := 0) f4 rfl
  refine to_aload_n (dat dk_X7_writeText 6 rfl) rfl (to_iconst (dat dk_X7_writeText 7 rfl) (to_aload_n (dat dk_X7_writeText 8 rfl) rfl (to_getR 4 g_c8_45 (dat dk_X7_writeText 9 rfl) (I6.atS rfl) (I6.atE rfl) ?_)))
  obtain ⟨x9, ex9⟩ : ∃ y : Int, h8.2.2 4 1 = y := ⟨_, rfl⟩
  have rx9 := I6.atR (a := 4) (j := 1) rfl
  rw [ex9] at rx9
  refine to_cI ca_c8_64 (dat dk_X7_writeText 10 rfl) (ct_X1_size l h8 I6 4 rfl) rfl ⟨_, _, rfl, (I6.atS rfl)⟩ rfl (fun x10 h11 rx10 p12 => ?_)
  obtain ⟨rfl, p12_0⟩ := p12
  refine to_iconst (dat dk_X7_writeText 11 rfl) ?_
  refine to_cV ca_c8_127 (dat dk_X7_writeText 12 rfl) (ct_X7_putPart l h8 I6 0 (by decide) x10 rx10 1 (by decide) (show -1 ≤ (0 : Int) ∧ (0 : Int) ≤ 1201 by omega) (show 0 ≤ x10 ∧ x10 ≤ 1200 by omega) (show 0 ≤ (1 : Int) by omega)) rfl ⟨_, _, rfl, (I6.atS rfl)⟩ rfl (fun h14 p15 => ?_)
  obtain ⟨Ih14, fh14⟩ := p15
  have f16 : Fr [32, 33, 35, 39, 43, 44, 45, 46, 47, 48] h h14 := Fr.sub f7 fh14 rfl
  refine to_iconst (dat dk_X7_writeText 13 rfl) (to_istore_n (L' := [(0, .inr (.inr 32)), (1, .inl 0)]) (dat dk_X7_writeText 14 rfl) (by decide) rfl ?_)
  have lp27_n20 : ∀ (n20 : Nat) (y17 : Int) (h18 : Hp), (I32 y17) → (Inv h18) → (Fr [32, 33, 35, 39, 43, 44, 45, 46, 47, 48] h h18) → (0 ≤ y17) → (401 - y17 ≤ (n20 : Int)) → To l E_X7_writeText (27, [(0, .inr (.inr 32)), (1, .inl y17)], [], h18, 0, 0) (Q_X7_writeText h) := by
    intro n20
    induction n20 using Nat.strongRecOn with
    | _ n20 ihn20 =>
    intro y17 h18 ry17 Ih18 fh18 c19 c21
    refine to_iload_n (dat dk_X7_writeText 15 rfl) rfl (to_sipush (dat dk_X7_writeText 16 rfl) (by decide) ?_)
    refine to_ige 114 (dat dk_X7_writeText 17 rfl) rfl ry17 (by decide) (fun c22 => ?_) (fun c22 => ?_)
    · skip
      exact to_vret rfl (dat dk_X7_writeText 57 rfl) (rv_mk ⟨Ih18, fh18⟩)
    · skip
      refine to_aload_n (dat dk_X7_writeText 18 rfl) rfl ?_
      obtain ⟨x23, ex23⟩ : ∃ y : Int, h18.2.2 32 14 = y := ⟨_, rfl⟩
      have rx23 := Ih18.atR (a := 32) (j := 14) rfl
      rw [ex23] at rx23
      refine to_getIv (y := x23) ex23 g_c8_124 (dat dk_X7_writeText 19 rfl) (Ih18.atS rfl) ?_
      refine to_ifle 114 (dat dk_X7_writeText 20 rfl) rfl (by omega) (fun c24 => ?_) (fun c24 => ?_)
      · skip
        exact to_vret rfl (dat dk_X7_writeText 57 rfl) (rv_mk ⟨Ih18, fh18⟩)
      · skip
        refine to_aload_n (dat dk_X7_writeText 21 rfl) rfl (to_getIv (y := x23) ex23 g_c8_124 (dat dk_X7_writeText 22 rfl) (Ih18.atS rfl) (to_sipush (dat dk_X7_writeText 23 rfl) (by decide) ?_))
        refine to_igt 114 (dat dk_X7_writeText 24 rfl) rfl (by omega) (by decide) (fun c25 => ?_) (fun c25 => ?_)
        · skip
          exact to_vret rfl (dat dk_X7_writeText 57 rfl) (rv_mk ⟨Ih18, fh18⟩)
        · skip
          refine to_aload_n (dat dk_X7_writeText 25 rfl) rfl (to_dup (dat dk_X7_writeText 26 rfl) rfl (to_getIv (y := x23) ex23 g_c8_124 (dat dk_X7_writeText 27 rfl) (Ih18.atS rfl) (to_iconst (dat dk_X7_writeText 28 rfl) (to_isub (dat dk_X7_writeText 29 rfl) (to_putIw p_c8_124 (dat dk_X7_writeText 30 rfl) (Ih18.atS rfl) ?_)))))
          intro h28 wh28
          have I26 : Inv h28 := by rw [wh28]; exact Ih18.put (a := 32) (j := 14) (x := (x23 - 1)) (0) (401) rfl rfl (show (0 : Int) ≤ (x23 - 1) ∧ (x23 - 1) ≤ 401 by omega)
          have f27 : Fr [32, 33, 35, 39, 43, 44, 45, 46, 47, 48] h h28 := by rw [wh28]; exact Fr.putF (a := 32) (j := 14) (x := (x23 - 1)) fh18 rfl
          refine to_aload_n (dat dk_X7_writeText 31 rfl) rfl (to_getR 46 g_c8_60 (dat dk_X7_writeText 32 rfl) (I26.atS rfl) (I26.atE rfl) (to_aload_n (dat dk_X7_writeText 33 rfl) rfl (to_getR 43 g_c8_36 (dat dk_X7_writeText 34 rfl) (I26.atS rfl) (I26.atE rfl) (to_aload_n (dat dk_X7_writeText 35 rfl) rfl (to_getIv (y := (x23 - 1)) (by rw [wh28]; exact wr_eq) g_c8_124 (dat dk_X7_writeText 36 rfl) (I26.atS rfl) ?_)))))
          obtain ⟨x29, ex29⟩ : ∃ y : Int, h28.2.2 43 (Int.toNat (x23 - 1)) = y := ⟨_, rfl⟩
          have rx29 := I26.atR (a := 43) (j := Int.toNat (x23 - 1)) rfl
          rw [ex29] at rx29
          refine to_ialdv ex29 (dat dk_X7_writeText 37 rfl) (I26.atS rfl) rfl (by decide) (by omega) (to_aload_n (dat dk_X7_writeText 38 rfl) rfl (to_getR 44 g_c8_39 (dat dk_X7_writeText 39 rfl) (I26.atS rfl) (I26.atE rfl) (to_aload_n (dat dk_X7_writeText 40 rfl) rfl (to_getIv (y := (x23 - 1)) (by rw [wh28]; exact wr_eq) g_c8_124 (dat dk_X7_writeText 41 rfl) (I26.atS rfl) ?_))))
          obtain ⟨x30, ex30⟩ : ∃ y : Int, h28.2.2 44 (Int.toNat (x23 - 1)) = y := ⟨_, rfl⟩
          have rx30 := I26.atR (a := 44) (j := Int.toNat (x23 - 1)) rfl
          rw [ex30] at rx30
          refine to_ialdv ex30 (dat dk_X7_writeText 42 rfl) (I26.atS rfl) rfl (by decide) (by omega) ?_
          refine to_cV ca_c8_68 (dat dk_X7_writeText 43 rfl) (ct_X4_readLines l h28 I26 x29 (by omega) x30 (by omega) (show 0 ≤ x29 ∧ x29 ≤ 1201 by omega) (show 0 ≤ x30 ∧ x30 ≤ 1200 by omega)) rfl ⟨_, _, rfl, (I26.atS rfl)⟩ rfl (fun h32 p33 => ?_)
          obtain ⟨Ih32, fh32⟩ := p33
          have f34 : Fr [32, 33, 35, 39, 43, 44, 45, 46, 47, 48] h h32 := Fr.sub f27 fh32 rfl
          refine to_aload_n (dat dk_X7_writeText 44 rfl) rfl (to_aload_n (dat dk_X7_writeText 45 rfl) rfl (to_getR 45 g_c8_42 (dat dk_X7_writeText 46 rfl) (Ih32.atS rfl) (Ih32.atE rfl) (to_aload_n (dat dk_X7_writeText 47 rfl) rfl (to_getIv (y := (x23 - 1)) ((Fr.get fh32 (by have := I26.1.1; omega) rfl).trans (by rw [wh28]; exact wr_eq)) g_c8_124 (dat dk_X7_writeText 48 rfl) (Ih32.atS rfl) ?_))))
          obtain ⟨x35, ex35⟩ : ∃ y : Int, h32.2.2 45 (Int.toNat (x23 - 1)) = y := ⟨_, rfl⟩
          have rx35 := Ih32.atR (a := 45) (j := Int.toNat (x23 - 1)) rfl
          rw [ex35] at rx35
          refine to_ialdv ex35 (dat dk_X7_writeText 49 rfl) (Ih32.atS rfl) rfl (by decide) (by omega) ?_
          refine to_cV ca_c8_131 (dat dk_X7_writeText 50 rfl) (ct_X7_writePart l h32 Ih32 x35 (by omega) (show 0 ≤ x35 ∧ x35 ≤ 5 by omega)) rfl ⟨_, _, rfl, (Ih32.atS rfl)⟩ rfl (fun h37 p38 => ?_)
          obtain ⟨Ih37, fh37⟩ := p38
          have f39 : Fr [32, 33, 35, 39, 43, 44, 45, 46, 47, 48] h h37 := Fr.sub f34 fh37 rfl
          refine to_aload_n (dat dk_X7_writeText 51 rfl) rfl (to_getR 35 g_c8_20 (dat dk_X7_writeText 52 rfl) (Ih37.atS rfl) (Ih37.atE rfl) (to_bipush (dat dk_X7_writeText 53 rfl) (by decide) ?_))
          obtain ⟨x40, ex40⟩ : ∃ y : Int, h37.2.2 35 1 = y := ⟨_, rfl⟩
          have rx40 := Ih37.atR (a := 35) (j := 1) rfl
          rw [ex40] at rx40
          refine to_cV ca_c8_134 (dat dk_X7_writeText 54 rfl) (ct_X1_put l h37 Ih37 35 rfl 10 (by decide)) rfl ⟨_, _, rfl, (Ih37.atS rfl)⟩ rfl (fun h42 p43 => ?_)
          obtain ⟨Ih42, fh42, p43_0⟩ := p43
          have f44 : Fr [32, 33, 35, 39, 43, 44, 45, 46, 47, 48] h h42 := Fr.sub f39 fh42 rfl
          obtain ⟨x45, ex45⟩ : ∃ y : Int, h42.2.2 35 1 = y := ⟨_, rfl⟩
          have rx45 := Ih42.atR (a := 35) (j := 1) rfl
          rw [ex45] at rx45
          refine to_iinc (L' := [(0, .inr (.inr 32)), (1, .inl (y17 + 1))]) (dat dk_X7_writeText 55 rfl) rfl (by decide) rfl (to_goto (dat dk_X7_writeText 56 rfl) rfl ?_)
          exact ihn20 (n20 - 1) (by omega) (y17 + 1) h42 (by omega) Ih42 f44 (show 0 ≤ (y17 + 1) by omega) (show 401 - (y17 + 1) ≤ ((n20 - 1 : Nat) : Int) by omega)
  exact lp27_n20 (401 - (0 : Int)).toNat 0 h14 (by decide) Ih14 f16 (show 0 ≤ (0 : Int) by omega) (by omega)
abbrev Q_X7_readDate (h : Hp) : Option V → Hp → Nat → Nat → Prop := RI (fun x H => Inv H ∧ Fr [33] h H)
set_option maxRecDepth 100000 in
theorem ct_X7_readDate (l : Launch) (h : Hp) (hI : Inv h)  : Ct l D_X7_readDate 8 178 [.inr (.inr 32)] h (Q_X7_readDate h) := by
  refine ct_of pn_X7_readDate (Nat.le_of_ble_eq_true rfl) ?_
  show To l E_X7_readDate (0, [(0, .inr (.inr 32))], [], h, 0, 0) _
  refine to_aload_n (dat dk_X7_readDate 0 rfl) rfl (to_getR 46 g_c8_60 (dat dk_X7_readDate 1 rfl) (hI.atS rfl) (hI.atE rfl) (to_iconst (dat dk_X7_readDate 2 rfl) (to_aload_n (dat dk_X7_readDate 3 rfl) rfl (to_getR 33 g_c8_14 (dat dk_X7_readDate 4 rfl) (hI.atS rfl) (hI.atE rfl) ?_))))
  refine to_cV ca_c8_86 (dat dk_X7_readDate 5 rfl) (ct_X4_writeValue l h hI 3 (by decide) 33 rfl) rfl ⟨_, _, rfl, (hI.atS rfl)⟩ rfl (fun h2 p3 => ?_)
  obtain ⟨Ih2, fh2⟩ := p3
  have f4 : Fr [33] h h2 := Fr.sub (Fr.rf _ _) fh2 (sub_self _)
  refine to_aload_n (dat dk_X7_readDate 6 rfl) rfl (to_getR 33 g_c8_14 (dat dk_X7_readDate 7 rfl) (Ih2.atS rfl) (Ih2.atE rfl) ?_)
  refine to_cI ca_c8_217 (dat dk_X7_readDate 8 rfl) (ct_X3_minutes l h2 Ih2 33 rfl) rfl trivial rfl (fun x5 h6 rx5 p7 => ?_)
  subst p7
  exact to_iret rfl (dat dk_X7_readDate 9 rfl) (ri_mk rx5 ⟨Ih2, f4⟩)
