/-! Contracts, by program. -/
abbrev Q_X10_isNode (h : Hp) (n : Int) : Option V → Hp → Nat → Nat → Prop := RI (fun x H => h = H ∧ (x = 0 ∨ x = 1) ∧ (x = 0 ∨ (0 ≤ n ∧ n < 3460)))
set_option maxRecDepth 100000 in
theorem ct_X10_isNode (l : Launch) (h : Hp) (hI : Inv h) (n : Int) (hn : I32 n) : Ct l D_X10_isNode 0 0 [.inl n] h (Q_X10_isNode h n) := by
  refine ct_of pn_X10_isNode (Nat.le_of_ble_eq_true rfl) ?_
  show To l E_X10_isNode (0, [(0, .inl n)], [], h, 0, 0) _
  refine to_iload_n (dat dk_X10_isNode 0 rfl) rfl ?_
  refine to_iflt 15 (dat dk_X10_isNode 1 rfl) rfl hn (fun c1 => ?_) (fun c1 => ?_)
  · skip
    refine to_iconst (dat dk_X10_isNode 7 rfl) ?_
    exact to_zret rfl (dat dk_X10_isNode 8 rfl) (by decide) (ri_mk (by decide) ⟨rfl, (by decide), (show (0 : Int) = 0 ∨ (0 ≤ n ∧ n < 3460) by omega)⟩)
  · skip
    refine to_iload_n (dat dk_X10_isNode 2 rfl) rfl (to_sipush (dat dk_X10_isNode 3 rfl) (by decide) ?_)
    refine to_ige 15 (dat dk_X10_isNode 4 rfl) rfl hn (by decide) (fun c2 => ?_) (fun c2 => ?_)
    · skip
      refine to_iconst (dat dk_X10_isNode 7 rfl) ?_
      exact to_zret rfl (dat dk_X10_isNode 8 rfl) (by decide) (ri_mk (by decide) ⟨rfl, (by decide), (show (0 : Int) = 0 ∨ (0 ≤ n ∧ n < 3460) by omega)⟩)
    · skip
      refine to_iconst (dat dk_X10_isNode 5 rfl) (to_goto (dat dk_X10_isNode 6 rfl) rfl ?_)
      exact to_zret rfl (dat dk_X10_isNode 8 rfl) (by decide) (ri_mk (by decide) ⟨rfl, (by decide), (show (1 : Int) = 0 ∨ (0 ≤ n ∧ n < 3460) by omega)⟩)
abbrev Q_X10_aboveOf (h : Hp) (n : Int) : Option V → Hp → Nat → Nat → Prop := RI (fun x H => h = H)
set_option maxRecDepth 100000 in
theorem ct_X10_aboveOf (l : Launch) (h : Hp) (hI : Inv h) (n : Int) (hn : I32 n) : Ct l D_X10_aboveOf 1 20 [.inr (.inr 27), .inl n] h (Q_X10_aboveOf h n) := by
  refine ct_of pn_X10_aboveOf (Nat.le_of_ble_eq_true rfl) ?_
  show To l E_X10_aboveOf (0, [(0, .inr (.inr 27)), (1, .inl n)], [], h, 0, 0) _
  refine to_iload_n (dat dk_X10_aboveOf 0 rfl) rfl ?_
  refine to_cI ca_c11_65 (dat dk_X10_aboveOf 1 rfl) (ct_X10_isNode l h hI n hn) rfl trivial rfl (fun x1 h2 rx1 p3 => ?_)
  obtain ⟨rfl, zx1, p3_0⟩ := p3
  refine to_ifeq 16 (dat dk_X10_aboveOf 2 rfl) rfl rx1 (fun c4 => ?_) (fun c4 => ?_)
  · skip
    refine to_iconst (dat dk_X10_aboveOf 8 rfl) ?_
    exact to_iret rfl (dat dk_X10_aboveOf 9 rfl) (ri_mk (by decide) rfl)
  · skip
    refine to_aload_n (dat dk_X10_aboveOf 3 rfl) rfl (to_getR 28 g_c11_11 (dat dk_X10_aboveOf 4 rfl) (hI.atS rfl) (hI.atE rfl) (to_iload_n (dat dk_X10_aboveOf 5 rfl) rfl ?_))
    obtain ⟨x5, ex5⟩ : ∃ y : Int, h.2.2 28 (Int.toNat n) = y := ⟨_, rfl⟩
    have rx5 := hI.atR (a := 28) (j := Int.toNat n) rfl
    rw [ex5] at rx5
    refine to_ialdv ex5 (dat dk_X10_aboveOf 6 rfl) (hI.atS rfl) rfl (by decide) (by omega) (to_goto (dat dk_X10_aboveOf 7 rfl) rfl ?_)
    exact to_iret rfl (dat dk_X10_aboveOf 9 rfl) (ri_mk (by omega) rfl)
abbrev Q_X10_nodeAt (h : Hp) (n : Int) : Option V → Hp → Nat → Nat → Prop := RI (fun x H => h = H)
set_option maxRecDepth 100000 in
theorem ct_X10_nodeAt (l : Launch) (h : Hp) (hI : Inv h) (n : Int) (hn : I32 n) : Ct l D_X10_nodeAt 0 0 [.inr (.inr 27), .inl n] h (Q_X10_nodeAt h n) := by
  refine ct_of pn_X10_nodeAt (Nat.le_of_ble_eq_true rfl) ?_
  show To l E_X10_nodeAt (0, [(0, .inr (.inr 27)), (1, .inl n)], [], h, 0, 0) _
  refine to_iload_n (dat dk_X10_nodeAt 0 rfl) rfl ?_
  refine to_iflt 19 (dat dk_X10_nodeAt 1 rfl) rfl hn (fun c1 => ?_) (fun c1 => ?_)
  · skip
    refine to_iconst (dat dk_X10_nodeAt 10 rfl) ?_
    exact to_iret rfl (dat dk_X10_nodeAt 11 rfl) (ri_mk (by decide) rfl)
  · skip
    refine to_iload_n (dat dk_X10_nodeAt 2 rfl) rfl (to_bipush (dat dk_X10_nodeAt 3 rfl) (by decide) ?_)
    refine to_ige 19 (dat dk_X10_nodeAt 4 rfl) rfl hn (by decide) (fun c2 => ?_) (fun c2 => ?_)
    · skip
      refine to_iconst (dat dk_X10_nodeAt 10 rfl) ?_
      exact to_iret rfl (dat dk_X10_nodeAt 11 rfl) (ri_mk (by decide) rfl)
    · skip
      refine to_aload_n (dat dk_X10_nodeAt 5 rfl) rfl (to_getR 31 g_c11_21 (dat dk_X10_nodeAt 6 rfl) (hI.atS rfl) (hI.atE rfl) (to_iload_n (dat dk_X10_nodeAt 7 rfl) rfl ?_))
      obtain ⟨x3, ex3⟩ : ∃ y : Int, h.2.2 31 (Int.toNat n) = y := ⟨_, rfl⟩
      have rx3 := hI.atR (a := 31) (j := Int.toNat n) rfl
      rw [ex3] at rx3
      refine to_ialdv ex3 (dat dk_X10_nodeAt 8 rfl) (hI.atS rfl) rfl (by decide) (by omega) (to_goto (dat dk_X10_nodeAt 9 rfl) rfl ?_)
      exact to_iret rfl (dat dk_X10_nodeAt 11 rfl) (ri_mk (by omega) rfl)
abbrev Q_X10_rootOf (h : Hp) (n : Int) : Option V → Hp → Nat → Nat → Prop := RI (fun x H => h = H)
set_option maxRecDepth 100000 in
theorem ct_X10_rootOf (l : Launch) (h : Hp) (hI : Inv h) (n : Int) (hn : I32 n) : Ct l D_X10_rootOf 2 41 [.inr (.inr 27), .inl n] h (Q_X10_rootOf h n) := by
  refine ct_of pn_X10_rootOf (Nat.le_of_ble_eq_true rfl) ?_
  show To l E_X10_rootOf (0, [(0, .inr (.inr 27)), (1, .inl n)], [], h, 0, 0) _
  refine to_iload_n (dat dk_X10_rootOf 0 rfl) rfl (to_istore_n (L' := [(0, .inr (.inr 27)), (1, .inl n), (2, .inl n)]) (dat dk_X10_rootOf 1 rfl) (by decide) rfl (to_iconst (dat dk_X10_rootOf 2 rfl) (to_istore_n (L' := [(0, .inr (.inr 27)), (1, .inl n), (2, .inl n), (3, .inl 0)]) (dat dk_X10_rootOf 3 rfl) (by decide) rfl ?_)))
  have lp4_n3 : ∀ (n3 : Nat) (y1 : Int) (y2 : Int), (I32 y1) → (I32 y2) → (3460 - y2 ≤ (n3 : Int)) → To l E_X10_rootOf (4, [(0, .inr (.inr 27)), (1, .inl n), (2, .inl y1), (3, .inl y2)], [], h, 0, 0) (Q_X10_rootOf h n) := by
    intro n3
    induction n3 using Nat.strongRecOn with
    | _ n3 ihn3 =>
    intro y1 y2 ry1 ry2 c4
    refine to_iload_n (dat dk_X10_rootOf 4 rfl) rfl (to_sipush (dat dk_X10_rootOf 5 rfl) (by decide) ?_)
    refine to_ige 32 (dat dk_X10_rootOf 6 rfl) rfl ry2 (by decide) (fun c5 => ?_) (fun c5 => ?_)
    · skip
      refine to_iload_n (dat dk_X10_rootOf 18 rfl) rfl ?_
      exact to_iret rfl (dat dk_X10_rootOf 19 rfl) (ri_mk ry1 rfl)
    · skip
      refine to_aload_n (dat dk_X10_rootOf 7 rfl) rfl (to_iload_n (dat dk_X10_rootOf 8 rfl) rfl ?_)
      refine to_cI ca_c11_76 (dat dk_X10_rootOf 9 rfl) (ct_X10_aboveOf l h hI y1 ry1) rfl ⟨_, _, rfl, (hI.atS rfl)⟩ rfl (fun x6 h7 rx6 p8 => ?_)
      subst p8
      refine to_iconst (dat dk_X10_rootOf 10 rfl) ?_
      refine to_ieq 32 (dat dk_X10_rootOf 11 rfl) rfl rx6 (by decide) (fun c9 => ?_) (fun c9 => ?_)
      · skip
        refine to_iload_n (dat dk_X10_rootOf 18 rfl) rfl ?_
        exact to_iret rfl (dat dk_X10_rootOf 19 rfl) (ri_mk ry1 rfl)
      · skip
        refine to_aload_n (dat dk_X10_rootOf 12 rfl) rfl (to_iload_n (dat dk_X10_rootOf 13 rfl) rfl ?_)
        refine to_cI ca_c11_76 (dat dk_X10_rootOf 14 rfl) (ct_X10_aboveOf l h hI y1 ry1) rfl ⟨_, _, rfl, (hI.atS rfl)⟩ rfl (fun x10 h11 rx10 p12 => ?_)
        subst p12
        refine to_istore_n (L' := [(0, .inr (.inr 27)), (1, .inl n), (2, .inl x10), (3, .inl y2)]) (dat dk_X10_rootOf 15 rfl) (by decide) rfl (to_iinc (L' := [(0, .inr (.inr 27)), (1, .inl n), (2, .inl x10), (3, .inl (y2 + 1))]) (dat dk_X10_rootOf 16 rfl) rfl (by decide) rfl (to_goto (dat dk_X10_rootOf 17 rfl) rfl ?_))
        exact ihn3 (n3 - 1) (by omega) x10 (y2 + 1) rx10 (by omega) (show 3460 - (y2 + 1) ≤ ((n3 - 1 : Nat) : Int) by omega)
  exact lp4_n3 (3460 - (0 : Int)).toNat n 0 hn (by decide) (by omega)
abbrev Q_X10_hang (h : Hp) (n : Int) (o : Int) : Option V → Hp → Nat → Nat → Prop := RV (fun H => Inv H ∧ Fr [28] h H)
set_option maxRecDepth 100000 in
theorem ct_X10_hang (l : Launch) (h : Hp) (hI : Inv h) (n : Int) (hn : I32 n) (o : Int) (ho : I32 o) : Ct l D_X10_hang 2 41 [.inr (.inr 27), .inl n, .inl o] h (Q_X10_hang h n o) := by
  refine ct_of pn_X10_hang (Nat.le_of_ble_eq_true rfl) ?_
  show To l E_X10_hang (0, [(0, .inr (.inr 27)), (1, .inl n), (2, .inl o)], [], h, 0, 0) _
  refine to_iload_n (dat dk_X10_hang 0 rfl) rfl (to_istore_n (L' := [(0, .inr (.inr 27)), (1, .inl n), (2, .inl o), (3, .inl o)]) (dat dk_X10_hang 1 rfl) (by decide) rfl (to_iconst (dat dk_X10_hang 2 rfl) (to_istore (L' := [(0, .inr (.inr 27)), (1, .inl n), (2, .inl o), (3, .inl o), (4, .inl 0)]) (dat dk_X10_hang 3 rfl) (by decide) rfl ?_)))
  have lp5_n3 : ∀ (n3 : Nat) (y1 : Int) (y2 : Int), (I32 y1) → (I32 y2) → (3460 - y2 ≤ (n3 : Int)) → To l E_X10_hang (5, [(0, .inr (.inr 27)), (1, .inl n), (2, .inl o), (3, .inl y1), (4, .inl y2)], [], h, 0, 0) (Q_X10_hang h n o) := by
    intro n3
    induction n3 using Nat.strongRecOn with
    | _ n3 ihn3 =>
    intro y1 y2 ry1 ry2 c4
    refine to_iload (dat dk_X10_hang 4 rfl) rfl (to_sipush (dat dk_X10_hang 5 rfl) (by decide) ?_)
    refine to_ige 38 (dat dk_X10_hang 6 rfl) rfl ry2 (by decide) (fun c5 => ?_) (fun c5 => ?_)
    · skip
      refine to_iload_n (dat dk_X10_hang 20 rfl) rfl ?_
      refine to_cI ca_c11_65 (dat dk_X10_hang 21 rfl) (ct_X10_isNode l h hI n hn) rfl trivial rfl (fun x6 h7 rx6 p8 => ?_)
      obtain ⟨rfl, zx6, p8_0⟩ := p8
      refine to_ifeq 52 (dat dk_X10_hang 22 rfl) rfl rx6 (fun c9 => ?_) (fun c9 => ?_)
      · skip
        exact to_vret rfl (dat dk_X10_hang 28 rfl) (rv_mk ⟨hI, (Fr.rf _ _)⟩)
      · skip
        refine to_aload_n (dat dk_X10_hang 23 rfl) rfl (to_getR 28 g_c11_11 (dat dk_X10_hang 24 rfl) (hI.atS rfl) (hI.atE rfl) (to_iload_n (dat dk_X10_hang 25 rfl) rfl (to_iload_n (dat dk_X10_hang 26 rfl) rfl (to_iastw (dat dk_X10_hang 27 rfl) (hI.atS rfl) rfl (by decide) (by omega) ?_))))
        intro h12 wh12
        have I10 : Inv h12 := by rw [wh12]; exact hI.put (a := 28) (j := (Int.toNat n)) (x := o) (-2147483648) (2147483647) rfl rfl (show (-2147483648 : Int) ≤ o ∧ o ≤ 2147483647 by omega)
        have f11 : Fr [28] h h12 := by rw [wh12]; exact Fr.putF (a := 28) (j := (Int.toNat n)) (x := o) (Fr.rf _ _) rfl
        exact to_vret rfl (dat dk_X10_hang 28 rfl) (rv_mk ⟨I10, f11⟩)
    · skip
      refine to_iload_n (dat dk_X10_hang 7 rfl) rfl ?_
      refine to_cI ca_c11_65 (dat dk_X10_hang 8 rfl) (ct_X10_isNode l h hI y1 ry1) rfl trivial rfl (fun x13 h14 rx13 p15 => ?_)
      obtain ⟨rfl, zx13, p15_0⟩ := p15
      refine to_ifeq 38 (dat dk_X10_hang 9 rfl) rfl rx13 (fun c16 => ?_) (fun c16 => ?_)
      · skip
        refine to_iload_n (dat dk_X10_hang 20 rfl) rfl ?_
        refine to_cI ca_c11_65 (dat dk_X10_hang 21 rfl) (ct_X10_isNode l h hI n hn) rfl trivial rfl (fun x17 h18 rx17 p19 => ?_)
        obtain ⟨rfl, zx17, p19_0⟩ := p19
        refine to_ifeq 52 (dat dk_X10_hang 22 rfl) rfl rx17 (fun c20 => ?_) (fun c20 => ?_)
        · skip
          exact to_vret rfl (dat dk_X10_hang 28 rfl) (rv_mk ⟨hI, (Fr.rf _ _)⟩)
        · skip
          refine to_aload_n (dat dk_X10_hang 23 rfl) rfl (to_getR 28 g_c11_11 (dat dk_X10_hang 24 rfl) (hI.atS rfl) (hI.atE rfl) (to_iload_n (dat dk_X10_hang 25 rfl) rfl (to_iload_n (dat dk_X10_hang 26 rfl) rfl (to_iastw (dat dk_X10_hang 27 rfl) (hI.atS rfl) rfl (by decide) (by omega) ?_))))
          intro h23 wh23
          have I21 : Inv h23 := by rw [wh23]; exact hI.put (a := 28) (j := (Int.toNat n)) (x := o) (-2147483648) (2147483647) rfl rfl (show (-2147483648 : Int) ≤ o ∧ o ≤ 2147483647 by omega)
          have f22 : Fr [28] h h23 := by rw [wh23]; exact Fr.putF (a := 28) (j := (Int.toNat n)) (x := o) (Fr.rf _ _) rfl
          exact to_vret rfl (dat dk_X10_hang 28 rfl) (rv_mk ⟨I21, f22⟩)
      · skip
        refine to_iload_n (dat dk_X10_hang 10 rfl) rfl (to_iload_n (dat dk_X10_hang 11 rfl) rfl ?_)
        refine to_ine 26 (dat dk_X10_hang 12 rfl) rfl ry1 hn (fun c24 => ?_) (fun c24 => ?_)
        · skip
          refine to_aload_n (dat dk_X10_hang 14 rfl) rfl (to_iload_n (dat dk_X10_hang 15 rfl) rfl ?_)
          refine to_cI ca_c11_76 (dat dk_X10_hang 16 rfl) (ct_X10_aboveOf l h hI y1 ry1) rfl ⟨_, _, rfl, (hI.atS rfl)⟩ rfl (fun x25 h26 rx25 p27 => ?_)
          subst p27
          refine to_istore_n (L' := [(0, .inr (.inr 27)), (1, .inl n), (2, .inl o), (3, .inl x25), (4, .inl y2)]) (dat dk_X10_hang 17 rfl) (by decide) rfl (to_iinc (L' := [(0, .inr (.inr 27)), (1, .inl n), (2, .inl o), (3, .inl x25), (4, .inl (y2 + 1))]) (dat dk_X10_hang 18 rfl) rfl (by decide) rfl (to_goto (dat dk_X10_hang 19 rfl) rfl ?_))
          exact ihn3 (n3 - 1) (by omega) x25 (y2 + 1) rx25 (by omega) (show 3460 - (y2 + 1) ≤ ((n3 - 1 : Nat) : Int) by omega)
        · skip
          exact to_vret rfl (dat dk_X10_hang 13 rfl) (rv_mk ⟨hI, (Fr.rf _ _)⟩)
  exact lp5_n3 (3460 - (0 : Int)).toNat o 0 ho (by decide) (by omega)
abbrev Q_X10_nodeOf (h : Hp) (m : Nat) (p : Int) : Option V → Hp → Nat → Nat → Prop := RI (fun x H => Inv H ∧ Fr [29] h H)
set_option maxRecDepth 100000 in
theorem ct_X10_nodeOf (l : Launch) (h : Hp) (hI : Inv h) (m : Nat) (hm : full h m) (p : Int) (hp : I32 p) (g0 : 0 ≤ p ∧ p ≤ 59) : Ct l D_X10_nodeOf 1 20 [.inr (.inr 27), .inr (.inr m), .inl p] h (Q_X10_nodeOf h m p) := by
  refine ct_of pn_X10_nodeOf (Nat.le_of_ble_eq_true rfl) ?_
  show To l E_X10_nodeOf (0, [(0, .inr (.inr 27)), (1, .inr (.inr m)), (2, .inl p)], [], h, 0, 0) _
  refine to_aload_np (dat dk_X10_nodeOf 0 rfl) (by have := full.big hI hm; omega) rfl ?_
  obtain ⟨x1, ex1⟩ : ∃ y : Int, h.2.2 m 4 = y := ⟨_, rfl⟩
  have rx1 := full.f4 hI hm
  rw [ex1] at rx1
  refine to_getIv (y := x1) ex1 g_c11_79 (dat dk_X10_nodeOf 1 rfl) hm.1 (to_istore_n (L' := [(0, .inr (.inr 27)), (1, .inr (.inr m)), (2, .inl p), (3, .inl x1)]) (dat dk_X10_nodeOf 2 rfl) (by decide) rfl (to_iload_n (dat dk_X10_nodeOf 3 rfl) rfl ?_))
  refine to_cI ca_c11_65 (dat dk_X10_nodeOf 4 rfl) (ct_X10_isNode l h hI x1 rx1) rfl trivial rfl (fun x2 h3 rx2 p4 => ?_)
  obtain ⟨rfl, zx2, p4_0⟩ := p4
  refine to_ifeq 22 (dat dk_X10_nodeOf 5 rfl) rfl rx2 (fun c5 => ?_) (fun c5 => ?_)
  · skip
    refine to_aload_n (dat dk_X10_nodeOf 12 rfl) rfl (to_getR 14 g_c11_28 (dat dk_X10_nodeOf 13 rfl) (hI.atS rfl) (hI.atE rfl) ?_)
    obtain ⟨x6, ex6⟩ : ∃ y : Int, h.2.2 14 5 = y := ⟨_, rfl⟩
    have rx6 := hI.atR (a := 14) (j := 5) rfl
    rw [ex6] at rx6
    refine to_cI ca_c11_36 (dat dk_X10_nodeOf 14 rfl) (ct_X0_entryCount l h hI 14 70 rfl) rfl ⟨_, _, rfl, (hI.atS rfl)⟩ rfl (fun x7 h8 rx7 p9 => ?_)
    obtain ⟨rfl, p9_0, p9_1⟩ := p9
    refine to_iload_n (dat dk_X10_nodeOf 15 rfl) rfl (to_iadd (dat dk_X10_nodeOf 16 rfl) (to_istore_n (L' := [(0, .inr (.inr 27)), (1, .inr (.inr m)), (2, .inl p), (3, .inl (x7 + p))]) (dat dk_X10_nodeOf 17 rfl) (by decide) rfl (to_iload_n (dat dk_X10_nodeOf 18 rfl) rfl ?_)))
    refine to_cI ca_c11_65 (dat dk_X10_nodeOf 19 rfl) (ct_X10_isNode l h hI (x7 + p) (by omega)) rfl trivial rfl (fun x10 h11 rx10 p12 => ?_)
    obtain ⟨rfl, zx10, p12_0⟩ := p12
    refine to_ifeq 49 (dat dk_X10_nodeOf 20 rfl) rfl rx10 (fun c13 => ?_) (fun c13 => ?_)
    · skip
      refine to_iload_n (dat dk_X10_nodeOf 27 rfl) rfl ?_
      exact to_iret rfl (dat dk_X10_nodeOf 28 rfl) (ri_mk (by omega) ⟨hI, (Fr.rf _ _)⟩)
    · skip
      refine to_aload_n (dat dk_X10_nodeOf 21 rfl) rfl (to_getR 29 g_c11_15 (dat dk_X10_nodeOf 22 rfl) (hI.atS rfl) (hI.atE rfl) (to_iload_n (dat dk_X10_nodeOf 23 rfl) rfl (to_aload_np (dat dk_X10_nodeOf 24 rfl) (by have := full.big hI hm; omega) rfl ?_)))
      obtain ⟨x14, ex14⟩ : ∃ y : Int, h.2.2 m 0 = y := ⟨_, rfl⟩
      have rx14 := full.f0 hI hm
      rw [ex14] at rx14
      refine to_getIv (y := x14) ex14 g_c11_69 (dat dk_X10_nodeOf 25 rfl) hm.1 (to_iastw (dat dk_X10_nodeOf 26 rfl) (hI.atS rfl) rfl (by decide) (by omega) ?_)
      intro h17 wh17
      have I15 : Inv h17 := by rw [wh17]; exact hI.put (a := 29) (j := (Int.toNat (x7 + p))) (x := x14) (-2147483648) (2147483647) rfl rfl (show (-2147483648 : Int) ≤ x14 ∧ x14 ≤ 2147483647 by omega)
      have f16 : Fr [29] h h17 := by rw [wh17]; exact Fr.putF (a := 29) (j := (Int.toNat (x7 + p))) (x := x14) (Fr.rf _ _) rfl
      have d18 : full h17 m := by rw [wh17]; exact full.putF hI (by decide) hm
      refine to_iload_n (dat dk_X10_nodeOf 27 rfl) rfl ?_
      exact to_iret rfl (dat dk_X10_nodeOf 28 rfl) (ri_mk (by omega) ⟨I15, f16⟩)
  · skip
    refine to_aload_n (dat dk_X10_nodeOf 6 rfl) rfl (to_getR 29 g_c11_15 (dat dk_X10_nodeOf 7 rfl) (hI.atS rfl) (hI.atE rfl) (to_iload_n (dat dk_X10_nodeOf 8 rfl) rfl ?_))
    obtain ⟨x19, ex19⟩ : ∃ y : Int, h.2.2 29 (Int.toNat x1) = y := ⟨_, rfl⟩
    have rx19 := hI.atR (a := 29) (j := Int.toNat x1) rfl
    rw [ex19] at rx19
    refine to_ialdv ex19 (dat dk_X10_nodeOf 9 rfl) (hI.atS rfl) rfl (by decide) (by omega) (to_iconst (dat dk_X10_nodeOf 10 rfl) ?_)
    refine to_ieq 32 (dat dk_X10_nodeOf 11 rfl) rfl (by omega) (by decide) (fun c20 => ?_) (fun c20 => ?_)
    · skip
      refine to_iload_n (dat dk_X10_nodeOf 18 rfl) rfl ?_
      refine to_cI ca_c11_65 (dat dk_X10_nodeOf 19 rfl) (ct_X10_isNode l h hI x1 rx1) rfl trivial rfl (fun x21 h22 rx21 p23 => ?_)
      obtain ⟨rfl, zx21, p23_0⟩ := p23
      refine to_ifeq 49 (dat dk_X10_nodeOf 20 rfl) rfl rx21 (fun c24 => ?_) (fun c24 => ?_)
      · skip
        refine to_iload_n (dat dk_X10_nodeOf 27 rfl) rfl ?_
        exact to_iret rfl (dat dk_X10_nodeOf 28 rfl) (ri_mk rx1 ⟨hI, (Fr.rf _ _)⟩)
      · skip
        refine to_aload_n (dat dk_X10_nodeOf 21 rfl) rfl (to_getR 29 g_c11_15 (dat dk_X10_nodeOf 22 rfl) (hI.atS rfl) (hI.atE rfl) (to_iload_n (dat dk_X10_nodeOf 23 rfl) rfl (to_aload_np (dat dk_X10_nodeOf 24 rfl) (by have := full.big hI hm; omega) rfl ?_)))
        obtain ⟨x25, ex25⟩ : ∃ y : Int, h.2.2 m 0 = y := ⟨_, rfl⟩
        have rx25 := full.f0 hI hm
        rw [ex25] at rx25
        refine to_getIv (y := x25) ex25 g_c11_69 (dat dk_X10_nodeOf 25 rfl) hm.1 (to_iastw (dat dk_X10_nodeOf 26 rfl) (hI.atS rfl) rfl (by decide) (by omega) ?_)
        intro h28 wh28
        have I26 : Inv h28 := by rw [wh28]; exact hI.put (a := 29) (j := (Int.toNat x1)) (x := x25) (-2147483648) (2147483647) rfl rfl (show (-2147483648 : Int) ≤ x25 ∧ x25 ≤ 2147483647 by omega)
        have f27 : Fr [29] h h28 := by rw [wh28]; exact Fr.putF (a := 29) (j := (Int.toNat x1)) (x := x25) (Fr.rf _ _) rfl
        have d29 : full h28 m := by rw [wh28]; exact full.putF hI (by decide) hm
        refine to_iload_n (dat dk_X10_nodeOf 27 rfl) rfl ?_
        exact to_iret rfl (dat dk_X10_nodeOf 28 rfl) (ri_mk rx1 ⟨I26, f27⟩)
    · skip
      refine to_aload_n (dat dk_X10_nodeOf 12 rfl) rfl (to_getR 14 g_c11_28 (dat dk_X10_nodeOf 13 rfl) (hI.atS rfl) (hI.atE rfl) ?_)
      obtain ⟨x30, ex30⟩ : ∃ y : Int, h.2.2 14 5 = y := ⟨_, rfl⟩
      have rx30 := hI.atR (a := 14) (j := 5) rfl
      rw [ex30] at rx30
      refine to_cI ca_c11_36 (dat dk_X10_nodeOf 14 rfl) (ct_X0_entryCount l h hI 14 70 rfl) rfl ⟨_, _, rfl, (hI.atS rfl)⟩ rfl (fun x31 h32 rx31 p33 => ?_)
      obtain ⟨rfl, p33_0, p33_1⟩ := p33
      refine to_iload_n (dat dk_X10_nodeOf 15 rfl) rfl (to_iadd (dat dk_X10_nodeOf 16 rfl) (to_istore_n (L' := [(0, .inr (.inr 27)), (1, .inr (.inr m)), (2, .inl p), (3, .inl (x31 + p))]) (dat dk_X10_nodeOf 17 rfl) (by decide) rfl (to_iload_n (dat dk_X10_nodeOf 18 rfl) rfl ?_)))
      refine to_cI ca_c11_65 (dat dk_X10_nodeOf 19 rfl) (ct_X10_isNode l h hI (x31 + p) (by omega)) rfl trivial rfl (fun x34 h35 rx34 p36 => ?_)
      obtain ⟨rfl, zx34, p36_0⟩ := p36
      refine to_ifeq 49 (dat dk_X10_nodeOf 20 rfl) rfl rx34 (fun c37 => ?_) (fun c37 => ?_)
      · skip
        refine to_iload_n (dat dk_X10_nodeOf 27 rfl) rfl ?_
        exact to_iret rfl (dat dk_X10_nodeOf 28 rfl) (ri_mk (by omega) ⟨hI, (Fr.rf _ _)⟩)
      · skip
        refine to_aload_n (dat dk_X10_nodeOf 21 rfl) rfl (to_getR 29 g_c11_15 (dat dk_X10_nodeOf 22 rfl) (hI.atS rfl) (hI.atE rfl) (to_iload_n (dat dk_X10_nodeOf 23 rfl) rfl (to_aload_np (dat dk_X10_nodeOf 24 rfl) (by have := full.big hI hm; omega) rfl ?_)))
        obtain ⟨x38, ex38⟩ : ∃ y : Int, h.2.2 m 0 = y := ⟨_, rfl⟩
        have rx38 := full.f0 hI hm
        rw [ex38] at rx38
        refine to_getIv (y := x38) ex38 g_c11_69 (dat dk_X10_nodeOf 25 rfl) hm.1 (to_iastw (dat dk_X10_nodeOf 26 rfl) (hI.atS rfl) rfl (by decide) (by omega) ?_)
        intro h41 wh41
        have I39 : Inv h41 := by rw [wh41]; exact hI.put (a := 29) (j := (Int.toNat (x31 + p))) (x := x38) (-2147483648) (2147483647) rfl rfl (show (-2147483648 : Int) ≤ x38 ∧ x38 ≤ 2147483647 by omega)
        have f40 : Fr [29] h h41 := by rw [wh41]; exact Fr.putF (a := 29) (j := (Int.toNat (x31 + p))) (x := x38) (Fr.rf _ _) rfl
        have d42 : full h41 m := by rw [wh41]; exact full.putF hI (by decide) hm
        refine to_iload_n (dat dk_X10_nodeOf 27 rfl) rfl ?_
        exact to_iret rfl (dat dk_X10_nodeOf 28 rfl) (ri_mk (by omega) ⟨I39, f40⟩)
abbrev Q_X10_hangMessage (h : Hp) (m : Nat) (n : Int) : Option V → Hp → Nat → Nat → Prop := RV (fun H => Inv H ∧ Fr [28] h H)
set_option maxRecDepth 100000 in
theorem ct_X10_hangMessage (l : Launch) (h : Hp) (hI : Inv h) (m : Nat) (hm : full h m) (n : Int) (hn : I32 n) : Ct l D_X10_hangMessage 3 65 [.inr (.inr 27), .inr (.inr m), .inl n] h (Q_X10_hangMessage h m n) := by
  refine ct_of pn_X10_hangMessage (Nat.le_of_ble_eq_true rfl) ?_
  show To l E_X10_hangMessage (0, [(0, .inr (.inr 27)), (1, .inr (.inr m)), (2, .inl n)], [], h, 0, 0) _
  refine to_iconst (dat dk_X10_hangMessage 0 rfl) (to_istore_n (L' := [(0, .inr (.inr 27)), (1, .inr (.inr m)), (2, .inl n), (3, .inl (-1))]) (dat dk_X10_hangMessage 1 rfl) (by decide) rfl (to_iconst (dat dk_X10_hangMessage 2 rfl) (to_istore (L' := [(0, .inr (.inr 27)), (1, .inr (.inr m)), (2, .inl n), (3, .inl (-1)), (4, .inl 0)]) (dat dk_X10_hangMessage 3 rfl) (by decide) rfl ?_)))
  have lp5_n5 : ∀ (n5 : Nat) (y1 : Int) (y2 : Int) (h3 : Hp), (I32 y1) → (I32 y2) → (Inv h3) → (Fr [28] h h3) → (0 ≤ y2) → (67108865 - y2 ≤ (n5 : Int)) → To l E_X10_hangMessage (5, [(0, .inr (.inr 27)), (1, .inr (.inr m)), (2, .inl n), (3, .inl y1), (4, .inl y2)], [], h3, 0, 0) (Q_X10_hangMessage h m n) := by
    intro n5
    induction n5 using Nat.strongRecOn with
    | _ n5 ihn5 =>
    intro y1 y2 h3 ry1 ry2 Ih3 fh3 c4 c6
    refine to_iload (dat dk_X10_hangMessage 4 rfl) rfl (to_aload_np (dat dk_X10_hangMessage 5 rfl) (by have := full.big Ih3 (full.fr fh3 rfl hI hm); omega) rfl ?_)
    obtain ⟨q7, nq7, eq7, pq7, tq7⟩ := full.r5 Ih3 (full.fr fh3 rfl hI hm)
    have lq7 := Ih3.lenM tq7
    refine to_getR q7 g_c11_82 (dat dk_X10_hangMessage 6 rfl) (full.fr fh3 rfl hI hm).1 eq7 (to_alen (dat dk_X10_hangMessage 7 rfl) tq7 (by decide) ?_)
    refine to_ige 55 (dat dk_X10_hangMessage 8 rfl) rfl ry2 (by omega) (fun c8 => ?_) (fun c8 => ?_)
    · skip
      refine to_iload_n (dat dk_X10_hangMessage 30 rfl) rfl (to_iconst (dat dk_X10_hangMessage 31 rfl) ?_)
      refine to_ieq 66 (dat dk_X10_hangMessage 32 rfl) rfl ry1 (by decide) (fun c9 => ?_) (fun c9 => ?_)
      · skip
        exact to_vret rfl (dat dk_X10_hangMessage 37 rfl) (rv_mk ⟨Ih3, fh3⟩)
      · skip
        refine to_aload_n (dat dk_X10_hangMessage 33 rfl) rfl (to_iload_n (dat dk_X10_hangMessage 34 rfl) rfl (to_iload_n (dat dk_X10_hangMessage 35 rfl) rfl ?_))
        refine to_cV ca_c11_85 (dat dk_X10_hangMessage 36 rfl) (ct_X10_hang l h3 Ih3 n hn y1 ry1) rfl ⟨_, _, rfl, (Ih3.atS rfl)⟩ rfl (fun h11 p12 => ?_)
        obtain ⟨Ih11, fh11⟩ := p12
        have f13 : Fr [28] h h11 := Fr.sub fh3 fh11 (sub_self _)
        have d14 := full.fr fh11 rfl Ih3 (full.fr fh3 rfl hI hm)
        have d15 := (fh11.1.2 _ (Ih3.ltN tq7)).trans tq7
        exact to_vret rfl (dat dk_X10_hangMessage 37 rfl) (rv_mk ⟨Ih11, f13⟩)
    · skip
      refine to_aload_np (dat dk_X10_hangMessage 9 rfl) (by have := full.big Ih3 (full.fr fh3 rfl hI hm); omega) rfl (to_getR q7 g_c11_82 (dat dk_X10_hangMessage 10 rfl) (full.fr fh3 rfl hI hm).1 eq7 (to_iload (dat dk_X10_hangMessage 11 rfl) rfl ?_))
      obtain ⟨x16, ex16⟩ : ∃ y : Int, h3.2.2 q7 (Int.toNat y2) = y := ⟨_, rfl⟩
      have rx16 := Ih3.con0 tq7 rfl (Int.toNat y2)
      rw [ex16] at rx16
      refine to_ialdv ex16 (dat dk_X10_hangMessage 12 rfl) tq7 rfl (Ih3.lenN tq7) (by omega) (to_istore (L' := [(0, .inr (.inr 27)), (1, .inr (.inr m)), (2, .inl n), (3, .inl y1), (4, .inl y2), (5, .inl x16)]) (dat dk_X10_hangMessage 13 rfl) (by decide) rfl (to_iload_n (dat dk_X10_hangMessage 14 rfl) rfl (to_iconst (dat dk_X10_hangMessage 15 rfl) ?_)))
      refine to_ieq 46 (dat dk_X10_hangMessage 16 rfl) rfl ry1 (by decide) (fun c17 => ?_) (fun c17 => ?_)
      · skip
        refine to_iload (dat dk_X10_hangMessage 26 rfl) rfl (to_istore_n (L' := [(0, .inr (.inr 27)), (1, .inr (.inr m)), (2, .inl n), (3, .inl x16), (4, .inl y2), (5, .inl x16)]) (dat dk_X10_hangMessage 27 rfl) (by decide) rfl (to_iinc (L' := [(0, .inr (.inr 27)), (1, .inr (.inr m)), (2, .inl n), (3, .inl x16), (4, .inl (y2 + 1)), (5, .inl x16)]) (dat dk_X10_hangMessage 28 rfl) rfl (by decide) rfl (to_goto (dat dk_X10_hangMessage 29 rfl) rfl ?_)))
        refine to_pick [0, 1, 2, 3, 4] rfl ?_
        exact ihn5 (n5 - 1) (by omega) x16 (y2 + 1) h3 rx16 (by omega) Ih3 fh3 (show 0 ≤ (y2 + 1) by omega) (show 67108865 - (y2 + 1) ≤ ((n5 - 1 : Nat) : Int) by omega)
      · skip
        refine to_aload_n (dat dk_X10_hangMessage 17 rfl) rfl (to_iload (dat dk_X10_hangMessage 18 rfl) rfl ?_)
        refine to_cI ca_c11_76 (dat dk_X10_hangMessage 19 rfl) (ct_X10_aboveOf l h3 Ih3 x16 rx16) rfl ⟨_, _, rfl, (Ih3.atS rfl)⟩ rfl (fun x18 h19 rx18 p20 => ?_)
        subst p20
        refine to_iconst (dat dk_X10_hangMessage 20 rfl) ?_
        refine to_ine 46 (dat dk_X10_hangMessage 21 rfl) rfl rx18 (by decide) (fun c21 => ?_) (fun c21 => ?_)
        · skip
          refine to_iload (dat dk_X10_hangMessage 26 rfl) rfl (to_istore_n (L' := [(0, .inr (.inr 27)), (1, .inr (.inr m)), (2, .inl n), (3, .inl x16), (4, .inl y2), (5, .inl x16)]) (dat dk_X10_hangMessage 27 rfl) (by decide) rfl (to_iinc (L' := [(0, .inr (.inr 27)), (1, .inr (.inr m)), (2, .inl n), (3, .inl x16), (4, .inl (y2 + 1)), (5, .inl x16)]) (dat dk_X10_hangMessage 28 rfl) rfl (by decide) rfl (to_goto (dat dk_X10_hangMessage 29 rfl) rfl ?_)))
          refine to_pick [0, 1, 2, 3, 4] rfl ?_
          exact ihn5 (n5 - 1) (by omega) x16 (y2 + 1) h3 rx16 (by omega) Ih3 fh3 (show 0 ≤ (y2 + 1) by omega) (show 67108865 - (y2 + 1) ≤ ((n5 - 1 : Nat) : Int) by omega)
        · skip
          refine to_aload_n (dat dk_X10_hangMessage 22 rfl) rfl (to_iload (dat dk_X10_hangMessage 23 rfl) rfl (to_iload_n (dat dk_X10_hangMessage 24 rfl) rfl ?_))
          refine to_cV ca_c11_85 (dat dk_X10_hangMessage 25 rfl) (ct_X10_hang l h3 Ih3 x16 rx16 y1 ry1) rfl ⟨_, _, rfl, (Ih3.atS rfl)⟩ rfl (fun h23 p24 => ?_)
          obtain ⟨Ih23, fh23⟩ := p24
          have f25 : Fr [28] h h23 := Fr.sub fh3 fh23 (sub_self _)
          have d26 := full.fr fh23 rfl Ih3 (full.fr fh3 rfl hI hm)
          have d27 := (fh23.1.2 _ (Ih3.ltN tq7)).trans tq7
          refine to_iload (dat dk_X10_hangMessage 26 rfl) rfl (to_istore_n (L' := [(0, .inr (.inr 27)), (1, .inr (.inr m)), (2, .inl n), (3, .inl x16), (4, .inl y2), (5, .inl x16)]) (dat dk_X10_hangMessage 27 rfl) (by decide) rfl (to_iinc (L' := [(0, .inr (.inr 27)), (1, .inr (.inr m)), (2, .inl n), (3, .inl x16), (4, .inl (y2 + 1)), (5, .inl x16)]) (dat dk_X10_hangMessage 28 rfl) rfl (by decide) rfl (to_goto (dat dk_X10_hangMessage 29 rfl) rfl ?_)))
          refine to_pick [0, 1, 2, 3, 4] rfl ?_
          exact ihn5 (n5 - 1) (by omega) x16 (y2 + 1) h23 rx16 (by omega) Ih23 f25 (show 0 ≤ (y2 + 1) by omega) (show 67108865 - (y2 + 1) ≤ ((n5 - 1 : Nat) : Int) by omega)
  exact lp5_n5 (67108865 - (0 : Int)).toNat (-1) 0 h (by decide) (by decide) hI (Fr.rf _ _) (show 0 ≤ (0 : Int) by omega) (by omega)
abbrev Q_X10_freshen (h : Hp) : Option V → Hp → Nat → Nat → Prop := RV (fun H => Inv H ∧ Fr [27, 28, 29, 30, 31] h H)
set_option maxRecDepth 100000 in
theorem ct_X10_freshen (l : Launch) (h : Hp) (hI : Inv h)  : Ct l D_X10_freshen 4 90 [.inr (.inr 27)] h (Q_X10_freshen h) := by
  refine ct_of pn_X10_freshen (Nat.le_of_ble_eq_true rfl) ?_
  show To l E_X10_freshen (0, [(0, .inr (.inr 27))], [], h, 0, 0) _
  refine to_aload_n (dat dk_X10_freshen 0 rfl) rfl ?_
  obtain ⟨x1, ex1⟩ : ∃ y : Int, h.2.2 27 6 = y := ⟨_, rfl⟩
  have rx1 := hI.atR (a := 27) (j := 6) rfl
  rw [ex1] at rx1
  refine to_getIv (y := x1) ex1 g_c11_32 (dat dk_X10_freshen 1 rfl) (hI.atS rfl) ?_
  refine to_ifeq 8 (dat dk_X10_freshen 2 rfl) rfl (by omega) (fun c2 => ?_) (fun c2 => ?_)
  · skip
    refine to_iconst (dat dk_X10_freshen 4 rfl) (to_istore_n (L' := [(0, .inr (.inr 27)), (1, .inl 0)]) (dat dk_X10_freshen 5 rfl) (by decide) rfl ?_)
    have lp10_n6 : ∀ (n6 : Nat) (y3 : Int) (h4 : Hp), (I32 y3) → (Inv h4) → (Fr [27, 28, 29, 30, 31] h h4) → (0 ≤ y3) → (3460 - y3 ≤ (n6 : Int)) → To l E_X10_freshen (10, [(0, .inr (.inr 27)), (1, .inl y3)], [], h4, 0, 0) (Q_X10_freshen h) := by
      intro n6
      induction n6 using Nat.strongRecOn with
      | _ n6 ihn6 =>
      intro y3 h4 ry3 Ih4 fh4 c5 c7
      refine to_iload_n (dat dk_X10_freshen 6 rfl) rfl (to_sipush (dat dk_X10_freshen 7 rfl) (by decide) ?_)
      refine to_ige 58 (dat dk_X10_freshen 8 rfl) rfl ry3 (by decide) (fun c8 => ?_) (fun c8 => ?_)
      · skip
        refine to_iconst (dat dk_X10_freshen 33 rfl) (to_istore_n (L' := [(0, .inr (.inr 27)), (1, .inl 0)]) (dat dk_X10_freshen 34 rfl) (by decide) rfl ?_)
        have lp60_n12 : ∀ (n12 : Nat) (y9 : Int) (h10 : Hp), (I32 y9) → (Inv h10) → (Fr [27, 28, 29, 30, 31] h h10) → (0 ≤ y9) → (60 - y9 ≤ (n12 : Int)) → To l E_X10_freshen (60, [(0, .inr (.inr 27)), (1, .inl y9)], [], h10, 0, 0) (Q_X10_freshen h) := by
          intro n12
          induction n12 using Nat.strongRecOn with
          | _ n12 ihn12 =>
          intro y9 h10 ry9 Ih10 fh10 c11 c13
          refine to_iload_n (dat dk_X10_freshen 35 rfl) rfl (to_aload_n (dat dk_X10_freshen 36 rfl) rfl (to_getR 26 g_c11_24 (dat dk_X10_freshen 37 rfl) (Ih10.atS rfl) (Ih10.atE rfl) ?_))
          obtain ⟨x14, ex14⟩ : ∃ y : Int, h10.2.2 26 2 = y := ⟨_, rfl⟩
          have rx14 := Ih10.atR (a := 26) (j := 2) rfl
          rw [ex14] at rx14
          refine to_cI ca_c11_42 (dat dk_X10_freshen 38 rfl) (ct_Jx4a65c_size_8abf5 l h10 Ih10 ) rfl ⟨_, _, rfl, (Ih10.atS rfl)⟩ rfl (fun x15 h16 rx15 p17 => ?_)
          obtain ⟨rfl, p17_0, p17_1⟩ := p17
          refine to_ige 126 (dat dk_X10_freshen 39 rfl) rfl ry9 rx15 (fun c18 => ?_) (fun c18 => ?_)
          · skip
            refine to_iconst (dat dk_X10_freshen 68 rfl) (to_istore_n (L' := [(0, .inr (.inr 27)), (1, .inl 0)]) (dat dk_X10_freshen 69 rfl) (by decide) rfl ?_)
            have lp128_n22 : ∀ (n22 : Nat) (y19 : Int) (h20 : Hp), (I32 y19) → (Inv h20) → (Fr [27, 28, 29, 30, 31] h h20) → (0 ≤ y19) → (60 - y19 ≤ (n22 : Int)) → To l E_X10_freshen (128, [(0, .inr (.inr 27)), (1, .inl y19)], [], h20, 0, 0) (Q_X10_freshen h) := by
              intro n22
              induction n22 using Nat.strongRecOn with
              | _ n22 ihn22 =>
              intro y19 h20 ry19 Ih20 fh20 c21 c23
              refine to_iload_n (dat dk_X10_freshen 70 rfl) rfl (to_aload_n (dat dk_X10_freshen 71 rfl) rfl (to_getR 26 g_c11_24 (dat dk_X10_freshen 72 rfl) (Ih20.atS rfl) (Ih20.atE rfl) ?_))
              obtain ⟨x24, ex24⟩ : ∃ y : Int, h20.2.2 26 2 = y := ⟨_, rfl⟩
              have rx24 := Ih20.atR (a := 26) (j := 2) rfl
              rw [ex24] at rx24
              refine to_cI ca_c11_42 (dat dk_X10_freshen 73 rfl) (ct_Jx4a65c_size_8abf5 l h20 Ih20 ) rfl ⟨_, _, rfl, (Ih20.atS rfl)⟩ rfl (fun x25 h26 rx25 p27 => ?_)
              obtain ⟨rfl, p27_0, p27_1⟩ := p27
              refine to_ige 199 (dat dk_X10_freshen 74 rfl) rfl ry19 rx25 (fun c28 => ?_) (fun c28 => ?_)
              · skip
                refine to_aload_n (dat dk_X10_freshen 106 rfl) rfl (to_iconst (dat dk_X10_freshen 107 rfl) (to_putZw p_c11_32 (dat dk_X10_freshen 108 rfl) (Ih20.atS rfl) (by decide) ?_))
                intro h31 wh31
                have I29 : Inv h31 := by rw [wh31]; exact Ih20.put (a := 27) (j := 6) (x := 1) (0) (1) rfl rfl (show (0 : Int) ≤ 1 ∧ 1 ≤ 1 by decide)
                have f30 : Fr [27, 28, 29, 30, 31] h h31 := by rw [wh31]; exact Fr.putF (a := 27) (j := 6) (x := 1) fh20 rfl
                exact to_vret rfl (dat dk_X10_freshen 109 rfl) (rv_mk ⟨I29, f30⟩)
              · skip
                refine to_iload_n (dat dk_X10_freshen 75 rfl) rfl (to_bipush (dat dk_X10_freshen 76 rfl) (by decide) ?_)
                refine to_ige 199 (dat dk_X10_freshen 77 rfl) rfl ry19 (by decide) (fun c32 => ?_) (fun c32 => ?_)
                · skip
                  refine to_aload_n (dat dk_X10_freshen 106 rfl) rfl (to_iconst (dat dk_X10_freshen 107 rfl) (to_putZw p_c11_32 (dat dk_X10_freshen 108 rfl) (Ih20.atS rfl) (by decide) ?_))
                  intro h35 wh35
                  have I33 : Inv h35 := by rw [wh35]; exact Ih20.put (a := 27) (j := 6) (x := 1) (0) (1) rfl rfl (show (0 : Int) ≤ 1 ∧ 1 ≤ 1 by decide)
                  have f34 : Fr [27, 28, 29, 30, 31] h h35 := by rw [wh35]; exact Fr.putF (a := 27) (j := 6) (x := 1) fh20 rfl
                  exact to_vret rfl (dat dk_X10_freshen 109 rfl) (rv_mk ⟨I33, f34⟩)
                · skip
                  refine to_aload_n (dat dk_X10_freshen 78 rfl) rfl (to_aload_n (dat dk_X10_freshen 79 rfl) rfl (to_getR 31 g_c11_21 (dat dk_X10_freshen 80 rfl) (Ih20.atS rfl) (Ih20.atE rfl) (to_iload_n (dat dk_X10_freshen 81 rfl) rfl ?_)))
                  obtain ⟨x36, ex36⟩ : ∃ y : Int, h20.2.2 31 (Int.toNat y19) = y := ⟨_, rfl⟩
                  have rx36 := Ih20.atR (a := 31) (j := Int.toNat y19) rfl
                  rw [ex36] at rx36
                  refine to_ialdv ex36 (dat dk_X10_freshen 82 rfl) (Ih20.atS rfl) rfl (by decide) (by omega) ?_
                  refine to_cI ca_c11_61 (dat dk_X10_freshen 83 rfl) (ct_X10_rootOf l h20 Ih20 x36 (by omega)) rfl ⟨_, _, rfl, (Ih20.atS rfl)⟩ rfl (fun x37 h38 rx37 p39 => ?_)
                  subst p39
                  refine to_istore_n (L' := [(0, .inr (.inr 27)), (1, .inl y19), (2, .inl x37)]) (dat dk_X10_freshen 84 rfl) (by decide) rfl (to_iload_n (dat dk_X10_freshen 85 rfl) rfl ?_)
                  refine to_cI ca_c11_65 (dat dk_X10_freshen 86 rfl) (ct_X10_isNode l h20 Ih20 x37 rx37) rfl trivial rfl (fun x40 h41 rx40 p42 => ?_)
                  obtain ⟨rfl, zx40, p42_0⟩ := p42
                  refine to_ifeq 193 (dat dk_X10_freshen 87 rfl) rfl rx40 (fun c43 => ?_) (fun c43 => ?_)
                  · skip
                    refine to_iinc (L' := [(0, .inr (.inr 27)), (1, .inl (y19 + 1)), (2, .inl x37)]) (dat dk_X10_freshen 104 rfl) rfl (by decide) rfl (to_goto (dat dk_X10_freshen 105 rfl) rfl ?_)
                    refine to_pick [0, 1] rfl ?_
                    exact ihn22 (n22 - 1) (by omega) (y19 + 1) h20 (by omega) Ih20 fh20 (show 0 ≤ (y19 + 1) by omega) (show 60 - (y19 + 1) ≤ ((n22 - 1 : Nat) : Int) by omega)
                  · skip
                    refine to_aload_n (dat dk_X10_freshen 88 rfl) rfl (to_getR 30 g_c11_18 (dat dk_X10_freshen 89 rfl) (Ih20.atS rfl) (Ih20.atE rfl) (to_iload_n (dat dk_X10_freshen 90 rfl) rfl ?_))
                    obtain ⟨x44, ex44⟩ : ∃ y : Int, h20.2.2 30 (Int.toNat x37) = y := ⟨_, rfl⟩
                    have rx44 := Ih20.atR (a := 30) (j := Int.toNat x37) rfl
                    rw [ex44] at rx44
                    refine to_ialdv ex44 (dat dk_X10_freshen 91 rfl) (Ih20.atS rfl) rfl (by decide) (by omega) (to_iconst (dat dk_X10_freshen 92 rfl) ?_)
                    refine to_ine 193 (dat dk_X10_freshen 93 rfl) rfl (by omega) (by decide) (fun c45 => ?_) (fun c45 => ?_)
                    · skip
                      refine to_iinc (L' := [(0, .inr (.inr 27)), (1, .inl (y19 + 1)), (2, .inl x37)]) (dat dk_X10_freshen 104 rfl) rfl (by decide) rfl (to_goto (dat dk_X10_freshen 105 rfl) rfl ?_)
                      refine to_pick [0, 1] rfl ?_
                      exact ihn22 (n22 - 1) (by omega) (y19 + 1) h20 (by omega) Ih20 fh20 (show 0 ≤ (y19 + 1) by omega) (show 60 - (y19 + 1) ≤ ((n22 - 1 : Nat) : Int) by omega)
                    · skip
                      refine to_aload_n (dat dk_X10_freshen 94 rfl) rfl (to_getR 30 g_c11_18 (dat dk_X10_freshen 95 rfl) (Ih20.atS rfl) (Ih20.atE rfl) (to_iload_n (dat dk_X10_freshen 96 rfl) rfl (to_aload_n (dat dk_X10_freshen 97 rfl) rfl (to_getR 26 g_c11_24 (dat dk_X10_freshen 98 rfl) (Ih20.atS rfl) (Ih20.atE rfl) (to_iload_n (dat dk_X10_freshen 99 rfl) rfl ?_)))))
                      refine to_cR ca_c11_47 (dat dk_X10_freshen 100 rfl) (ct_Jx4a65c_get_915e3 l h20 Ih20 y19 ry19 (show 0 ≤ y19 ∧ y19 < h20.2.2 26 2 by omega)) rfl ⟨_, _, rfl, (Ih20.atS rfl)⟩ rfl (fun x46 h47 p48 => ?_)
                      obtain ⟨rfl, p48_0⟩ := p48
                      refine to_castM (C := RX6) (T := TX6) (N := 8) (ci := 5) rfl (tin 2 205 (by decide +kernel) rfl) (dat dk_X10_freshen 101 rfl) p48_0.1 ?_
                      obtain ⟨x49, ex49⟩ : ∃ y : Int, h20.2.2 x46 0 = y := ⟨_, rfl⟩
                      have rx49 := full.f0 Ih20 p48_0
                      rw [ex49] at rx49
                      refine to_getIv (y := x49) ex49 g_c11_69 (dat dk_X10_freshen 102 rfl) p48_0.1 (to_iastw (dat dk_X10_freshen 103 rfl) (Ih20.atS rfl) rfl (by decide) (by omega) ?_)
                      intro h52 wh52
                      have I50 : Inv h52 := by rw [wh52]; exact Ih20.put (a := 30) (j := (Int.toNat x37)) (x := x49) (-2147483648) (2147483647) rfl rfl (show (-2147483648 : Int) ≤ x49 ∧ x49 ≤ 2147483647 by omega)
                      have f51 : Fr [27, 28, 29, 30, 31] h h52 := by rw [wh52]; exact Fr.putF (a := 30) (j := (Int.toNat x37)) (x := x49) fh20 rfl
                      have d53 : full h52 x46 := by rw [wh52]; exact full.putF Ih20 (by decide) p48_0
                      refine to_iinc (L' := [(0, .inr (.inr 27)), (1, .inl (y19 + 1)), (2, .inl x37)]) (dat dk_X10_freshen 104 rfl) rfl (by decide) rfl (to_goto (dat dk_X10_freshen 105 rfl) rfl ?_)
                      refine to_pick [0, 1] rfl ?_
                      exact ihn22 (n22 - 1) (by omega) (y19 + 1) h52 (by omega) I50 f51 (show 0 ≤ (y19 + 1) by omega) (show 60 - (y19 + 1) ≤ ((n22 - 1 : Nat) : Int) by omega)
            exact lp128_n22 (60 - (0 : Int)).toNat 0 h10 (by decide) Ih10 fh10 (show 0 ≤ (0 : Int) by omega) (by omega)
          · skip
            refine to_iload_n (dat dk_X10_freshen 40 rfl) rfl (to_bipush (dat dk_X10_freshen 41 rfl) (by decide) ?_)
            refine to_ige 126 (dat dk_X10_freshen 42 rfl) rfl ry9 (by decide) (fun c54 => ?_) (fun c54 => ?_)
            · skip
              refine to_iconst (dat dk_X10_freshen 68 rfl) (to_istore_n (L' := [(0, .inr (.inr 27)), (1, .inl 0)]) (dat dk_X10_freshen 69 rfl) (by decide) rfl ?_)
              have lp128_n58 : ∀ (n58 : Nat) (y55 : Int) (h56 : Hp), (I32 y55) → (Inv h56) → (Fr [27, 28, 29, 30, 31] h h56) → (0 ≤ y55) → (60 - y55 ≤ (n58 : Int)) → To l E_X10_freshen (128, [(0, .inr (.inr 27)), (1, .inl y55)], [], h56, 0, 0) (Q_X10_freshen h) := by
                intro n58
                induction n58 using Nat.strongRecOn with
                | _ n58 ihn58 =>
                intro y55 h56 ry55 Ih56 fh56 c57 c59
                refine to_iload_n (dat dk_X10_freshen 70 rfl) rfl (to_aload_n (dat dk_X10_freshen 71 rfl) rfl (to_getR 26 g_c11_24 (dat dk_X10_freshen 72 rfl) (Ih56.atS rfl) (Ih56.atE rfl) ?_))
                obtain ⟨x60, ex60⟩ : ∃ y : Int, h56.2.2 26 2 = y := ⟨_, rfl⟩
                have rx60 := Ih56.atR (a := 26) (j := 2) rfl
                rw [ex60] at rx60
                refine to_cI ca_c11_42 (dat dk_X10_freshen 73 rfl) (ct_Jx4a65c_size_8abf5 l h56 Ih56 ) rfl ⟨_, _, rfl, (Ih56.atS rfl)⟩ rfl (fun x61 h62 rx61 p63 => ?_)
                obtain ⟨rfl, p63_0, p63_1⟩ := p63
                refine to_ige 199 (dat dk_X10_freshen 74 rfl) rfl ry55 rx61 (fun c64 => ?_) (fun c64 => ?_)
                · skip
                  refine to_aload_n (dat dk_X10_freshen 106 rfl) rfl (to_iconst (dat dk_X10_freshen 107 rfl) (to_putZw p_c11_32 (dat dk_X10_freshen 108 rfl) (Ih56.atS rfl) (by decide) ?_))
                  intro h67 wh67
                  have I65 : Inv h67 := by rw [wh67]; exact Ih56.put (a := 27) (j := 6) (x := 1) (0) (1) rfl rfl (show (0 : Int) ≤ 1 ∧ 1 ≤ 1 by decide)
                  have f66 : Fr [27, 28, 29, 30, 31] h h67 := by rw [wh67]; exact Fr.putF (a := 27) (j := 6) (x := 1) fh56 rfl
                  exact to_vret rfl (dat dk_X10_freshen 109 rfl) (rv_mk ⟨I65, f66⟩)
                · skip
                  refine to_iload_n (dat dk_X10_freshen 75 rfl) rfl (to_bipush (dat dk_X10_freshen 76 rfl) (by decide) ?_)
                  refine to_ige 199 (dat dk_X10_freshen 77 rfl) rfl ry55 (by decide) (fun c68 => ?_) (fun c68 => ?_)
                  · skip
                    refine to_aload_n (dat dk_X10_freshen 106 rfl) rfl (to_iconst (dat dk_X10_freshen 107 rfl) (to_putZw p_c11_32 (dat dk_X10_freshen 108 rfl) (Ih56.atS rfl) (by decide) ?_))
                    intro h71 wh71
                    have I69 : Inv h71 := by rw [wh71]; exact Ih56.put (a := 27) (j := 6) (x := 1) (0) (1) rfl rfl (show (0 : Int) ≤ 1 ∧ 1 ≤ 1 by decide)
                    have f70 : Fr [27, 28, 29, 30, 31] h h71 := by rw [wh71]; exact Fr.putF (a := 27) (j := 6) (x := 1) fh56 rfl
                    exact to_vret rfl (dat dk_X10_freshen 109 rfl) (rv_mk ⟨I69, f70⟩)
                  · skip
                    refine to_aload_n (dat dk_X10_freshen 78 rfl) rfl (to_aload_n (dat dk_X10_freshen 79 rfl) rfl (to_getR 31 g_c11_21 (dat dk_X10_freshen 80 rfl) (Ih56.atS rfl) (Ih56.atE rfl) (to_iload_n (dat dk_X10_freshen 81 rfl) rfl ?_)))
                    obtain ⟨x72, ex72⟩ : ∃ y : Int, h56.2.2 31 (Int.toNat y55) = y := ⟨_, rfl⟩
                    have rx72 := Ih56.atR (a := 31) (j := Int.toNat y55) rfl
                    rw [ex72] at rx72
                    refine to_ialdv ex72 (dat dk_X10_freshen 82 rfl) (Ih56.atS rfl) rfl (by decide) (by omega) ?_
                    refine to_cI ca_c11_61 (dat dk_X10_freshen 83 rfl) (ct_X10_rootOf l h56 Ih56 x72 (by omega)) rfl ⟨_, _, rfl, (Ih56.atS rfl)⟩ rfl (fun x73 h74 rx73 p75 => ?_)
                    subst p75
                    refine to_istore_n (L' := [(0, .inr (.inr 27)), (1, .inl y55), (2, .inl x73)]) (dat dk_X10_freshen 84 rfl) (by decide) rfl (to_iload_n (dat dk_X10_freshen 85 rfl) rfl ?_)
                    refine to_cI ca_c11_65 (dat dk_X10_freshen 86 rfl) (ct_X10_isNode l h56 Ih56 x73 rx73) rfl trivial rfl (fun x76 h77 rx76 p78 => ?_)
                    obtain ⟨rfl, zx76, p78_0⟩ := p78
                    refine to_ifeq 193 (dat dk_X10_freshen 87 rfl) rfl rx76 (fun c79 => ?_) (fun c79 => ?_)
                    · skip
                      refine to_iinc (L' := [(0, .inr (.inr 27)), (1, .inl (y55 + 1)), (2, .inl x73)]) (dat dk_X10_freshen 104 rfl) rfl (by decide) rfl (to_goto (dat dk_X10_freshen 105 rfl) rfl ?_)
                      refine to_pick [0, 1] rfl ?_
                      exact ihn58 (n58 - 1) (by omega) (y55 + 1) h56 (by omega) Ih56 fh56 (show 0 ≤ (y55 + 1) by omega) (show 60 - (y55 + 1) ≤ ((n58 - 1 : Nat) : Int) by omega)
                    · skip
                      refine to_aload_n (dat dk_X10_freshen 88 rfl) rfl (to_getR 30 g_c11_18 (dat dk_X10_freshen 89 rfl) (Ih56.atS rfl) (Ih56.atE rfl) (to_iload_n (dat dk_X10_freshen 90 rfl) rfl ?_))
                      obtain ⟨x80, ex80⟩ : ∃ y : Int, h56.2.2 30 (Int.toNat x73) = y := ⟨_, rfl⟩
                      have rx80 := Ih56.atR (a := 30) (j := Int.toNat x73) rfl
                      rw [ex80] at rx80
                      refine to_ialdv ex80 (dat dk_X10_freshen 91 rfl) (Ih56.atS rfl) rfl (by decide) (by omega) (to_iconst (dat dk_X10_freshen 92 rfl) ?_)
                      refine to_ine 193 (dat dk_X10_freshen 93 rfl) rfl (by omega) (by decide) (fun c81 => ?_) (fun c81 => ?_)
                      · skip
                        refine to_iinc (L' := [(0, .inr (.inr 27)), (1, .inl (y55 + 1)), (2, .inl x73)]) (dat dk_X10_freshen 104 rfl) rfl (by decide) rfl (to_goto (dat dk_X10_freshen 105 rfl) rfl ?_)
                        refine to_pick [0, 1] rfl ?_
                        exact ihn58 (n58 - 1) (by omega) (y55 + 1) h56 (by omega) Ih56 fh56 (show 0 ≤ (y55 + 1) by omega) (show 60 - (y55 + 1) ≤ ((n58 - 1 : Nat) : Int) by omega)
                      · skip
                        refine to_aload_n (dat dk_X10_freshen 94 rfl) rfl (to_getR 30 g_c11_18 (dat dk_X10_freshen 95 rfl) (Ih56.atS rfl) (Ih56.atE rfl) (to_iload_n (dat dk_X10_freshen 96 rfl) rfl (to_aload_n (dat dk_X10_freshen 97 rfl) rfl (to_getR 26 g_c11_24 (dat dk_X10_freshen 98 rfl) (Ih56.atS rfl) (Ih56.atE rfl) (to_iload_n (dat dk_X10_freshen 99 rfl) rfl ?_)))))
                        refine to_cR ca_c11_47 (dat dk_X10_freshen 100 rfl) (ct_Jx4a65c_get_915e3 l h56 Ih56 y55 ry55 (show 0 ≤ y55 ∧ y55 < h56.2.2 26 2 by omega)) rfl ⟨_, _, rfl, (Ih56.atS rfl)⟩ rfl (fun x82 h83 p84 => ?_)
                        obtain ⟨rfl, p84_0⟩ := p84
                        refine to_castM (C := RX6) (T := TX6) (N := 8) (ci := 5) rfl (tin 2 205 (by decide +kernel) rfl) (dat dk_X10_freshen 101 rfl) p84_0.1 ?_
                        obtain ⟨x85, ex85⟩ : ∃ y : Int, h56.2.2 x82 0 = y := ⟨_, rfl⟩
                        have rx85 := full.f0 Ih56 p84_0
                        rw [ex85] at rx85
                        refine to_getIv (y := x85) ex85 g_c11_69 (dat dk_X10_freshen 102 rfl) p84_0.1 (to_iastw (dat dk_X10_freshen 103 rfl) (Ih56.atS rfl) rfl (by decide) (by omega) ?_)
                        intro h88 wh88
                        have I86 : Inv h88 := by rw [wh88]; exact Ih56.put (a := 30) (j := (Int.toNat x73)) (x := x85) (-2147483648) (2147483647) rfl rfl (show (-2147483648 : Int) ≤ x85 ∧ x85 ≤ 2147483647 by omega)
                        have f87 : Fr [27, 28, 29, 30, 31] h h88 := by rw [wh88]; exact Fr.putF (a := 30) (j := (Int.toNat x73)) (x := x85) fh56 rfl
                        have d89 : full h88 x82 := by rw [wh88]; exact full.putF Ih56 (by decide) p84_0
                        refine to_iinc (L' := [(0, .inr (.inr 27)), (1, .inl (y55 + 1)), (2, .inl x73)]) (dat dk_X10_freshen 104 rfl) rfl (by decide) rfl (to_goto (dat dk_X10_freshen 105 rfl) rfl ?_)
                        refine to_pick [0, 1] rfl ?_
                        exact ihn58 (n58 - 1) (by omega) (y55 + 1) h88 (by omega) I86 f87 (show 0 ≤ (y55 + 1) by omega) (show 60 - (y55 + 1) ≤ ((n58 - 1 : Nat) : Int) by omega)
              exact lp128_n58 (60 - (0 : Int)).toNat 0 h10 (by decide) Ih10 fh10 (show 0 ≤ (0 : Int) by omega) (by omega)
            · skip
              refine to_aload_n (dat dk_X10_freshen 43 rfl) rfl (to_getR 31 g_c11_21 (dat dk_X10_freshen 44 rfl) (Ih10.atS rfl) (Ih10.atE rfl) (to_iload_n (dat dk_X10_freshen 45 rfl) rfl (to_aload_n (dat dk_X10_freshen 46 rfl) rfl (to_aload_n (dat dk_X10_freshen 47 rfl) rfl (to_getR 26 g_c11_24 (dat dk_X10_freshen 48 rfl) (Ih10.atS rfl) (Ih10.atE rfl) (to_iload_n (dat dk_X10_freshen 49 rfl) rfl ?_))))))
              refine to_cR ca_c11_47 (dat dk_X10_freshen 50 rfl) (ct_Jx4a65c_get_915e3 l h10 Ih10 y9 ry9 (show 0 ≤ y9 ∧ y9 < h10.2.2 26 2 by omega)) rfl ⟨_, _, rfl, (Ih10.atS rfl)⟩ rfl (fun x90 h91 p92 => ?_)
              obtain ⟨rfl, p92_0⟩ := p92
              refine to_castM (C := RX6) (T := TX6) (N := 8) (ci := 5) rfl (tin 2 205 (by decide +kernel) rfl) (dat dk_X10_freshen 51 rfl) p92_0.1 (to_iload_n (dat dk_X10_freshen 52 rfl) rfl ?_)
              refine to_cI ca_c11_53 (dat dk_X10_freshen 53 rfl) (ct_X10_nodeOf l h10 Ih10 x90 p92_0 y9 ry9 (show 0 ≤ y9 ∧ y9 ≤ 59 by omega)) rfl ⟨_, _, rfl, (Ih10.atS rfl)⟩ rfl (fun x93 h94 rx93 p95 => ?_)
              obtain ⟨Ih94, fh94⟩ := p95
              have f96 : Fr [27, 28, 29, 30, 31] h h94 := Fr.sub fh10 fh94 rfl
              have d97 := full.fr fh94 rfl Ih10 p92_0
              refine to_iastw (dat dk_X10_freshen 54 rfl) (Ih94.atS rfl) rfl (by decide) (by omega) ?_
              intro h100 wh100
              have I98 : Inv h100 := by rw [wh100]; exact Ih94.put (a := 31) (j := (Int.toNat y9)) (x := x93) (-2147483648) (2147483647) rfl rfl (show (-2147483648 : Int) ≤ x93 ∧ x93 ≤ 2147483647 by omega)
              have f99 : Fr [27, 28, 29, 30, 31] h h100 := by rw [wh100]; exact Fr.putF (a := 31) (j := (Int.toNat y9)) (x := x93) f96 rfl
              have d101 : full h100 x90 := by rw [wh100]; exact full.putF Ih94 (by decide) d97
              refine to_aload_n (dat dk_X10_freshen 55 rfl) rfl (to_aload_n (dat dk_X10_freshen 56 rfl) rfl (to_getR 26 g_c11_24 (dat dk_X10_freshen 57 rfl) (I98.atS rfl) (I98.atE rfl) (to_iload_n (dat dk_X10_freshen 58 rfl) rfl ?_)))
              have e102 : h100.2.2 26 2 = x14 := (by rw [wh100]; exact (show h94.2.2 26 2 = x14 from ((Fr.get fh94 (by have := Ih10.1.1; omega) rfl).trans ex14)))
              refine to_cR ca_c11_47 (dat dk_X10_freshen 59 rfl) (ct_Jx4a65c_get_915e3 l h100 I98 y9 ry9 (show 0 ≤ y9 ∧ y9 < h100.2.2 26 2 by omega)) rfl ⟨_, _, rfl, (I98.atS rfl)⟩ rfl (fun x103 h104 p105 => ?_)
              obtain ⟨rfl, p105_0⟩ := p105
              refine to_castM (C := RX6) (T := TX6) (N := 8) (ci := 5) rfl (tin 2 205 (by decide +kernel) rfl) (dat dk_X10_freshen 60 rfl) p105_0.1 (to_aload_n (dat dk_X10_freshen 61 rfl) rfl (to_getR 31 g_c11_21 (dat dk_X10_freshen 62 rfl) (I98.atS rfl) (I98.atE rfl) (to_iload_n (dat dk_X10_freshen 63 rfl) rfl ?_)))
              obtain ⟨x106, ex106⟩ : ∃ y : Int, h100.2.2 31 (Int.toNat y9) = y := ⟨_, rfl⟩
              have rx106 := I98.atR (a := 31) (j := Int.toNat y9) rfl
              rw [ex106] at rx106
              refine to_ialdv ex106 (dat dk_X10_freshen 64 rfl) (I98.atS rfl) rfl (by decide) (by omega) ?_
              refine to_cV ca_c11_57 (dat dk_X10_freshen 65 rfl) (ct_X10_hangMessage l h100 I98 x103 p105_0 x106 (by omega)) rfl ⟨_, _, rfl, (I98.atS rfl)⟩ rfl (fun h108 p109 => ?_)
              obtain ⟨Ih108, fh108⟩ := p109
              have f110 : Fr [27, 28, 29, 30, 31] h h108 := Fr.sub f99 fh108 rfl
              have d111 := full.fr fh108 rfl I98 d101
              have d112 := full.fr fh108 rfl I98 p105_0
              refine to_iinc (L' := [(0, .inr (.inr 27)), (1, .inl (y9 + 1))]) (dat dk_X10_freshen 66 rfl) rfl (by decide) rfl (to_goto (dat dk_X10_freshen 67 rfl) rfl ?_)
              exact ihn12 (n12 - 1) (by omega) (y9 + 1) h108 (by omega) Ih108 f110 (show 0 ≤ (y9 + 1) by omega) (show 60 - (y9 + 1) ≤ ((n12 - 1 : Nat) : Int) by omega)
        exact lp60_n12 (60 - (0 : Int)).toNat 0 h4 (by decide) Ih4 fh4 (show 0 ≤ (0 : Int) by omega) (by omega)
      · skip
        refine to_iload_n (dat dk_X10_freshen 9 rfl) rfl (to_aload_n (dat dk_X10_freshen 10 rfl) rfl (to_getR 14 g_c11_28 (dat dk_X10_freshen 11 rfl) (Ih4.atS rfl) (Ih4.atE rfl) ?_))
        obtain ⟨x113, ex113⟩ : ∃ y : Int, h4.2.2 14 5 = y := ⟨_, rfl⟩
        have rx113 := Ih4.atR (a := 14) (j := 5) rfl
        rw [ex113] at rx113
        refine to_cI ca_c11_36 (dat dk_X10_freshen 12 rfl) (ct_X0_entryCount l h4 Ih4 14 70 rfl) rfl ⟨_, _, rfl, (Ih4.atS rfl)⟩ rfl (fun x114 h115 rx114 p116 => ?_)
        obtain ⟨rfl, p116_0, p116_1⟩ := p116
        refine to_bipush (dat dk_X10_freshen 13 rfl) (by decide) (to_iadd (dat dk_X10_freshen 14 rfl) ?_)
        refine to_ige 58 (dat dk_X10_freshen 15 rfl) rfl ry3 (by omega) (fun c117 => ?_) (fun c117 => ?_)
        · skip
          refine to_iconst (dat dk_X10_freshen 33 rfl) (to_istore_n (L' := [(0, .inr (.inr 27)), (1, .inl 0)]) (dat dk_X10_freshen 34 rfl) (by decide) rfl ?_)
          have lp60_n121 : ∀ (n121 : Nat) (y118 : Int) (h119 : Hp), (I32 y118) → (Inv h119) → (Fr [27, 28, 29, 30, 31] h h119) → (0 ≤ y118) → (60 - y118 ≤ (n121 : Int)) → To l E_X10_freshen (60, [(0, .inr (.inr 27)), (1, .inl y118)], [], h119, 0, 0) (Q_X10_freshen h) := by
            intro n121
            induction n121 using Nat.strongRecOn with
            | _ n121 ihn121 =>
            intro y118 h119 ry118 Ih119 fh119 c120 c122
            refine to_iload_n (dat dk_X10_freshen 35 rfl) rfl (to_aload_n (dat dk_X10_freshen 36 rfl) rfl (to_getR 26 g_c11_24 (dat dk_X10_freshen 37 rfl) (Ih119.atS rfl) (Ih119.atE rfl) ?_))
            obtain ⟨x123, ex123⟩ : ∃ y : Int, h119.2.2 26 2 = y := ⟨_, rfl⟩
            have rx123 := Ih119.atR (a := 26) (j := 2) rfl
            rw [ex123] at rx123
            refine to_cI ca_c11_42 (dat dk_X10_freshen 38 rfl) (ct_Jx4a65c_size_8abf5 l h119 Ih119 ) rfl ⟨_, _, rfl, (Ih119.atS rfl)⟩ rfl (fun x124 h125 rx124 p126 => ?_)
            obtain ⟨rfl, p126_0, p126_1⟩ := p126
            refine to_ige 126 (dat dk_X10_freshen 39 rfl) rfl ry118 rx124 (fun c127 => ?_) (fun c127 => ?_)
            · skip
              refine to_iconst (dat dk_X10_freshen 68 rfl) (to_istore_n (L' := [(0, .inr (.inr 27)), (1, .inl 0)]) (dat dk_X10_freshen 69 rfl) (by decide) rfl ?_)
              have lp128_n131 : ∀ (n131 : Nat) (y128 : Int) (h129 : Hp), (I32 y128) → (Inv h129) → (Fr [27, 28, 29, 30, 31] h h129) → (0 ≤ y128) → (60 - y128 ≤ (n131 : Int)) → To l E_X10_freshen (128, [(0, .inr (.inr 27)), (1, .inl y128)], [], h129, 0, 0) (Q_X10_freshen h) := by
                intro n131
                induction n131 using Nat.strongRecOn with
                | _ n131 ihn131 =>
                intro y128 h129 ry128 Ih129 fh129 c130 c132
                refine to_iload_n (dat dk_X10_freshen 70 rfl) rfl (to_aload_n (dat dk_X10_freshen 71 rfl) rfl (to_getR 26 g_c11_24 (dat dk_X10_freshen 72 rfl) (Ih129.atS rfl) (Ih129.atE rfl) ?_))
                obtain ⟨x133, ex133⟩ : ∃ y : Int, h129.2.2 26 2 = y := ⟨_, rfl⟩
                have rx133 := Ih129.atR (a := 26) (j := 2) rfl
                rw [ex133] at rx133
                refine to_cI ca_c11_42 (dat dk_X10_freshen 73 rfl) (ct_Jx4a65c_size_8abf5 l h129 Ih129 ) rfl ⟨_, _, rfl, (Ih129.atS rfl)⟩ rfl (fun x134 h135 rx134 p136 => ?_)
                obtain ⟨rfl, p136_0, p136_1⟩ := p136
                refine to_ige 199 (dat dk_X10_freshen 74 rfl) rfl ry128 rx134 (fun c137 => ?_) (fun c137 => ?_)
                · skip
                  refine to_aload_n (dat dk_X10_freshen 106 rfl) rfl (to_iconst (dat dk_X10_freshen 107 rfl) (to_putZw p_c11_32 (dat dk_X10_freshen 108 rfl) (Ih129.atS rfl) (by decide) ?_))
                  intro h140 wh140
                  have I138 : Inv h140 := by rw [wh140]; exact Ih129.put (a := 27) (j := 6) (x := 1) (0) (1) rfl rfl (show (0 : Int) ≤ 1 ∧ 1 ≤ 1 by decide)
                  have f139 : Fr [27, 28, 29, 30, 31] h h140 := by rw [wh140]; exact Fr.putF (a := 27) (j := 6) (x := 1) fh129 rfl
                  exact to_vret rfl (dat dk_X10_freshen 109 rfl) (rv_mk ⟨I138, f139⟩)
                · skip
                  refine to_iload_n (dat dk_X10_freshen 75 rfl) rfl (to_bipush (dat dk_X10_freshen 76 rfl) (by decide) ?_)
                  refine to_ige 199 (dat dk_X10_freshen 77 rfl) rfl ry128 (by decide) (fun c141 => ?_) (fun c141 => ?_)
                  · skip
                    refine to_aload_n (dat dk_X10_freshen 106 rfl) rfl (to_iconst (dat dk_X10_freshen 107 rfl) (to_putZw p_c11_32 (dat dk_X10_freshen 108 rfl) (Ih129.atS rfl) (by decide) ?_))
                    intro h144 wh144
                    have I142 : Inv h144 := by rw [wh144]; exact Ih129.put (a := 27) (j := 6) (x := 1) (0) (1) rfl rfl (show (0 : Int) ≤ 1 ∧ 1 ≤ 1 by decide)
                    have f143 : Fr [27, 28, 29, 30, 31] h h144 := by rw [wh144]; exact Fr.putF (a := 27) (j := 6) (x := 1) fh129 rfl
                    exact to_vret rfl (dat dk_X10_freshen 109 rfl) (rv_mk ⟨I142, f143⟩)
                  · skip
                    refine to_aload_n (dat dk_X10_freshen 78 rfl) rfl (to_aload_n (dat dk_X10_freshen 79 rfl) rfl (to_getR 31 g_c11_21 (dat dk_X10_freshen 80 rfl) (Ih129.atS rfl) (Ih129.atE rfl) (to_iload_n (dat dk_X10_freshen 81 rfl) rfl ?_)))
                    obtain ⟨x145, ex145⟩ : ∃ y : Int, h129.2.2 31 (Int.toNat y128) = y := ⟨_, rfl⟩
                    have rx145 := Ih129.atR (a := 31) (j := Int.toNat y128) rfl
                    rw [ex145] at rx145
                    refine to_ialdv ex145 (dat dk_X10_freshen 82 rfl) (Ih129.atS rfl) rfl (by decide) (by omega) ?_
                    refine to_cI ca_c11_61 (dat dk_X10_freshen 83 rfl) (ct_X10_rootOf l h129 Ih129 x145 (by omega)) rfl ⟨_, _, rfl, (Ih129.atS rfl)⟩ rfl (fun x146 h147 rx146 p148 => ?_)
                    subst p148
                    refine to_istore_n (L' := [(0, .inr (.inr 27)), (1, .inl y128), (2, .inl x146)]) (dat dk_X10_freshen 84 rfl) (by decide) rfl (to_iload_n (dat dk_X10_freshen 85 rfl) rfl ?_)
                    refine to_cI ca_c11_65 (dat dk_X10_freshen 86 rfl) (ct_X10_isNode l h129 Ih129 x146 rx146) rfl trivial rfl (fun x149 h150 rx149 p151 => ?_)
                    obtain ⟨rfl, zx149, p151_0⟩ := p151
                    refine to_ifeq 193 (dat dk_X10_freshen 87 rfl) rfl rx149 (fun c152 => ?_) (fun c152 => ?_)
                    · skip
                      refine to_iinc (L' := [(0, .inr (.inr 27)), (1, .inl (y128 + 1)), (2, .inl x146)]) (dat dk_X10_freshen 104 rfl) rfl (by decide) rfl (to_goto (dat dk_X10_freshen 105 rfl) rfl ?_)
                      refine to_pick [0, 1] rfl ?_
                      exact ihn131 (n131 - 1) (by omega) (y128 + 1) h129 (by omega) Ih129 fh129 (show 0 ≤ (y128 + 1) by omega) (show 60 - (y128 + 1) ≤ ((n131 - 1 : Nat) : Int) by omega)
                    · skip
                      refine to_aload_n (dat dk_X10_freshen 88 rfl) rfl (to_getR 30 g_c11_18 (dat dk_X10_freshen 89 rfl) (Ih129.atS rfl) (Ih129.atE rfl) (to_iload_n (dat dk_X10_freshen 90 rfl) rfl ?_))
                      obtain ⟨x153, ex153⟩ : ∃ y : Int, h129.2.2 30 (Int.toNat x146) = y := ⟨_, rfl⟩
                      have rx153 := Ih129.atR (a := 30) (j := Int.toNat x146) rfl
                      rw [ex153] at rx153
                      refine to_ialdv ex153 (dat dk_X10_freshen 91 rfl) (Ih129.atS rfl) rfl (by decide) (by omega) (to_iconst (dat dk_X10_freshen 92 rfl) ?_)
                      refine to_ine 193 (dat dk_X10_freshen 93 rfl) rfl (by omega) (by decide) (fun c154 => ?_) (fun c154 => ?_)
                      · skip
                        refine to_iinc (L' := [(0, .inr (.inr 27)), (1, .inl (y128 + 1)), (2, .inl x146)]) (dat dk_X10_freshen 104 rfl) rfl (by decide) rfl (to_goto (dat dk_X10_freshen 105 rfl) rfl ?_)
                        refine to_pick [0, 1] rfl ?_
                        exact ihn131 (n131 - 1) (by omega) (y128 + 1) h129 (by omega) Ih129 fh129 (show 0 ≤ (y128 + 1) by omega) (show 60 - (y128 + 1) ≤ ((n131 - 1 : Nat) : Int) by omega)
                      · skip
                        refine to_aload_n (dat dk_X10_freshen 94 rfl) rfl (to_getR 30 g_c11_18 (dat dk_X10_freshen 95 rfl) (Ih129.atS rfl) (Ih129.atE rfl) (to_iload_n (dat dk_X10_freshen 96 rfl) rfl (to_aload_n (dat dk_X10_freshen 97 rfl) rfl (to_getR 26 g_c11_24 (dat dk_X10_freshen 98 rfl) (Ih129.atS rfl) (Ih129.atE rfl) (to_iload_n (dat dk_X10_freshen 99 rfl) rfl ?_)))))
                        refine to_cR ca_c11_47 (dat dk_X10_freshen 100 rfl) (ct_Jx4a65c_get_915e3 l h129 Ih129 y128 ry128 (show 0 ≤ y128 ∧ y128 < h129.2.2 26 2 by omega)) rfl ⟨_, _, rfl, (Ih129.atS rfl)⟩ rfl (fun x155 h156 p157 => ?_)
                        obtain ⟨rfl, p157_0⟩ := p157
                        refine to_castM (C := RX6) (T := TX6) (N := 8) (ci := 5) rfl (tin 2 205 (by decide +kernel) rfl) (dat dk_X10_freshen 101 rfl) p157_0.1 ?_
                        obtain ⟨x158, ex158⟩ : ∃ y : Int, h129.2.2 x155 0 = y := ⟨_, rfl⟩
                        have rx158 := full.f0 Ih129 p157_0
                        rw [ex158] at rx158
                        refine to_getIv (y := x158) ex158 g_c11_69 (dat dk_X10_freshen 102 rfl) p157_0.1 (to_iastw (dat dk_X10_freshen 103 rfl) (Ih129.atS rfl) rfl (by decide) (by omega) ?_)
                        intro h161 wh161
                        have I159 : Inv h161 := by rw [wh161]; exact Ih129.put (a := 30) (j := (Int.toNat x146)) (x := x158) (-2147483648) (2147483647) rfl rfl (show (-2147483648 : Int) ≤ x158 ∧ x158 ≤ 2147483647 by omega)
                        have f160 : Fr [27, 28, 29, 30, 31] h h161 := by rw [wh161]; exact Fr.putF (a := 30) (j := (Int.toNat x146)) (x := x158) fh129 rfl
                        have d162 : full h161 x155 := by rw [wh161]; exact full.putF Ih129 (by decide) p157_0
                        refine to_iinc (L' := [(0, .inr (.inr 27)), (1, .inl (y128 + 1)), (2, .inl x146)]) (dat dk_X10_freshen 104 rfl) rfl (by decide) rfl (to_goto (dat dk_X10_freshen 105 rfl) rfl ?_)
                        refine to_pick [0, 1] rfl ?_
                        exact ihn131 (n131 - 1) (by omega) (y128 + 1) h161 (by omega) I159 f160 (show 0 ≤ (y128 + 1) by omega) (show 60 - (y128 + 1) ≤ ((n131 - 1 : Nat) : Int) by omega)
              exact lp128_n131 (60 - (0 : Int)).toNat 0 h119 (by decide) Ih119 fh119 (show 0 ≤ (0 : Int) by omega) (by omega)
            · skip
              refine to_iload_n (dat dk_X10_freshen 40 rfl) rfl (to_bipush (dat dk_X10_freshen 41 rfl) (by decide) ?_)
              refine to_ige 126 (dat dk_X10_freshen 42 rfl) rfl ry118 (by decide) (fun c163 => ?_) (fun c163 => ?_)
              · skip
                refine to_iconst (dat dk_X10_freshen 68 rfl) (to_istore_n (L' := [(0, .inr (.inr 27)), (1, .inl 0)]) (dat dk_X10_freshen 69 rfl) (by decide) rfl ?_)
                have lp128_n167 : ∀ (n167 : Nat) (y164 : Int) (h165 : Hp), (I32 y164) → (Inv h165) → (Fr [27, 28, 29, 30, 31] h h165) → (0 ≤ y164) → (60 - y164 ≤ (n167 : Int)) → To l E_X10_freshen (128, [(0, .inr (.inr 27)), (1, .inl y164)], [], h165, 0, 0) (Q_X10_freshen h) := by
                  intro n167
                  induction n167 using Nat.strongRecOn with
                  | _ n167 ihn167 =>
                  intro y164 h165 ry164 Ih165 fh165 c166 c168
                  refine to_iload_n (dat dk_X10_freshen 70 rfl) rfl (to_aload_n (dat dk_X10_freshen 71 rfl) rfl (to_getR 26 g_c11_24 (dat dk_X10_freshen 72 rfl) (Ih165.atS rfl) (Ih165.atE rfl) ?_))
                  obtain ⟨x169, ex169⟩ : ∃ y : Int, h165.2.2 26 2 = y := ⟨_, rfl⟩
                  have rx169 := Ih165.atR (a := 26) (j := 2) rfl
                  rw [ex169] at rx169
                  refine to_cI ca_c11_42 (dat dk_X10_freshen 73 rfl) (ct_Jx4a65c_size_8abf5 l h165 Ih165 ) rfl ⟨_, _, rfl, (Ih165.atS rfl)⟩ rfl (fun x170 h171 rx170 p172 => ?_)
                  obtain ⟨rfl, p172_0, p172_1⟩ := p172
                  refine to_ige 199 (dat dk_X10_freshen 74 rfl) rfl ry164 rx170 (fun c173 => ?_) (fun c173 => ?_)
                  · skip
                    refine to_aload_n (dat dk_X10_freshen 106 rfl) rfl (to_iconst (dat dk_X10_freshen 107 rfl) (to_putZw p_c11_32 (dat dk_X10_freshen 108 rfl) (Ih165.atS rfl) (by decide) ?_))
                    intro h176 wh176
                    have I174 : Inv h176 := by rw [wh176]; exact Ih165.put (a := 27) (j := 6) (x := 1) (0) (1) rfl rfl (show (0 : Int) ≤ 1 ∧ 1 ≤ 1 by decide)
                    have f175 : Fr [27, 28, 29, 30, 31] h h176 := by rw [wh176]; exact Fr.putF (a := 27) (j := 6) (x := 1) fh165 rfl
                    exact to_vret rfl (dat dk_X10_freshen 109 rfl) (rv_mk ⟨I174, f175⟩)
                  · skip
                    refine to_iload_n (dat dk_X10_freshen 75 rfl) rfl (to_bipush (dat dk_X10_freshen 76 rfl) (by decide) ?_)
                    refine to_ige 199 (dat dk_X10_freshen 77 rfl) rfl ry164 (by decide) (fun c177 => ?_) (fun c177 => ?_)
                    · skip
                      refine to_aload_n (dat dk_X10_freshen 106 rfl) rfl (to_iconst (dat dk_X10_freshen 107 rfl) (to_putZw p_c11_32 (dat dk_X10_freshen 108 rfl) (Ih165.atS rfl) (by decide) ?_))
                      intro h180 wh180
                      have I178 : Inv h180 := by rw [wh180]; exact Ih165.put (a := 27) (j := 6) (x := 1) (0) (1) rfl rfl (show (0 : Int) ≤ 1 ∧ 1 ≤ 1 by decide)
                      have f179 : Fr [27, 28, 29, 30, 31] h h180 := by rw [wh180]; exact Fr.putF (a := 27) (j := 6) (x := 1) fh165 rfl
                      exact to_vret rfl (dat dk_X10_freshen 109 rfl) (rv_mk ⟨I178, f179⟩)
                    · skip
                      refine to_aload_n (dat dk_X10_freshen 78 rfl) rfl (to_aload_n (dat dk_X10_freshen 79 rfl) rfl (to_getR 31 g_c11_21 (dat dk_X10_freshen 80 rfl) (Ih165.atS rfl) (Ih165.atE rfl) (to_iload_n (dat dk_X10_freshen 81 rfl) rfl ?_)))
                      obtain ⟨x181, ex181⟩ : ∃ y : Int, h165.2.2 31 (Int.toNat y164) = y := ⟨_, rfl⟩
                      have rx181 := Ih165.atR (a := 31) (j := Int.toNat y164) rfl
                      rw [ex181] at rx181
                      refine to_ialdv ex181 (dat dk_X10_freshen 82 rfl) (Ih165.atS rfl) rfl (by decide) (by omega) ?_
                      refine to_cI ca_c11_61 (dat dk_X10_freshen 83 rfl) (ct_X10_rootOf l h165 Ih165 x181 (by omega)) rfl ⟨_, _, rfl, (Ih165.atS rfl)⟩ rfl (fun x182 h183 rx182 p184 => ?_)
                      subst p184
                      refine to_istore_n (L' := [(0, .inr (.inr 27)), (1, .inl y164), (2, .inl x182)]) (dat dk_X10_freshen 84 rfl) (by decide) rfl (to_iload_n (dat dk_X10_freshen 85 rfl) rfl ?_)
                      refine to_cI ca_c11_65 (dat dk_X10_freshen 86 rfl) (ct_X10_isNode l h165 Ih165 x182 rx182) rfl trivial rfl (fun x185 h186 rx185 p187 => ?_)
                      obtain ⟨rfl, zx185, p187_0⟩ := p187
                      refine to_ifeq 193 (dat dk_X10_freshen 87 rfl) rfl rx185 (fun c188 => ?_) (fun c188 => ?_)
                      · skip
                        refine to_iinc (L' := [(0, .inr (.inr 27)), (1, .inl (y164 + 1)), (2, .inl x182)]) (dat dk_X10_freshen 104 rfl) rfl (by decide) rfl (to_goto (dat dk_X10_freshen 105 rfl) rfl ?_)
                        refine to_pick [0, 1] rfl ?_
                        exact ihn167 (n167 - 1) (by omega) (y164 + 1) h165 (by omega) Ih165 fh165 (show 0 ≤ (y164 + 1) by omega) (show 60 - (y164 + 1) ≤ ((n167 - 1 : Nat) : Int) by omega)
                      · skip
                        refine to_aload_n (dat dk_X10_freshen 88 rfl) rfl (to_getR 30 g_c11_18 (dat dk_X10_freshen 89 rfl) (Ih165.atS rfl) (Ih165.atE rfl) (to_iload_n (dat dk_X10_freshen 90 rfl) rfl ?_))
                        obtain ⟨x189, ex189⟩ : ∃ y : Int, h165.2.2 30 (Int.toNat x182) = y := ⟨_, rfl⟩
                        have rx189 := Ih165.atR (a := 30) (j := Int.toNat x182) rfl
                        rw [ex189] at rx189
                        refine to_ialdv ex189 (dat dk_X10_freshen 91 rfl) (Ih165.atS rfl) rfl (by decide) (by omega) (to_iconst (dat dk_X10_freshen 92 rfl) ?_)
                        refine to_ine 193 (dat dk_X10_freshen 93 rfl) rfl (by omega) (by decide) (fun c190 => ?_) (fun c190 => ?_)
                        · skip
                          refine to_iinc (L' := [(0, .inr (.inr 27)), (1, .inl (y164 + 1)), (2, .inl x182)]) (dat dk_X10_freshen 104 rfl) rfl (by decide) rfl (to_goto (dat dk_X10_freshen 105 rfl) rfl ?_)
                          refine to_pick [0, 1] rfl ?_
                          exact ihn167 (n167 - 1) (by omega) (y164 + 1) h165 (by omega) Ih165 fh165 (show 0 ≤ (y164 + 1) by omega) (show 60 - (y164 + 1) ≤ ((n167 - 1 : Nat) : Int) by omega)
                        · skip
                          refine to_aload_n (dat dk_X10_freshen 94 rfl) rfl (to_getR 30 g_c11_18 (dat dk_X10_freshen 95 rfl) (Ih165.atS rfl) (Ih165.atE rfl) (to_iload_n (dat dk_X10_freshen 96 rfl) rfl (to_aload_n (dat dk_X10_freshen 97 rfl) rfl (to_getR 26 g_c11_24 (dat dk_X10_freshen 98 rfl) (Ih165.atS rfl) (Ih165.atE rfl) (to_iload_n (dat dk_X10_freshen 99 rfl) rfl ?_)))))
                          refine to_cR ca_c11_47 (dat dk_X10_freshen 100 rfl) (ct_Jx4a65c_get_915e3 l h165 Ih165 y164 ry164 (show 0 ≤ y164 ∧ y164 < h165.2.2 26 2 by omega)) rfl ⟨_, _, rfl, (Ih165.atS rfl)⟩ rfl (fun x191 h192 p193 => ?_)
                          obtain ⟨rfl, p193_0⟩ := p193
                          refine to_castM (C := RX6) (T := TX6) (N := 8) (ci := 5) rfl (tin 2 205 (by decide +kernel) rfl) (dat dk_X10_freshen 101 rfl) p193_0.1 ?_
                          obtain ⟨x194, ex194⟩ : ∃ y : Int, h165.2.2 x191 0 = y := ⟨_, rfl⟩
                          have rx194 := full.f0 Ih165 p193_0
                          rw [ex194] at rx194
                          refine to_getIv (y := x194) ex194 g_c11_69 (dat dk_X10_freshen 102 rfl) p193_0.1 (to_iastw (dat dk_X10_freshen 103 rfl) (Ih165.atS rfl) rfl (by decide) (by omega) ?_)
                          intro h197 wh197
                          have I195 : Inv h197 := by rw [wh197]; exact Ih165.put (a := 30) (j := (Int.toNat x182)) (x := x194) (-2147483648) (2147483647) rfl rfl (show (-2147483648 : Int) ≤ x194 ∧ x194 ≤ 2147483647 by omega)
                          have f196 : Fr [27, 28, 29, 30, 31] h h197 := by rw [wh197]; exact Fr.putF (a := 30) (j := (Int.toNat x182)) (x := x194) fh165 rfl
                          have d198 : full h197 x191 := by rw [wh197]; exact full.putF Ih165 (by decide) p193_0
                          refine to_iinc (L' := [(0, .inr (.inr 27)), (1, .inl (y164 + 1)), (2, .inl x182)]) (dat dk_X10_freshen 104 rfl) rfl (by decide) rfl (to_goto (dat dk_X10_freshen 105 rfl) rfl ?_)
                          refine to_pick [0, 1] rfl ?_
                          exact ihn167 (n167 - 1) (by omega) (y164 + 1) h197 (by omega) I195 f196 (show 0 ≤ (y164 + 1) by omega) (show 60 - (y164 + 1) ≤ ((n167 - 1 : Nat) : Int) by omega)
                exact lp128_n167 (60 - (0 : Int)).toNat 0 h119 (by decide) Ih119 fh119 (show 0 ≤ (0 : Int) by omega) (by omega)
              · skip
                refine to_aload_n (dat dk_X10_freshen 43 rfl) rfl (to_getR 31 g_c11_21 (dat dk_X10_freshen 44 rfl) (Ih119.atS rfl) (Ih119.atE rfl) (to_iload_n (dat dk_X10_freshen 45 rfl) rfl (to_aload_n (dat dk_X10_freshen 46 rfl) rfl (to_aload_n (dat dk_X10_freshen 47 rfl) rfl (to_getR 26 g_c11_24 (dat dk_X10_freshen 48 rfl) (Ih119.atS rfl) (Ih119.atE rfl) (to_iload_n (dat dk_X10_freshen 49 rfl) rfl ?_))))))
                refine to_cR ca_c11_47 (dat dk_X10_freshen 50 rfl) (ct_Jx4a65c_get_915e3 l h119 Ih119 y118 ry118 (show 0 ≤ y118 ∧ y118 < h119.2.2 26 2 by omega)) rfl ⟨_, _, rfl, (Ih119.atS rfl)⟩ rfl (fun x199 h200 p201 => ?_)
                obtain ⟨rfl, p201_0⟩ := p201
                refine to_castM (C := RX6) (T := TX6) (N := 8) (ci := 5) rfl (tin 2 205 (by decide +kernel) rfl) (dat dk_X10_freshen 51 rfl) p201_0.1 (to_iload_n (dat dk_X10_freshen 52 rfl) rfl ?_)
                refine to_cI ca_c11_53 (dat dk_X10_freshen 53 rfl) (ct_X10_nodeOf l h119 Ih119 x199 p201_0 y118 ry118 (show 0 ≤ y118 ∧ y118 ≤ 59 by omega)) rfl ⟨_, _, rfl, (Ih119.atS rfl)⟩ rfl (fun x202 h203 rx202 p204 => ?_)
                obtain ⟨Ih203, fh203⟩ := p204
                have f205 : Fr [27, 28, 29, 30, 31] h h203 := Fr.sub fh119 fh203 rfl
                have d206 := full.fr fh203 rfl Ih119 p201_0
                refine to_iastw (dat dk_X10_freshen 54 rfl) (Ih203.atS rfl) rfl (by decide) (by omega) ?_
                intro h209 wh209
                have I207 : Inv h209 := by rw [wh209]; exact Ih203.put (a := 31) (j := (Int.toNat y118)) (x := x202) (-2147483648) (2147483647) rfl rfl (show (-2147483648 : Int) ≤ x202 ∧ x202 ≤ 2147483647 by omega)
                have f208 : Fr [27, 28, 29, 30, 31] h h209 := by rw [wh209]; exact Fr.putF (a := 31) (j := (Int.toNat y118)) (x := x202) f205 rfl
                have d210 : full h209 x199 := by rw [wh209]; exact full.putF Ih203 (by decide) d206
                refine to_aload_n (dat dk_X10_freshen 55 rfl) rfl (to_aload_n (dat dk_X10_freshen 56 rfl) rfl (to_getR 26 g_c11_24 (dat dk_X10_freshen 57 rfl) (I207.atS rfl) (I207.atE rfl) (to_iload_n (dat dk_X10_freshen 58 rfl) rfl ?_)))
                have e211 : h209.2.2 26 2 = x123 := (by rw [wh209]; exact (show h203.2.2 26 2 = x123 from ((Fr.get fh203 (by have := Ih119.1.1; omega) rfl).trans ex123)))
                refine to_cR ca_c11_47 (dat dk_X10_freshen 59 rfl) (ct_Jx4a65c_get_915e3 l h209 I207 y118 ry118 (show 0 ≤ y118 ∧ y118 < h209.2.2 26 2 by omega)) rfl ⟨_, _, rfl, (I207.atS rfl)⟩ rfl (fun x212 h213 p214 => ?_)
                obtain ⟨rfl, p214_0⟩ := p214
                refine to_castM (C := RX6) (T := TX6) (N := 8) (ci := 5) rfl (tin 2 205 (by decide +kernel) rfl) (dat dk_X10_freshen 60 rfl) p214_0.1 (to_aload_n (dat dk_X10_freshen 61 rfl) rfl (to_getR 31 g_c11_21 (dat dk_X10_freshen 62 rfl) (I207.atS rfl) (I207.atE rfl) (to_iload_n (dat dk_X10_freshen 63 rfl) rfl ?_)))
                obtain ⟨x215, ex215⟩ : ∃ y : Int, h209.2.2 31 (Int.toNat y118) = y := ⟨_, rfl⟩
                have rx215 := I207.atR (a := 31) (j := Int.toNat y118) rfl
                rw [ex215] at rx215
                refine to_ialdv ex215 (dat dk_X10_freshen 64 rfl) (I207.atS rfl) rfl (by decide) (by omega) ?_
                refine to_cV ca_c11_57 (dat dk_X10_freshen 65 rfl) (ct_X10_hangMessage l h209 I207 x212 p214_0 x215 (by omega)) rfl ⟨_, _, rfl, (I207.atS rfl)⟩ rfl (fun h217 p218 => ?_)
                obtain ⟨Ih217, fh217⟩ := p218
                have f219 : Fr [27, 28, 29, 30, 31] h h217 := Fr.sub f208 fh217 rfl
                have d220 := full.fr fh217 rfl I207 d210
                have d221 := full.fr fh217 rfl I207 p214_0
                refine to_iinc (L' := [(0, .inr (.inr 27)), (1, .inl (y118 + 1))]) (dat dk_X10_freshen 66 rfl) rfl (by decide) rfl (to_goto (dat dk_X10_freshen 67 rfl) rfl ?_)
                exact ihn121 (n121 - 1) (by omega) (y118 + 1) h217 (by omega) Ih217 f219 (show 0 ≤ (y118 + 1) by omega) (show 60 - (y118 + 1) ≤ ((n121 - 1 : Nat) : Int) by omega)
          exact lp60_n121 (60 - (0 : Int)).toNat 0 h4 (by decide) Ih4 fh4 (show 0 ≤ (0 : Int) by omega) (by omega)
        · skip
          refine to_aload_n (dat dk_X10_freshen 16 rfl) rfl (to_getR 28 g_c11_11 (dat dk_X10_freshen 17 rfl) (Ih4.atS rfl) (Ih4.atE rfl) (to_iload_n (dat dk_X10_freshen 18 rfl) rfl (to_iconst (dat dk_X10_freshen 19 rfl) (to_iastw (dat dk_X10_freshen 20 rfl) (Ih4.atS rfl) rfl (by decide) (by omega) ?_))))
          intro h224 wh224
          have I222 : Inv h224 := by rw [wh224]; exact Ih4.put (a := 28) (j := (Int.toNat y3)) (x := (-1)) (-2147483648) (2147483647) rfl rfl (show (-2147483648 : Int) ≤ (-1) ∧ (-1) ≤ 2147483647 by decide)
          have f223 : Fr [27, 28, 29, 30, 31] h h224 := by rw [wh224]; exact Fr.putF (a := 28) (j := (Int.toNat y3)) (x := (-1)) fh4 rfl
          refine to_aload_n (dat dk_X10_freshen 21 rfl) rfl (to_getR 29 g_c11_15 (dat dk_X10_freshen 22 rfl) (I222.atS rfl) (I222.atE rfl) (to_iload_n (dat dk_X10_freshen 23 rfl) rfl (to_iconst (dat dk_X10_freshen 24 rfl) (to_iastw (dat dk_X10_freshen 25 rfl) (I222.atS rfl) rfl (by decide) (by omega) ?_))))
          intro h227 wh227
          have I225 : Inv h227 := by rw [wh227]; exact I222.put (a := 29) (j := (Int.toNat y3)) (x := (-1)) (-2147483648) (2147483647) rfl rfl (show (-2147483648 : Int) ≤ (-1) ∧ (-1) ≤ 2147483647 by decide)
          have f226 : Fr [27, 28, 29, 30, 31] h h227 := by rw [wh227]; exact Fr.putF (a := 29) (j := (Int.toNat y3)) (x := (-1)) f223 rfl
          refine to_aload_n (dat dk_X10_freshen 26 rfl) rfl (to_getR 30 g_c11_18 (dat dk_X10_freshen 27 rfl) (I225.atS rfl) (I225.atE rfl) (to_iload_n (dat dk_X10_freshen 28 rfl) rfl (to_iconst (dat dk_X10_freshen 29 rfl) (to_iastw (dat dk_X10_freshen 30 rfl) (I225.atS rfl) rfl (by decide) (by omega) ?_))))
          intro h230 wh230
          have I228 : Inv h230 := by rw [wh230]; exact I225.put (a := 30) (j := (Int.toNat y3)) (x := (-1)) (-2147483648) (2147483647) rfl rfl (show (-2147483648 : Int) ≤ (-1) ∧ (-1) ≤ 2147483647 by decide)
          have f229 : Fr [27, 28, 29, 30, 31] h h230 := by rw [wh230]; exact Fr.putF (a := 30) (j := (Int.toNat y3)) (x := (-1)) f226 rfl
          refine to_iinc (L' := [(0, .inr (.inr 27)), (1, .inl (y3 + 1))]) (dat dk_X10_freshen 31 rfl) rfl (by decide) rfl (to_goto (dat dk_X10_freshen 32 rfl) rfl ?_)
          exact ihn6 (n6 - 1) (by omega) (y3 + 1) h230 (by omega) I228 f229 (show 0 ≤ (y3 + 1) by omega) (show 3460 - (y3 + 1) ≤ ((n6 - 1 : Nat) : Int) by omega)
    exact lp10_n6 (3460 - (0 : Int)).toNat 0 h (by decide) hI (Fr.rf _ _) (show 0 ≤ (0 : Int) by omega) (by omega)
  · skip
    exact to_vret rfl (dat dk_X10_freshen 3 rfl) (rv_mk ⟨hI, (Fr.rf _ _)⟩)
abbrev Q_X10_threadOf (h : Hp) (p : Int) : Option V → Hp → Nat → Nat → Prop := RI (fun x H => h = H)
set_option maxRecDepth 100000 in
theorem ct_X10_threadOf (l : Launch) (h : Hp) (hI : Inv h) (p : Int) (hp : I32 p) : Ct l D_X10_threadOf 3 64 [.inr (.inr 27), .inl p] h (Q_X10_threadOf h p) := by
  refine ct_of pn_X10_threadOf (Nat.le_of_ble_eq_true rfl) ?_
  show To l E_X10_threadOf (0, [(0, .inr (.inr 27)), (1, .inl p)], [], h, 0, 0) _
  refine to_aload_n (dat dk_X10_threadOf 0 rfl) rfl (to_aload_n (dat dk_X10_threadOf 1 rfl) rfl (to_iload_n (dat dk_X10_threadOf 2 rfl) rfl ?_))
  refine to_cI ca_c11_73 (dat dk_X10_threadOf 3 rfl) (ct_X10_nodeAt l h hI p hp) rfl ⟨_, _, rfl, (hI.atS rfl)⟩ rfl (fun x1 h2 rx1 p3 => ?_)
  subst p3
  refine to_cI ca_c11_61 (dat dk_X10_threadOf 4 rfl) (ct_X10_rootOf l h hI x1 rx1) rfl ⟨_, _, rfl, (hI.atS rfl)⟩ rfl (fun x4 h5 rx4 p6 => ?_)
  subst p6
  refine to_istore_n (L' := [(0, .inr (.inr 27)), (1, .inl p), (2, .inl x4)]) (dat dk_X10_threadOf 5 rfl) (by decide) rfl (to_iload_n (dat dk_X10_threadOf 6 rfl) rfl ?_)
  refine to_cI ca_c11_65 (dat dk_X10_threadOf 7 rfl) (ct_X10_isNode l h hI x4 rx4) rfl trivial rfl (fun x7 h8 rx7 p9 => ?_)
  obtain ⟨rfl, zx7, p9_0⟩ := p9
  refine to_ifeq 26 (dat dk_X10_threadOf 8 rfl) rfl rx7 (fun c10 => ?_) (fun c10 => ?_)
  · skip
    refine to_iconst (dat dk_X10_threadOf 14 rfl) ?_
    exact to_iret rfl (dat dk_X10_threadOf 15 rfl) (ri_mk (by decide) rfl)
  · skip
    refine to_aload_n (dat dk_X10_threadOf 9 rfl) rfl (to_getR 30 g_c11_18 (dat dk_X10_threadOf 10 rfl) (hI.atS rfl) (hI.atE rfl) (to_iload_n (dat dk_X10_threadOf 11 rfl) rfl ?_))
    obtain ⟨x11, ex11⟩ : ∃ y : Int, h.2.2 30 (Int.toNat x4) = y := ⟨_, rfl⟩
    have rx11 := hI.atR (a := 30) (j := Int.toNat x4) rfl
    rw [ex11] at rx11
    refine to_ialdv ex11 (dat dk_X10_threadOf 12 rfl) (hI.atS rfl) rfl (by decide) (by omega) (to_goto (dat dk_X10_threadOf 13 rfl) rfl ?_)
    exact to_iret rfl (dat dk_X10_threadOf 15 rfl) (ri_mk (by omega) rfl)
abbrev Q_X10_parentOf (h : Hp) (p : Int) : Option V → Hp → Nat → Nat → Prop := RI (fun x H => h = H)
set_option maxRecDepth 100000 in
theorem ct_X10_parentOf (l : Launch) (h : Hp) (hI : Inv h) (p : Int) (hp : I32 p) : Ct l D_X10_parentOf 2 41 [.inr (.inr 27), .inl p] h (Q_X10_parentOf h p) := by
  refine ct_of pn_X10_parentOf (Nat.le_of_ble_eq_true rfl) ?_
  show To l E_X10_parentOf (0, [(0, .inr (.inr 27)), (1, .inl p)], [], h, 0, 0) _
  refine to_aload_n (dat dk_X10_parentOf 0 rfl) rfl (to_aload_n (dat dk_X10_parentOf 1 rfl) rfl (to_iload_n (dat dk_X10_parentOf 2 rfl) rfl ?_))
  refine to_cI ca_c11_73 (dat dk_X10_parentOf 3 rfl) (ct_X10_nodeAt l h hI p hp) rfl ⟨_, _, rfl, (hI.atS rfl)⟩ rfl (fun x1 h2 rx1 p3 => ?_)
  subst p3
  refine to_cI ca_c11_76 (dat dk_X10_parentOf 4 rfl) (ct_X10_aboveOf l h hI x1 rx1) rfl ⟨_, _, rfl, (hI.atS rfl)⟩ rfl (fun x4 h5 rx4 p6 => ?_)
  subst p6
  refine to_istore_n (L' := [(0, .inr (.inr 27)), (1, .inl p), (2, .inl x4)]) (dat dk_X10_parentOf 5 rfl) (by decide) rfl (to_iconst (dat dk_X10_parentOf 6 rfl) (to_istore_n (L' := [(0, .inr (.inr 27)), (1, .inl p), (2, .inl x4), (3, .inl 0)]) (dat dk_X10_parentOf 7 rfl) (by decide) rfl ?_))
  have lp12_n9 : ∀ (n9 : Nat) (y7 : Int) (y8 : Int), (I32 y7) → (I32 y8) → (3460 - y8 ≤ (n9 : Int)) → To l E_X10_parentOf (12, [(0, .inr (.inr 27)), (1, .inl p), (2, .inl y7), (3, .inl y8)], [], h, 0, 0) (Q_X10_parentOf h p) := by
    intro n9
    induction n9 using Nat.strongRecOn with
    | _ n9 ihn9 =>
    intro y7 y8 ry7 ry8 c10
    refine to_iload_n (dat dk_X10_parentOf 8 rfl) rfl (to_sipush (dat dk_X10_parentOf 9 rfl) (by decide) ?_)
    refine to_ige 55 (dat dk_X10_parentOf 10 rfl) rfl ry8 (by decide) (fun c11 => ?_) (fun c11 => ?_)
    · skip
      refine to_iconst (dat dk_X10_parentOf 31 rfl) ?_
      exact to_iret rfl (dat dk_X10_parentOf 32 rfl) (ri_mk (by decide) rfl)
    · skip
      refine to_iload_n (dat dk_X10_parentOf 11 rfl) rfl ?_
      refine to_cI ca_c11_65 (dat dk_X10_parentOf 12 rfl) (ct_X10_isNode l h hI y7 ry7) rfl trivial rfl (fun x12 h13 rx12 p14 => ?_)
      obtain ⟨rfl, zx12, p14_0⟩ := p14
      refine to_ifeq 55 (dat dk_X10_parentOf 13 rfl) rfl rx12 (fun c15 => ?_) (fun c15 => ?_)
      · skip
        refine to_iconst (dat dk_X10_parentOf 31 rfl) ?_
        exact to_iret rfl (dat dk_X10_parentOf 32 rfl) (ri_mk (by decide) rfl)
      · skip
        refine to_aload_n (dat dk_X10_parentOf 14 rfl) rfl (to_getR 29 g_c11_15 (dat dk_X10_parentOf 15 rfl) (hI.atS rfl) (hI.atE rfl) (to_iload_n (dat dk_X10_parentOf 16 rfl) rfl ?_))
        obtain ⟨x16, ex16⟩ : ∃ y : Int, h.2.2 29 (Int.toNat y7) = y := ⟨_, rfl⟩
        have rx16 := hI.atR (a := 29) (j := Int.toNat y7) rfl
        rw [ex16] at rx16
        refine to_ialdv ex16 (dat dk_X10_parentOf 17 rfl) (hI.atS rfl) rfl (by decide) (by omega) (to_iconst (dat dk_X10_parentOf 18 rfl) ?_)
        refine to_ieq 43 (dat dk_X10_parentOf 19 rfl) rfl (by omega) (by decide) (fun c17 => ?_) (fun c17 => ?_)
        · skip
          refine to_aload_n (dat dk_X10_parentOf 25 rfl) rfl (to_iload_n (dat dk_X10_parentOf 26 rfl) rfl ?_)
          refine to_cI ca_c11_76 (dat dk_X10_parentOf 27 rfl) (ct_X10_aboveOf l h hI y7 ry7) rfl ⟨_, _, rfl, (hI.atS rfl)⟩ rfl (fun x18 h19 rx18 p20 => ?_)
          subst p20
          refine to_istore_n (L' := [(0, .inr (.inr 27)), (1, .inl p), (2, .inl x18), (3, .inl y8)]) (dat dk_X10_parentOf 28 rfl) (by decide) rfl (to_iinc (L' := [(0, .inr (.inr 27)), (1, .inl p), (2, .inl x18), (3, .inl (y8 + 1))]) (dat dk_X10_parentOf 29 rfl) rfl (by decide) rfl (to_goto (dat dk_X10_parentOf 30 rfl) rfl ?_))
          exact ihn9 (n9 - 1) (by omega) x18 (y8 + 1) rx18 (by omega) (show 3460 - (y8 + 1) ≤ ((n9 - 1 : Nat) : Int) by omega)
        · skip
          refine to_aload_n (dat dk_X10_parentOf 20 rfl) rfl (to_getR 29 g_c11_15 (dat dk_X10_parentOf 21 rfl) (hI.atS rfl) (hI.atE rfl) (to_iload_n (dat dk_X10_parentOf 22 rfl) rfl ?_))
          obtain ⟨x21, ex21⟩ : ∃ y : Int, h.2.2 29 (Int.toNat y7) = y := ⟨_, rfl⟩
          have rx21 := hI.atR (a := 29) (j := Int.toNat y7) rfl
          rw [ex21] at rx21
          refine to_ialdv ex21 (dat dk_X10_parentOf 23 rfl) (hI.atS rfl) rfl (by decide) (by omega) ?_
          exact to_iret rfl (dat dk_X10_parentOf 24 rfl) (ri_mk (by omega) rfl)
  exact lp12_n9 (3460 - (0 : Int)).toNat x4 0 rx4 (by decide) (by omega)
abbrev Q_X10_depthOf (h : Hp) (p : Int) : Option V → Hp → Nat → Nat → Prop := RI (fun x H => h = H)
set_option maxRecDepth 100000 in
theorem ct_X10_depthOf (l : Launch) (h : Hp) (hI : Inv h) (p : Int) (hp : I32 p) : Ct l D_X10_depthOf 2 41 [.inr (.inr 27), .inl p] h (Q_X10_depthOf h p) := by
  refine ct_of pn_X10_depthOf (Nat.le_of_ble_eq_true rfl) ?_
  show To l E_X10_depthOf (0, [(0, .inr (.inr 27)), (1, .inl p)], [], h, 0, 0) _
  refine to_iconst (dat dk_X10_depthOf 0 rfl) (to_istore_n (L' := [(0, .inr (.inr 27)), (1, .inl p), (2, .inl 0)]) (dat dk_X10_depthOf 1 rfl) (by decide) rfl (to_aload_n (dat dk_X10_depthOf 2 rfl) rfl (to_aload_n (dat dk_X10_depthOf 3 rfl) rfl (to_iload_n (dat dk_X10_depthOf 4 rfl) rfl ?_))))
  refine to_cI ca_c11_73 (dat dk_X10_depthOf 5 rfl) (ct_X10_nodeAt l h hI p hp) rfl ⟨_, _, rfl, (hI.atS rfl)⟩ rfl (fun x1 h2 rx1 p3 => ?_)
  subst p3
  refine to_cI ca_c11_76 (dat dk_X10_depthOf 6 rfl) (ct_X10_aboveOf l h hI x1 rx1) rfl ⟨_, _, rfl, (hI.atS rfl)⟩ rfl (fun x4 h5 rx4 p6 => ?_)
  subst p6
  refine to_istore_n (L' := [(0, .inr (.inr 27)), (1, .inl p), (2, .inl 0), (3, .inl x4)]) (dat dk_X10_depthOf 7 rfl) (by decide) rfl (to_iconst (dat dk_X10_depthOf 8 rfl) (to_istore (L' := [(0, .inr (.inr 27)), (1, .inl p), (2, .inl 0), (3, .inl x4), (4, .inl 0)]) (dat dk_X10_depthOf 9 rfl) (by decide) rfl ?_))
  have lp15_n10 : ∀ (n10 : Nat) (y7 : Int) (y8 : Int) (y9 : Int), (I32 y7) → (I32 y8) → (I32 y9) → (3460 - y9 ≤ (n10 : Int)) → To l E_X10_depthOf (15, [(0, .inr (.inr 27)), (1, .inl p), (2, .inl y7), (3, .inl y8), (4, .inl y9)], [], h, 0, 0) (Q_X10_depthOf h p) := by
    intro n10
    induction n10 using Nat.strongRecOn with
    | _ n10 ihn10 =>
    intro y7 y8 y9 ry7 ry8 ry9 c11
    refine to_iload (dat dk_X10_depthOf 10 rfl) rfl (to_sipush (dat dk_X10_depthOf 11 rfl) (by decide) ?_)
    refine to_ige 60 (dat dk_X10_depthOf 12 rfl) rfl ry9 (by decide) (fun c12 => ?_) (fun c12 => ?_)
    · skip
      refine to_iload_n (dat dk_X10_depthOf 34 rfl) rfl ?_
      exact to_iret rfl (dat dk_X10_depthOf 35 rfl) (ri_mk ry7 rfl)
    · skip
      refine to_iload_n (dat dk_X10_depthOf 13 rfl) rfl ?_
      refine to_cI ca_c11_65 (dat dk_X10_depthOf 14 rfl) (ct_X10_isNode l h hI y8 ry8) rfl trivial rfl (fun x13 h14 rx13 p15 => ?_)
      obtain ⟨rfl, zx13, p15_0⟩ := p15
      refine to_ifeq 60 (dat dk_X10_depthOf 15 rfl) rfl rx13 (fun c16 => ?_) (fun c16 => ?_)
      · skip
        refine to_iload_n (dat dk_X10_depthOf 34 rfl) rfl ?_
        exact to_iret rfl (dat dk_X10_depthOf 35 rfl) (ri_mk ry7 rfl)
      · skip
        refine to_iload_n (dat dk_X10_depthOf 16 rfl) rfl (to_aload_n (dat dk_X10_depthOf 17 rfl) rfl (to_getR 29 g_c11_15 (dat dk_X10_depthOf 18 rfl) (hI.atS rfl) (hI.atE rfl) (to_iload_n (dat dk_X10_depthOf 19 rfl) rfl ?_)))
        obtain ⟨x17, ex17⟩ : ∃ y : Int, h.2.2 29 (Int.toNat y8) = y := ⟨_, rfl⟩
        have rx17 := hI.atR (a := 29) (j := Int.toNat y8) rfl
        rw [ex17] at rx17
        refine to_ialdv ex17 (dat dk_X10_depthOf 20 rfl) (hI.atS rfl) rfl (by decide) (by omega) (to_iconst (dat dk_X10_depthOf 21 rfl) ?_)
        refine to_ieq 45 (dat dk_X10_depthOf 22 rfl) rfl (by omega) (by decide) (fun c18 => ?_) (fun c18 => ?_)
        · skip
          refine to_iconst (dat dk_X10_depthOf 25 rfl) ?_
          refine to_iaddA (dat dk_X10_depthOf 26 rfl) (fun x19 rx19 => ?_)
          refine to_istore_n (L' := [(0, .inr (.inr 27)), (1, .inl p), (2, .inl x19), (3, .inl y8), (4, .inl y9)]) (dat dk_X10_depthOf 27 rfl) (by decide) rfl (to_aload_n (dat dk_X10_depthOf 28 rfl) rfl (to_iload_n (dat dk_X10_depthOf 29 rfl) rfl ?_))
          refine to_cI ca_c11_76 (dat dk_X10_depthOf 30 rfl) (ct_X10_aboveOf l h hI y8 ry8) rfl ⟨_, _, rfl, (hI.atS rfl)⟩ rfl (fun x20 h21 rx20 p22 => ?_)
          subst p22
          refine to_istore_n (L' := [(0, .inr (.inr 27)), (1, .inl p), (2, .inl x19), (3, .inl x20), (4, .inl y9)]) (dat dk_X10_depthOf 31 rfl) (by decide) rfl (to_iinc (L' := [(0, .inr (.inr 27)), (1, .inl p), (2, .inl x19), (3, .inl x20), (4, .inl (y9 + 1))]) (dat dk_X10_depthOf 32 rfl) rfl (by decide) rfl (to_goto (dat dk_X10_depthOf 33 rfl) rfl ?_))
          exact ihn10 (n10 - 1) (by omega) x19 x20 (y9 + 1) rx19 rx20 (by omega) (show 3460 - (y9 + 1) ≤ ((n10 - 1 : Nat) : Int) by omega)
        · skip
          refine to_iconst (dat dk_X10_depthOf 23 rfl) (to_goto (dat dk_X10_depthOf 24 rfl) rfl ?_)
          refine to_iaddA (dat dk_X10_depthOf 26 rfl) (fun x23 rx23 => ?_)
          refine to_istore_n (L' := [(0, .inr (.inr 27)), (1, .inl p), (2, .inl x23), (3, .inl y8), (4, .inl y9)]) (dat dk_X10_depthOf 27 rfl) (by decide) rfl (to_aload_n (dat dk_X10_depthOf 28 rfl) rfl (to_iload_n (dat dk_X10_depthOf 29 rfl) rfl ?_))
          refine to_cI ca_c11_76 (dat dk_X10_depthOf 30 rfl) (ct_X10_aboveOf l h hI y8 ry8) rfl ⟨_, _, rfl, (hI.atS rfl)⟩ rfl (fun x24 h25 rx24 p26 => ?_)
          subst p26
          refine to_istore_n (L' := [(0, .inr (.inr 27)), (1, .inl p), (2, .inl x23), (3, .inl x24), (4, .inl y9)]) (dat dk_X10_depthOf 31 rfl) (by decide) rfl (to_iinc (L' := [(0, .inr (.inr 27)), (1, .inl p), (2, .inl x23), (3, .inl x24), (4, .inl (y9 + 1))]) (dat dk_X10_depthOf 32 rfl) rfl (by decide) rfl (to_goto (dat dk_X10_depthOf 33 rfl) rfl ?_))
          exact ihn10 (n10 - 1) (by omega) x23 x24 (y9 + 1) rx23 rx24 (by omega) (show 3460 - (y9 + 1) ≤ ((n10 - 1 : Nat) : Int) by omega)
  exact lp15_n10 (3460 - (0 : Int)).toNat 0 x4 0 (by decide) rx4 (by decide) (by omega)
abbrev Q_X10_spoil (h : Hp) : Option V → Hp → Nat → Nat → Prop := RV (fun H => Inv H ∧ Fr [27] h H)
set_option maxRecDepth 100000 in
theorem ct_X10_spoil (l : Launch) (h : Hp) (hI : Inv h)  : Ct l D_X10_spoil 0 0 [.inr (.inr 27)] h (Q_X10_spoil h) := by
  refine ct_of pn_X10_spoil (Nat.le_of_ble_eq_true rfl) ?_
  show To l E_X10_spoil (0, [(0, .inr (.inr 27))], [], h, 0, 0) _
  refine to_aload_n (dat dk_X10_spoil 0 rfl) rfl (to_iconst (dat dk_X10_spoil 1 rfl) (to_putZw p_c11_32 (dat dk_X10_spoil 2 rfl) (hI.atS rfl) (by decide) ?_))
  intro h3 wh3
  have I1 : Inv h3 := by rw [wh3]; exact hI.put (a := 27) (j := 6) (x := 0) (0) (1) rfl rfl (show (0 : Int) ≤ 0 ∧ 0 ≤ 1 by decide)
  have f2 : Fr [27] h h3 := by rw [wh3]; exact Fr.putF (a := 27) (j := 6) (x := 0) (Fr.rf _ _) rfl
  exact to_vret rfl (dat dk_X10_spoil 3 rfl) (rv_mk ⟨I1, f2⟩)
