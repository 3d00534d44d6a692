/-! Contracts, by program. -/
abbrev Q_X12_readReferences (h : Hp) (m : Int) : Option V → Hp → Nat → Nat → Prop := RV (fun H => Inv H ∧ Fr [73, 74, 219, 236] h H)
set_option maxRecDepth 100000 in
theorem ct_X12_readReferences (l : Launch) (h : Hp) (hI : Inv h) (m : Int) (hm : I32 m) (g0 : 0 ≤ m ∧ m ≤ 16) : Ct l D_X12_readReferences 2 43 [.inr (.inr 60), .inl m] h (Q_X12_readReferences h m) := by
  refine ct_of pn_X12_readReferences (Nat.le_of_ble_eq_true rfl) ?_
  show To l E_X12_readReferences (0, [(0, .inr (.inr 60)), (1, .inl m)], [], h, 0, 0) _
  obtain ⟨x1, ex1⟩ : ∃ y : Int, h.2.2 60 36 = y := ⟨_, rfl⟩
  have rx1 := hI.atR (a := 60) (j := 36) rfl
  rw [ex1] at rx1
  obtain ⟨x2, ex2⟩ : ∃ y : Int, h.2.2 60 23 = y := ⟨_, rfl⟩
  have rx2 := hI.atR (a := 60) (j := 23) rfl
  rw [ex2] at rx2
  refine to_aload_n (dat dk_X12_readReferences 0 rfl) rfl (to_iconst (dat dk_X12_readReferences 1 rfl) ?_)
  refine to_cI ca_c13_339 (dat dk_X12_readReferences 2 rfl) (ct_X12_angle l h hI 0 (by decide) (show 0 ≤ (0 : Int) ∧ (0 : Int) ≤ h.2.2 60 23 by omega)) rfl ⟨_, _, rfl, (hI.atS rfl)⟩ rfl (fun x3 h4 rx3 p5 => ?_)
  obtain ⟨Ih4, fh4, p5_0, p5_1⟩ := p5
  have f6 : Fr [73, 74, 219, 236] h h4 := Fr.sub (Fr.rf _ _) fh4 rfl
  obtain ⟨x7, ex7⟩ : ∃ y : Int, h4.2.2 60 36 = y := ⟨_, rfl⟩
  have rx7 := Ih4.atR (a := 60) (j := 36) rfl
  rw [ex7] at rx7
  have e8 : h4.2.2 60 23 = x2 := ((Fr.get fh4 (by have := hI.1.1; omega) rfl).trans ex2)
  refine to_istore_n (L' := [(0, .inr (.inr 60)), (1, .inl m), (2, .inl x3)]) (dat dk_X12_readReferences 3 rfl) (by decide) rfl ?_
  have lp6_n12 : ∀ (n12 : Nat) (y9 : Int) (h10 : Hp), (I32 y9) → (Inv h10) → (Fr [73, 74, 219, 236] h h10) → (y9 = -1 ∨ (0 ≤ y9 ∧ y9 < h10.2.2 60 36 ∧ h10.2.2 60 36 < h10.2.2 60 23)) → (1302 - h10.2.2 60 36 ≤ (n12 : Int)) → To l E_X12_readReferences (6, [(0, .inr (.inr 60)), (1, .inl m), (2, .inl y9)], [], h10, 0, 0) (Q_X12_readReferences h m) := by
    intro n12
    induction n12 using Nat.strongRecOn with
    | _ n12 ihn12 =>
    intro y9 h10 ry9 Ih10 fh10 c11 c13
    obtain ⟨x14, ex14⟩ : ∃ y : Int, h10.2.2 60 36 = y := ⟨_, rfl⟩
    have rx14 := Ih10.atR (a := 60) (j := 36) rfl
    rw [ex14] at rx14
    have e15 : h10.2.2 60 23 = x2 := ((Fr.get fh10 (by have := hI.1.1; omega) rfl).trans ex2)
    refine to_iload_n (dat dk_X12_readReferences 4 rfl) rfl (to_iconst (dat dk_X12_readReferences 5 rfl) ?_)
    refine to_ieq 54 (dat dk_X12_readReferences 6 rfl) rfl ry9 (by decide) (fun c16 => ?_) (fun c16 => ?_)
    · skip
      exact to_vret rfl (dat dk_X12_readReferences 34 rfl) (rv_mk ⟨Ih10, fh10⟩)
    · skip
      refine to_aload_n (dat dk_X12_readReferences 7 rfl) rfl ?_
      obtain ⟨x17, ex17⟩ : ∃ y : Int, h10.2.2 60 19 = y := ⟨_, rfl⟩
      have rx17 := Ih10.atR (a := 60) (j := 19) rfl
      rw [ex17] at rx17
      refine to_getIv (y := x17) ex17 g_c13_336 (dat dk_X12_readReferences 8 rfl) (Ih10.atS rfl) (to_iload_n (dat dk_X12_readReferences 9 rfl) rfl ?_)
      refine to_ige 54 (dat dk_X12_readReferences 10 rfl) rfl (by omega) hm (fun c18 => ?_) (fun c18 => ?_)
      · skip
        exact to_vret rfl (dat dk_X12_readReferences 34 rfl) (rv_mk ⟨Ih10, fh10⟩)
      · skip
        refine to_aload_n (dat dk_X12_readReferences 11 rfl) rfl (to_getIv (y := x14) ex14 g_c13_308 (dat dk_X12_readReferences 12 rfl) (Ih10.atS rfl) (to_istore_n (L' := [(0, .inr (.inr 60)), (1, .inl m), (2, .inl y9), (3, .inl x14)]) (dat dk_X12_readReferences 13 rfl) (by decide) rfl (to_aload_n (dat dk_X12_readReferences 14 rfl) rfl (to_iload_n (dat dk_X12_readReferences 15 rfl) rfl (to_iconst (dat dk_X12_readReferences 16 rfl) (to_iadd (dat dk_X12_readReferences 17 rfl) (to_iload_n (dat dk_X12_readReferences 18 rfl) rfl ?_)))))))
        refine to_cI ca_c13_342 (dat dk_X12_readReferences 19 rfl) (ct_X12_isId l h10 Ih10 (y9 + 1) (by omega) x14 (by omega) (show 0 ≤ (y9 + 1) ∧ (y9 + 1) ≤ 1300 by omega) (show 0 ≤ x14 ∧ x14 ≤ 1300 by omega)) rfl ⟨_, _, rfl, (Ih10.atS rfl)⟩ rfl (fun x19 h20 rx19 p21 => ?_)
        obtain ⟨rfl, zx19, p21_0⟩ := p21
        refine to_ifeq 43 (dat dk_X12_readReferences 20 rfl) rfl rx19 (fun c22 => ?_) (fun c22 => ?_)
        · skip
          refine to_aload_n (dat dk_X12_readReferences 27 rfl) rfl (to_iload_n (dat dk_X12_readReferences 28 rfl) rfl (to_iconst (dat dk_X12_readReferences 29 rfl) (to_iadd (dat dk_X12_readReferences 30 rfl) ?_)))
          refine to_cI ca_c13_339 (dat dk_X12_readReferences 31 rfl) (ct_X12_angle l h10 Ih10 (x14 + 1) (by omega) (show 0 ≤ (x14 + 1) ∧ (x14 + 1) ≤ h10.2.2 60 23 by omega)) rfl ⟨_, _, rfl, (Ih10.atS rfl)⟩ rfl (fun x23 h24 rx23 p25 => ?_)
          obtain ⟨Ih24, fh24, p25_0, p25_1⟩ := p25
          have f26 : Fr [73, 74, 219, 236] h h24 := Fr.sub fh10 fh24 rfl
          obtain ⟨x27, ex27⟩ : ∃ y : Int, h24.2.2 60 36 = y := ⟨_, rfl⟩
          have rx27 := Ih24.atR (a := 60) (j := 36) rfl
          rw [ex27] at rx27
          have e28 : h24.2.2 60 23 = x2 := ((Fr.get fh24 (by have := Ih10.1.1; omega) rfl).trans e15)
          refine to_istore_n (L' := [(0, .inr (.inr 60)), (1, .inl m), (2, .inl x23), (3, .inl x14)]) (dat dk_X12_readReferences 32 rfl) (by decide) rfl (to_goto (dat dk_X12_readReferences 33 rfl) rfl ?_)
          refine to_pick [0, 1, 2] rfl ?_
          exact ihn12 (n12 - 1) (by omega) x23 h24 rx23 Ih24 f26 (show x23 = -1 ∨ (0 ≤ x23 ∧ x23 < h24.2.2 60 36 ∧ h24.2.2 60 36 < h24.2.2 60 23) by omega) (show 1302 - h24.2.2 60 36 ≤ ((n12 - 1 : Nat) : Int) by omega)
        · skip
          refine to_aload_n (dat dk_X12_readReferences 21 rfl) rfl (to_iload_n (dat dk_X12_readReferences 22 rfl) rfl (to_iconst (dat dk_X12_readReferences 23 rfl) (to_iadd (dat dk_X12_readReferences 24 rfl) (to_iload_n (dat dk_X12_readReferences 25 rfl) rfl ?_))))
          refine to_cV ca_c13_346 (dat dk_X12_readReferences 26 rfl) (ct_X12_refer l h10 Ih10 (y9 + 1) (by omega) x14 (by omega) (show 0 ≤ (y9 + 1) ∧ x14 ≤ 1300 by omega) (show 1 ≤ x14 - (y9 + 1) ∧ x14 - (y9 + 1) ≤ 60 by omega) (show h10.2.2 60 19 ≤ 15 by omega)) rfl ⟨_, _, rfl, (Ih10.atS rfl)⟩ rfl (fun h30 p31 => ?_)
          obtain ⟨Ih30, fh30, p31_0⟩ := p31
          have f32 : Fr [73, 74, 219, 236] h h30 := Fr.sub fh10 fh30 rfl
          obtain ⟨x33, ex33⟩ : ∃ y : Int, h30.2.2 60 19 = y := ⟨_, rfl⟩
          have rx33 := Ih30.atR (a := 60) (j := 19) rfl
          rw [ex33] at rx33
          refine to_aload_n (dat dk_X12_readReferences 27 rfl) rfl (to_iload_n (dat dk_X12_readReferences 28 rfl) rfl (to_iconst (dat dk_X12_readReferences 29 rfl) (to_iadd (dat dk_X12_readReferences 30 rfl) ?_)))
          have e34 : h30.2.2 60 23 = x2 := ((Fr.get fh30 (by have := Ih10.1.1; omega) rfl).trans e15)
          refine to_cI ca_c13_339 (dat dk_X12_readReferences 31 rfl) (ct_X12_angle l h30 Ih30 (x14 + 1) (by omega) (show 0 ≤ (x14 + 1) ∧ (x14 + 1) ≤ h30.2.2 60 23 by omega)) rfl ⟨_, _, rfl, (Ih30.atS rfl)⟩ rfl (fun x35 h36 rx35 p37 => ?_)
          obtain ⟨Ih36, fh36, p37_0, p37_1⟩ := p37
          have f38 : Fr [73, 74, 219, 236] h h36 := Fr.sub f32 fh36 rfl
          obtain ⟨x39, ex39⟩ : ∃ y : Int, h36.2.2 60 36 = y := ⟨_, rfl⟩
          have rx39 := Ih36.atR (a := 60) (j := 36) rfl
          rw [ex39] at rx39
          have e40 : h36.2.2 60 23 = x2 := ((Fr.get fh36 (by have := Ih30.1.1; omega) rfl).trans e34)
          refine to_istore_n (L' := [(0, .inr (.inr 60)), (1, .inl m), (2, .inl x35), (3, .inl x14)]) (dat dk_X12_readReferences 32 rfl) (by decide) rfl (to_goto (dat dk_X12_readReferences 33 rfl) rfl ?_)
          refine to_pick [0, 1, 2] rfl ?_
          exact ihn12 (n12 - 1) (by omega) x35 h36 rx35 Ih36 f38 (show x35 = -1 ∨ (0 ≤ x35 ∧ x35 < h36.2.2 60 36 ∧ h36.2.2 60 36 < h36.2.2 60 23) by omega) (show 1302 - h36.2.2 60 36 ≤ ((n12 - 1 : Nat) : Int) by omega)
  exact lp6_n12 (1302 - h4.2.2 60 36).toNat x3 h4 rx3 Ih4 f6 (show x3 = -1 ∨ (0 ≤ x3 ∧ x3 < h4.2.2 60 36 ∧ h4.2.2 60 36 < h4.2.2 60 23) by omega) (by omega)
abbrev Q_X12_hasTag (h : Hp) (m : Int) (a : Nat) (f : Int) (n : Int) : Option V → Hp → Nat → Nat → Prop := RI (fun x H => h = H ∧ (x = 0 ∨ x = 1))
set_option maxRecDepth 100000 in
theorem ct_X12_hasTag (l : Launch) (h : Hp) (hI : Inv h) (m : Int) (hm : I32 m) (a : Nat) (na : Nat) (ha : isA a na = true) (f : Int) (hf : I32 f) (n : Int) (hn : I32 n) (g0 : 0 ≤ m ∧ m ≤ 199) (g1 : 0 ≤ f) (g2 : 0 ≤ n) (g3 : f + n ≤ (na : Int)) : Ct l D_X12_hasTag 1 27 [.inr (.inr 60), .inl m, .inr (.inr a), .inl f, .inl n] h (Q_X12_hasTag h m a f n) := by
  refine ct_of pn_X12_hasTag (Nat.le_of_ble_eq_true rfl) ?_
  show To l E_X12_hasTag (0, [(0, .inr (.inr 60)), (1, .inl m), (2, .inr (.inr a)), (3, .inl f), (4, .inl n)], [], h, 0, 0) _
  have la := isA_le ha
  refine to_aload_n (dat dk_X12_hasTag 0 rfl) rfl (to_iload_n (dat dk_X12_hasTag 1 rfl) rfl (to_aload_np (dat dk_X12_hasTag 2 rfl) (hI.posN (hI.aT ha)) rfl (to_iload_n (dat dk_X12_hasTag 3 rfl) rfl (to_iload (dat dk_X12_hasTag 4 rfl) rfl ?_))))
  refine to_cI ca_c13_478 (dat dk_X12_hasTag 5 rfl) (ct_X12_tagAt l h hI m hm a na ha f hf n hn (show 0 ≤ m ∧ m ≤ 199 by omega) (show 0 ≤ f by omega) (show 0 ≤ n by omega) (show f + n ≤ (na : Int) by omega)) rfl ⟨_, _, rfl, (hI.atS rfl)⟩ rfl (fun x1 h2 rx1 p3 => ?_)
  obtain ⟨rfl, p3_0⟩ := p3
  refine to_iflt 16 (dat dk_X12_hasTag 6 rfl) rfl rx1 (fun c4 => ?_) (fun c4 => ?_)
  · skip
    refine to_iconst (dat dk_X12_hasTag 9 rfl) ?_
    exact to_zret rfl (dat dk_X12_hasTag 10 rfl) (by decide) (ri_mk (by decide) ⟨rfl, (by decide)⟩)
  · skip
    refine to_iconst (dat dk_X12_hasTag 7 rfl) (to_goto (dat dk_X12_hasTag 8 rfl) rfl ?_)
    exact to_zret rfl (dat dk_X12_hasTag 10 rfl) (by decide) (ri_mk (by decide) ⟨rfl, (by decide)⟩)
abbrev Q_X12_node (h : Hp) (a : Nat) (f : Int) (n : Int) : Option V → Hp → Nat → Nat → Prop := RI (fun x H => Inv H ∧ Fr [83, 84, 85, 86, 237] h H ∧ (0 ≤ x ∧ x < H.2.2 60 37) ∧ (h.2.2 60 37 ≤ H.2.2 60 37 ∧ H.2.2 60 37 ≤ h.2.2 60 37 + 1))
set_option maxRecDepth 100000 in
theorem ct_X12_node (l : Launch) (h : Hp) (hI : Inv h) (a : Nat) (na : Nat) (ha : isA a na = true) (f : Int) (hf : I32 f) (n : Int) (hn : I32 n) (g0 : 0 ≤ f) (g1 : 0 ≤ n ∧ n ≤ 60) (g2 : f + n ≤ (na : Int)) (g3 : h.2.2 60 37 ≤ 1199) : Ct l D_X12_node 0 0 [.inr (.inr 60), .inr (.inr a), .inl f, .inl n] h (Q_X12_node h a f n) := by
  refine ct_of pn_X12_node (Nat.le_of_ble_eq_true rfl) ?_
  show To l E_X12_node (0, [(0, .inr (.inr 60)), (1, .inr (.inr a)), (2, .inl f), (3, .inl n)], [], h, 0, 0) _
  have la := isA_le ha
  obtain ⟨x1, ex1⟩ : ∃ y : Int, h.2.2 60 37 = y := ⟨_, rfl⟩
  have rx1 := hI.atR (a := 60) (j := 37) rfl
  rw [ex1] at rx1
  refine to_iconst (dat dk_X12_node 0 rfl) (to_istore (L' := [(0, .inr (.inr 60)), (1, .inr (.inr a)), (2, .inl f), (3, .inl n), (4, .inl 0)]) (dat dk_X12_node 1 rfl) (by decide) rfl ?_)
  have lp3_n4 : ∀ (n4 : Nat) (y2 : Int), (I32 y2) → (0 ≤ y2) → (h.2.2 60 37 - y2 ≤ (n4 : Int)) → To l E_X12_node (3, [(0, .inr (.inr 60)), (1, .inr (.inr a)), (2, .inl f), (3, .inl n), (4, .inl y2)], [], h, 0, 0) (Q_X12_node h a f n) := by
    intro n4
    induction n4 using Nat.strongRecOn with
    | _ n4 ihn4 =>
    intro y2 ry2 c3 c5
    refine to_iload (dat dk_X12_node 2 rfl) rfl (to_aload_n (dat dk_X12_node 3 rfl) rfl (to_getIv (y := x1) ex1 g_c13_370 (dat dk_X12_node 4 rfl) (hI.atS rfl) ?_))
    refine to_ige 97 (dat dk_X12_node 5 rfl) rfl ry2 (by omega) (fun c6 => ?_) (fun c6 => ?_)
    · skip
      refine to_iconst (dat dk_X12_node 51 rfl) (to_istore (L' := [(0, .inr (.inr 60)), (1, .inr (.inr a)), (2, .inl f), (3, .inl n), (4, .inl 0)]) (dat dk_X12_node 52 rfl) (by decide) rfl ?_)
      have lp100_n11 : ∀ (n11 : Nat) (y7 : Int) (h8 : Hp), (I32 y7) → (Inv h8) → (Fr [83, 84, 85, 86, 237] h h8) → (0 ≤ y7) → (h8.2.2 60 37 = h.2.2 60 37) → (n - y7 ≤ (n11 : Int)) → To l E_X12_node (100, [(0, .inr (.inr 60)), (1, .inr (.inr a)), (2, .inl f), (3, .inl n), (4, .inl y7)], [], h8, 0, 0) (Q_X12_node h a f n) := by
        intro n11
        induction n11 using Nat.strongRecOn with
        | _ n11 ihn11 =>
        intro y7 h8 ry7 Ih8 fh8 c9 c10 c12
        obtain ⟨x13, ex13⟩ : ∃ y : Int, h8.2.2 60 37 = y := ⟨_, rfl⟩
        have rx13 := Ih8.atR (a := 60) (j := 37) rfl
        rw [ex13] at rx13
        refine to_iload (dat dk_X12_node 53 rfl) rfl (to_iload_n (dat dk_X12_node 54 rfl) rfl ?_)
        refine to_ige 133 (dat dk_X12_node 55 rfl) rfl ry7 hn (fun c14 => ?_) (fun c14 => ?_)
        · skip
          refine to_aload_n (dat dk_X12_node 72 rfl) rfl (to_getR 84 g_c13_88 (dat dk_X12_node 73 rfl) (Ih8.atS rfl) (Ih8.atE rfl) (to_aload_n (dat dk_X12_node 74 rfl) rfl (to_getIv (y := x13) ex13 g_c13_370 (dat dk_X12_node 75 rfl) (Ih8.atS rfl) (to_iload_n (dat dk_X12_node 76 rfl) rfl (to_iastw (dat dk_X12_node 77 rfl) (Ih8.atS rfl) rfl (by decide) (by omega) ?_)))))
          intro h17 wh17
          have I15 : Inv h17 := by rw [wh17]; exact Ih8.put (a := 84) (j := (Int.toNat x13)) (x := n) (0) (60) rfl rfl (show (0 : Int) ≤ n ∧ n ≤ 60 by omega)
          have f16 : Fr [83, 84, 85, 86, 237] h h17 := by rw [wh17]; exact Fr.putF (a := 84) (j := (Int.toNat x13)) (x := n) fh8 rfl
          refine to_aload_n (dat dk_X12_node 78 rfl) rfl (to_getR 85 g_c13_91 (dat dk_X12_node 79 rfl) (I15.atS rfl) (I15.atE rfl) (to_aload_n (dat dk_X12_node 80 rfl) rfl (to_getIv (y := x13) (by rw [wh17]; exact ex13) g_c13_370 (dat dk_X12_node 81 rfl) (I15.atS rfl) (to_iconst (dat dk_X12_node 82 rfl) (to_iastw (dat dk_X12_node 83 rfl) (I15.atS rfl) rfl (by decide) (by omega) ?_)))))
          intro h20 wh20
          have I18 : Inv h20 := by rw [wh20]; exact I15.put (a := 85) (j := (Int.toNat x13)) (x := (-1)) (-1) (1199) rfl rfl (show (-1 : Int) ≤ (-1) ∧ (-1) ≤ 1199 by decide)
          have f19 : Fr [83, 84, 85, 86, 237] h h20 := by rw [wh20]; exact Fr.putF (a := 85) (j := (Int.toNat x13)) (x := (-1)) f16 rfl
          refine to_aload_n (dat dk_X12_node 84 rfl) rfl (to_getR 86 g_c13_94 (dat dk_X12_node 85 rfl) (I18.atS rfl) (I18.atE rfl) (to_aload_n (dat dk_X12_node 86 rfl) rfl (to_getIv (y := x13) (by rw [wh20]; exact (show h17.2.2 60 37 = x13 from (by rw [wh17]; exact ex13))) g_c13_370 (dat dk_X12_node 87 rfl) (I18.atS rfl) (to_iconst (dat dk_X12_node 88 rfl) (to_iastw (dat dk_X12_node 89 rfl) (I18.atS rfl) rfl (by decide) (by omega) ?_)))))
          intro h23 wh23
          have I21 : Inv h23 := by rw [wh23]; exact I18.put (a := 86) (j := (Int.toNat x13)) (x := (-1)) (-1) (199) rfl rfl (show (-1 : Int) ≤ (-1) ∧ (-1) ≤ 199 by decide)
          have f22 : Fr [83, 84, 85, 86, 237] h h23 := by rw [wh23]; exact Fr.putF (a := 86) (j := (Int.toNat x13)) (x := (-1)) f19 rfl
          refine to_aload_n (dat dk_X12_node 90 rfl) rfl (to_dup (dat dk_X12_node 91 rfl) rfl (to_getIv (y := x13) (by rw [wh23]; exact (show h20.2.2 60 37 = x13 from (by rw [wh20]; exact (show h17.2.2 60 37 = x13 from (by rw [wh17]; exact ex13))))) g_c13_370 (dat dk_X12_node 92 rfl) (I21.atS rfl) (to_iconst (dat dk_X12_node 93 rfl) (to_iadd (dat dk_X12_node 94 rfl) (to_putIw p_c13_370 (dat dk_X12_node 95 rfl) (I21.atS rfl) ?_)))))
          intro h26 wh26
          have I24 : Inv h26 := by rw [wh26]; exact I21.put (a := 60) (j := 37) (x := (x13 + 1)) (0) (1200) rfl rfl (show (0 : Int) ≤ (x13 + 1) ∧ (x13 + 1) ≤ 1200 by omega)
          have f25 : Fr [83, 84, 85, 86, 237] h h26 := by rw [wh26]; exact Fr.putF (a := 60) (j := 37) (x := (x13 + 1)) f22 rfl
          refine to_aload_n (dat dk_X12_node 96 rfl) rfl (to_getIv (y := (x13 + 1)) (by rw [wh26]; exact wr_eq) g_c13_370 (dat dk_X12_node 97 rfl) (I24.atS rfl) (to_iconst (dat dk_X12_node 98 rfl) (to_isub (dat dk_X12_node 99 rfl) ?_)))
          have e27 : h26.2.2 60 37 = (x13 + 1) := (by rw [wh26]; exact wr_eq)
          exact to_iret rfl (dat dk_X12_node 100 rfl) (ri_mk (by omega) ⟨I24, f25, (show 0 ≤ ((x13 + 1) - 1) ∧ ((x13 + 1) - 1) < h26.2.2 60 37 by omega), (show h.2.2 60 37 ≤ h26.2.2 60 37 ∧ h26.2.2 60 37 ≤ h.2.2 60 37 + 1 by omega)⟩)
        · skip
          refine to_aload_n (dat dk_X12_node 56 rfl) rfl (to_getR 83 g_c13_85 (dat dk_X12_node 57 rfl) (Ih8.atS rfl) (Ih8.atE rfl) (to_bipush (dat dk_X12_node 58 rfl) (by decide) (to_aload_n (dat dk_X12_node 59 rfl) rfl (to_getIv (y := x13) ex13 g_c13_370 (dat dk_X12_node 60 rfl) (Ih8.atS rfl) (to_imul (dat dk_X12_node 61 rfl) (to_iload (dat dk_X12_node 62 rfl) rfl (to_iadd (dat dk_X12_node 63 rfl) (to_aload_np (dat dk_X12_node 64 rfl) (Ih8.posN (Ih8.aT ha)) rfl (to_iload_n (dat dk_X12_node 65 rfl) rfl (to_iload (dat dk_X12_node 66 rfl) rfl (to_iadd (dat dk_X12_node 67 rfl) ?_)))))))))))
          obtain ⟨x28, ex28⟩ : ∃ y : Int, h8.2.2 a (Int.toNat (f + y7)) = y := ⟨_, rfl⟩
          have rx28 := Ih8.aC (j := Int.toNat (f + y7)) ha
          rw [ex28] at rx28
          refine to_baldv (q := 1) ex28 (dat dk_X12_node 68 rfl) (by decide) (Ih8.aT ha) rfl (isA_n ha) (by omega) (to_bastw (dat dk_X12_node 69 rfl) (Ih8.atS rfl) rfl (by decide) (by omega) ?_)
          intro h31 wh31
          have I29 : Inv h31 := by rw [wh31]; exact Ih8.put (a := 83) (j := (Int.toNat ((60 * x13) + y7))) (x := (b8 x28)) (-128) (127) rfl rfl (show (-128 : Int) ≤ (b8 x28) ∧ (b8 x28) ≤ 127 by have := b8_in x28; omega)
          have f30 : Fr [83, 84, 85, 86, 237] h h31 := by rw [wh31]; exact Fr.putF (a := 83) (j := (Int.toNat ((60 * x13) + y7))) (x := (b8 x28)) fh8 rfl
          refine to_iinc (L' := [(0, .inr (.inr 60)), (1, .inr (.inr a)), (2, .inl f), (3, .inl n), (4, .inl (y7 + 1))]) (dat dk_X12_node 70 rfl) rfl (by decide) rfl (to_goto (dat dk_X12_node 71 rfl) rfl ?_)
          have e32 : h31.2.2 60 37 = x13 := (by rw [wh31]; exact ex13)
          exact ihn11 (n11 - 1) (by omega) (y7 + 1) h31 (by omega) I29 f30 (show 0 ≤ (y7 + 1) by omega) (show h31.2.2 60 37 = h.2.2 60 37 by omega) (show n - (y7 + 1) ≤ ((n11 - 1 : Nat) : Int) by omega)
      exact lp100_n11 (n - (0 : Int)).toNat 0 h (by decide) hI (Fr.rf _ _) (show 0 ≤ (0 : Int) by omega) (show h.2.2 60 37 = h.2.2 60 37 by omega) (by omega)
    · skip
      have jn32_n34 : ∀ (y33 : Int), (y33 = 0 ∨ y33 = 1) → To l E_X12_node (32, [(0, .inr (.inr 60)), (1, .inr (.inr a)), (2, .inl f), (3, .inl n), (4, .inl y2)], [.inl y33], h, 0, 0) (Q_X12_node h a f n) := by
        intro y33 ry33
        refine to_istore (L' := [(0, .inr (.inr 60)), (1, .inr (.inr a)), (2, .inl f), (3, .inl n), (4, .inl y2), (5, .inl y33)]) (dat dk_X12_node 17 rfl) (by decide) rfl (to_iconst (dat dk_X12_node 18 rfl) (to_istore (L' := [(0, .inr (.inr 60)), (1, .inr (.inr a)), (2, .inl f), (3, .inl n), (4, .inl y2), (5, .inl y33), (6, .inl 0)]) (dat dk_X12_node 19 rfl) (by decide) rfl ?_))
        have lp37_n38 : ∀ (n38 : Nat) (y35 : Int) (y36 : Int), (y35 = 0 ∨ y35 = 1) → (I32 y36) → (0 ≤ y36) → (n - y36 ≤ (n38 : Int)) → To l E_X12_node (37, [(0, .inr (.inr 60)), (1, .inr (.inr a)), (2, .inl f), (3, .inl n), (4, .inl y2), (5, .inl y35), (6, .inl y36)], [], h, 0, 0) (Q_X12_node h a f n) := by
          intro n38
          induction n38 using Nat.strongRecOn with
          | _ n38 ihn38 =>
          intro y35 y36 ry35 ry36 c37 c39
          refine to_iload (dat dk_X12_node 20 rfl) rfl (to_iload_n (dat dk_X12_node 21 rfl) rfl ?_)
          refine to_ige 83 (dat dk_X12_node 22 rfl) rfl ry36 hn (fun c40 => ?_) (fun c40 => ?_)
          · skip
            refine to_iload (dat dk_X12_node 45 rfl) rfl ?_
            refine to_ifeq 91 (dat dk_X12_node 46 rfl) rfl (by omega) (fun c41 => ?_) (fun c41 => ?_)
            · skip
              refine to_iinc (L' := [(0, .inr (.inr 60)), (1, .inr (.inr a)), (2, .inl f), (3, .inl n), (4, .inl (y2 + 1)), (5, .inl y35), (6, .inl y36)]) (dat dk_X12_node 49 rfl) rfl (by decide) rfl (to_goto (dat dk_X12_node 50 rfl) rfl ?_)
              refine to_pick [0, 1, 2, 3, 4] rfl ?_
              exact ihn4 (n4 - 1) (by omega) (y2 + 1) (by omega) (show 0 ≤ (y2 + 1) by omega) (show h.2.2 60 37 - (y2 + 1) ≤ ((n4 - 1 : Nat) : Int) by omega)
            · skip
              refine to_iload (dat dk_X12_node 47 rfl) rfl ?_
              exact to_iret rfl (dat dk_X12_node 48 rfl) (ri_mk ry2 ⟨hI, (Fr.rf _ _), (show 0 ≤ y2 ∧ y2 < h.2.2 60 37 by omega), (show h.2.2 60 37 ≤ h.2.2 60 37 ∧ h.2.2 60 37 ≤ h.2.2 60 37 + 1 by omega)⟩)
          · skip
            refine to_iload (dat dk_X12_node 23 rfl) rfl ?_
            refine to_ifeq 83 (dat dk_X12_node 24 rfl) rfl (by omega) (fun c42 => ?_) (fun c42 => ?_)
            · skip
              refine to_iload (dat dk_X12_node 45 rfl) rfl ?_
              refine to_ifeq 91 (dat dk_X12_node 46 rfl) rfl (by omega) (fun c43 => ?_) (fun c43 => ?_)
              · skip
                refine to_iinc (L' := [(0, .inr (.inr 60)), (1, .inr (.inr a)), (2, .inl f), (3, .inl n), (4, .inl (y2 + 1)), (5, .inl y35), (6, .inl y36)]) (dat dk_X12_node 49 rfl) rfl (by decide) rfl (to_goto (dat dk_X12_node 50 rfl) rfl ?_)
                refine to_pick [0, 1, 2, 3, 4] rfl ?_
                exact ihn4 (n4 - 1) (by omega) (y2 + 1) (by omega) (show 0 ≤ (y2 + 1) by omega) (show h.2.2 60 37 - (y2 + 1) ≤ ((n4 - 1 : Nat) : Int) by omega)
              · skip
                refine to_iload (dat dk_X12_node 47 rfl) rfl ?_
                exact to_iret rfl (dat dk_X12_node 48 rfl) (ri_mk ry2 ⟨hI, (Fr.rf _ _), (show 0 ≤ y2 ∧ y2 < h.2.2 60 37 by omega), (show h.2.2 60 37 ≤ h.2.2 60 37 ∧ h.2.2 60 37 ≤ h.2.2 60 37 + 1 by omega)⟩)
            · skip
              have jn75_n45 : ∀ (y44 : Int), (y44 = 0 ∨ y44 = 1) → To l E_X12_node (75, [(0, .inr (.inr 60)), (1, .inr (.inr a)), (2, .inl f), (3, .inl n), (4, .inl y2), (5, .inl y35), (6, .inl y36)], [.inl y44], h, 0, 0) (Q_X12_node h a f n) := by
                intro y44 ry44
                refine to_istore (L' := [(0, .inr (.inr 60)), (1, .inr (.inr a)), (2, .inl f), (3, .inl n), (4, .inl y2), (5, .inl y44), (6, .inl y36)]) (dat dk_X12_node 42 rfl) (by decide) rfl (to_iinc (L' := [(0, .inr (.inr 60)), (1, .inr (.inr a)), (2, .inl f), (3, .inl n), (4, .inl y2), (5, .inl y44), (6, .inl (y36 + 1))]) (dat dk_X12_node 43 rfl) rfl (by decide) rfl (to_goto (dat dk_X12_node 44 rfl) rfl ?_))
                exact ihn38 (n38 - 1) (by omega) y44 (y36 + 1) (by omega) (by omega) (show 0 ≤ (y36 + 1) by omega) (show n - (y36 + 1) ≤ ((n38 - 1 : Nat) : Int) by omega)
              refine to_aload_n (dat dk_X12_node 25 rfl) rfl (to_getR 83 g_c13_85 (dat dk_X12_node 26 rfl) (hI.atS rfl) (hI.atE rfl) (to_bipush (dat dk_X12_node 27 rfl) (by decide) (to_iload (dat dk_X12_node 28 rfl) rfl (to_imul (dat dk_X12_node 29 rfl) (to_iload (dat dk_X12_node 30 rfl) rfl (to_iadd (dat dk_X12_node 31 rfl) ?_))))))
              obtain ⟨x46, ex46⟩ : ∃ y : Int, h.2.2 83 (Int.toNat ((60 * y2) + y36)) = y := ⟨_, rfl⟩
              have rx46 := hI.atR (a := 83) (j := Int.toNat ((60 * y2) + y36)) rfl
              rw [ex46] at rx46
              refine to_baldv (q := 1) ex46 (dat dk_X12_node 32 rfl) (by decide) (hI.atS rfl) rfl (by decide) (by omega) (to_aload_np (dat dk_X12_node 33 rfl) (hI.posN (hI.aT ha)) rfl (to_iload_n (dat dk_X12_node 34 rfl) rfl (to_iload (dat dk_X12_node 35 rfl) rfl (to_iadd (dat dk_X12_node 36 rfl) ?_))))
              obtain ⟨x47, ex47⟩ : ∃ y : Int, h.2.2 a (Int.toNat (f + y36)) = y := ⟨_, rfl⟩
              have rx47 := hI.aC (j := Int.toNat (f + y36)) ha
              rw [ex47] at rx47
              refine to_baldv (q := 1) ex47 (dat dk_X12_node 37 rfl) (by decide) (hI.aT ha) rfl (isA_n ha) (by omega) ?_
              refine to_ine 74 (dat dk_X12_node 38 rfl) rfl (by omega) (by omega) (fun c48 => ?_) (fun c48 => ?_)
              · skip
                refine to_iconst (dat dk_X12_node 41 rfl) ?_
                exact jn75_n45 0 (by decide)
              · skip
                refine to_iconst (dat dk_X12_node 39 rfl) (to_goto (dat dk_X12_node 40 rfl) rfl ?_)
                exact jn75_n45 1 (by decide)
        exact lp37_n38 (n - (0 : Int)).toNat y33 0 (by omega) (by decide) (show 0 ≤ (0 : Int) by omega) (by omega)
      refine to_iload_n (dat dk_X12_node 6 rfl) rfl ?_
      refine to_ifle 31 (dat dk_X12_node 7 rfl) rfl hn (fun c49 => ?_) (fun c49 => ?_)
      · skip
        refine to_iconst (dat dk_X12_node 16 rfl) ?_
        exact jn32_n34 0 (by decide)
      · skip
        refine to_aload_n (dat dk_X12_node 8 rfl) rfl (to_getR 84 g_c13_88 (dat dk_X12_node 9 rfl) (hI.atS rfl) (hI.atE rfl) (to_iload (dat dk_X12_node 10 rfl) rfl ?_))
        obtain ⟨x50, ex50⟩ : ∃ y : Int, h.2.2 84 (Int.toNat y2) = y := ⟨_, rfl⟩
        have rx50 := hI.atR (a := 84) (j := Int.toNat y2) rfl
        rw [ex50] at rx50
        refine to_ialdv ex50 (dat dk_X12_node 11 rfl) (hI.atS rfl) rfl (by decide) (by omega) (to_iload_n (dat dk_X12_node 12 rfl) rfl ?_)
        refine to_ine 31 (dat dk_X12_node 13 rfl) rfl (by omega) hn (fun c51 => ?_) (fun c51 => ?_)
        · skip
          refine to_iconst (dat dk_X12_node 16 rfl) ?_
          exact jn32_n34 0 (by decide)
        · skip
          refine to_iconst (dat dk_X12_node 14 rfl) (to_goto (dat dk_X12_node 15 rfl) rfl ?_)
          exact jn32_n34 1 (by decide)
  exact lp3_n4 (h.2.2 60 37 - (0 : Int)).toNat 0 (by decide) (show 0 ≤ (0 : Int) by omega) (by omega)
abbrev Q_X12_add (h : Hp) : Option V → Hp → Nat → Nat → Prop := RI (fun x H => Inv H ∧ Fr [63, 64, 65, 68, 200, 203, 204, 205] h H ∧ (H.2.2 60 3 = 0 ∨ H.2.2 60 3 = h.2.2 60 3))
set_option maxRecDepth 100000 in
theorem ct_X12_add (l : Launch) (h : Hp) (hI : Inv h)  : Ct l D_X12_add 1 21 [.inr (.inr 60)] h (Q_X12_add h) := by
  refine ct_of pn_X12_add (Nat.le_of_ble_eq_true rfl) ?_
  show To l E_X12_add (0, [(0, .inr (.inr 60))], [], h, 0, 0) _
  obtain ⟨x1, ex1⟩ : ∃ y : Int, h.2.2 60 3 = y := ⟨_, rfl⟩
  have rx1 := hI.atR (a := 60) (j := 3) rfl
  rw [ex1] at rx1
  obtain ⟨x2, ex2⟩ : ∃ y : Int, h.2.2 60 4 = y := ⟨_, rfl⟩
  have rx2 := hI.atR (a := 60) (j := 4) rfl
  rw [ex2] at rx2
  refine to_aload_n (dat dk_X12_add 0 rfl) rfl ?_
  have jn25_n5 : ∀ (y3 : Int), (y3 = 0 ∨ y3 = 1) → (y3 = 1 ∨ h.2.2 60 4 ≤ 199) → To l E_X12_add (25, [(0, .inr (.inr 60))], [.inl y3, .inr (.inr 60)], h, 0, 0) (Q_X12_add h) := by
    intro y3 ry3 c4
    refine to_putIw p_c13_154 (dat dk_X12_add 12 rfl) (hI.atS rfl) ?_
    intro h8 wh8
    have I6 : Inv h8 := by rw [wh8]; exact hI.put (a := 60) (j := 0) (x := y3) (0) (3) rfl rfl (show (0 : Int) ≤ y3 ∧ y3 ≤ 3 by omega)
    have f7 : Fr [63, 64, 65, 68, 200, 203, 204, 205] h h8 := by rw [wh8]; exact Fr.putF (a := 60) (j := 0) (x := y3) (Fr.rf _ _) rfl
    refine to_aload_n (dat dk_X12_add 13 rfl) rfl (to_getIv (y := y3) (by rw [wh8]; exact wr_eq) g_c13_154 (dat dk_X12_add 14 rfl) (I6.atS rfl) ?_)
    refine to_ifle 37 (dat dk_X12_add 15 rfl) rfl (by omega) (fun c9 => ?_) (fun c9 => ?_)
    · skip
      refine to_aload_n (dat dk_X12_add 18 rfl) rfl ?_
      have e10 : h8.2.2 60 3 = x1 := (by rw [wh8]; exact ex1)
      refine to_cI ca_c13_502 (dat dk_X12_add 19 rfl) (ct_X12_take l h8 I6 ) rfl ⟨_, _, rfl, (I6.atS rfl)⟩ rfl (fun x11 h12 rx11 p13 => ?_)
      obtain ⟨Ih12, fh12, p13_0, p13_1⟩ := p13
      have f14 : Fr [63, 64, 65, 68, 200, 203, 204, 205] h h12 := Fr.sub f7 fh12 rfl
      obtain ⟨x15, ex15⟩ : ∃ y : Int, h12.2.2 60 3 = y := ⟨_, rfl⟩
      have rx15 := Ih12.atR (a := 60) (j := 3) rfl
      rw [ex15] at rx15
      refine to_istore_n (L' := [(0, .inr (.inr 60)), (1, .inl x11)]) (dat dk_X12_add 20 rfl) (by decide) rfl (to_iconst (dat dk_X12_add 21 rfl) (to_istore_n (L' := [(0, .inr (.inr 60)), (1, .inl x11), (2, .inl 0)]) (dat dk_X12_add 22 rfl) (by decide) rfl ?_))
      have e19 : h12.2.2 60 4 = x2 := ((Fr.get fh12 (by have := I6.1.1; omega) rfl).trans (by rw [wh8]; exact ex2))
      have lp44_n22 : ∀ (n22 : Nat) (y16 : Int) (h17 : Hp), (I32 y16) → (Inv h17) → (Fr [63, 64, 65, 68, 200, 203, 204, 205] h h17) → (0 ≤ y16) → (h17.2.2 60 4 = h.2.2 60 4) → (h17.2.2 60 3 = 0) → (x11 - y16 ≤ (n22 : Int)) → To l E_X12_add (44, [(0, .inr (.inr 60)), (1, .inl x11), (2, .inl y16)], [], h17, 0, 0) (Q_X12_add h) := by
        intro n22
        induction n22 using Nat.strongRecOn with
        | _ n22 ihn22 =>
        intro y16 h17 ry16 Ih17 fh17 c18 c20 c21 c23
        obtain ⟨x24, ex24⟩ : ∃ y : Int, h17.2.2 60 4 = y := ⟨_, rfl⟩
        have rx24 := Ih17.atR (a := 60) (j := 4) rfl
        rw [ex24] at rx24
        obtain ⟨x25, ex25⟩ : ∃ y : Int, h17.2.2 60 3 = y := ⟨_, rfl⟩
        have rx25 := Ih17.atR (a := 60) (j := 3) rfl
        rw [ex25] at rx25
        refine to_iload_n (dat dk_X12_add 23 rfl) rfl (to_iload_n (dat dk_X12_add 24 rfl) rfl ?_)
        refine to_ige 76 (dat dk_X12_add 25 rfl) rfl ry16 rx11 (fun c26 => ?_) (fun c26 => ?_)
        · skip
          refine to_aload_n (dat dk_X12_add 41 rfl) rfl (to_getR 64 g_c13_20 (dat dk_X12_add 42 rfl) (Ih17.atS rfl) (Ih17.atE rfl) (to_aload_n (dat dk_X12_add 43 rfl) rfl (to_getIv (y := x24) ex24 g_c13_382 (dat dk_X12_add 44 rfl) (Ih17.atS rfl) (to_iload_n (dat dk_X12_add 45 rfl) rfl (to_iastw (dat dk_X12_add 46 rfl) (Ih17.atS rfl) rfl (by decide) (by omega) ?_)))))
          intro h29 wh29
          have I27 : Inv h29 := by rw [wh29]; exact Ih17.put (a := 64) (j := (Int.toNat x24)) (x := x11) (0) (1200) rfl rfl (show (0 : Int) ≤ x11 ∧ x11 ≤ 1200 by omega)
          have f28 : Fr [63, 64, 65, 68, 200, 203, 204, 205] h h29 := by rw [wh29]; exact Fr.putF (a := 64) (j := (Int.toNat x24)) (x := x11) fh17 rfl
          refine to_aload_n (dat dk_X12_add 47 rfl) rfl (to_getR 65 g_c13_24 (dat dk_X12_add 48 rfl) (I27.atS rfl) (I27.atE rfl) (to_aload_n (dat dk_X12_add 49 rfl) rfl (to_getIv (y := x24) (by rw [wh29]; exact ex24) g_c13_382 (dat dk_X12_add 50 rfl) (I27.atS rfl) (to_iconst (dat dk_X12_add 51 rfl) (to_zastw (dat dk_X12_add 52 rfl) (I27.atS rfl) rfl (by decide) (by omega) (by decide) ?_)))))
          intro h32 wh32
          have I30 : Inv h32 := by rw [wh32]; exact I27.put (a := 65) (j := (Int.toNat x24)) (x := 1) (0) (1) rfl rfl (show (0 : Int) ≤ 1 ∧ 1 ≤ 1 by decide)
          have f31 : Fr [63, 64, 65, 68, 200, 203, 204, 205] h h32 := by rw [wh32]; exact Fr.putF (a := 65) (j := (Int.toNat x24)) (x := 1) f28 rfl
          refine to_aload_n (dat dk_X12_add 53 rfl) rfl (to_getR 68 g_c13_34 (dat dk_X12_add 54 rfl) (I30.atS rfl) (I30.atE rfl) (to_aload_n (dat dk_X12_add 55 rfl) rfl (to_getIv (y := x24) (by rw [wh32]; exact (show h29.2.2 60 4 = x24 from (by rw [wh29]; exact ex24))) g_c13_382 (dat dk_X12_add 56 rfl) (I30.atS rfl) (to_iconst (dat dk_X12_add 57 rfl) (to_iastw (dat dk_X12_add 58 rfl) (I30.atS rfl) rfl (by decide) (by omega) ?_)))))
          intro h35 wh35
          have I33 : Inv h35 := by rw [wh35]; exact I30.put (a := 68) (j := (Int.toNat x24)) (x := 0) (0) (8) rfl rfl (show (0 : Int) ≤ 0 ∧ 0 ≤ 8 by decide)
          have f34 : Fr [63, 64, 65, 68, 200, 203, 204, 205] h h35 := by rw [wh35]; exact Fr.putF (a := 68) (j := (Int.toNat x24)) (x := 0) f31 rfl
          refine to_aload_n (dat dk_X12_add 59 rfl) rfl (to_dup (dat dk_X12_add 60 rfl) rfl (to_getIv (y := x24) (by rw [wh35]; exact (show h32.2.2 60 4 = x24 from (by rw [wh32]; exact (show h29.2.2 60 4 = x24 from (by rw [wh29]; exact ex24))))) g_c13_382 (dat dk_X12_add 61 rfl) (I33.atS rfl) (to_iconst (dat dk_X12_add 62 rfl) (to_iadd (dat dk_X12_add 63 rfl) (to_putIw p_c13_382 (dat dk_X12_add 64 rfl) (I33.atS rfl) ?_)))))
          intro h38 wh38
          have I36 : Inv h38 := by rw [wh38]; exact I33.put (a := 60) (j := 4) (x := (x24 + 1)) (0) (200) rfl rfl (show (0 : Int) ≤ (x24 + 1) ∧ (x24 + 1) ≤ 200 by omega)
          have f37 : Fr [63, 64, 65, 68, 200, 203, 204, 205] h h38 := by rw [wh38]; exact Fr.putF (a := 60) (j := 4) (x := (x24 + 1)) f34 rfl
          refine to_aload_n (dat dk_X12_add 65 rfl) rfl (to_dup (dat dk_X12_add 66 rfl) rfl ?_)
          obtain ⟨x39, ex39⟩ : ∃ y : Int, h38.2.2 60 5 = y := ⟨_, rfl⟩
          have rx39 := I36.atR (a := 60) (j := 5) rfl
          rw [ex39] at rx39
          refine to_getIv (y := x39) ex39 g_c13_499 (dat dk_X12_add 67 rfl) (I36.atS rfl) (to_iconst (dat dk_X12_add 68 rfl) ?_)
          refine to_iaddA (dat dk_X12_add 69 rfl) (fun x40 rx40 => ?_)
          refine to_putIw p_c13_499 (dat dk_X12_add 70 rfl) (I36.atS rfl) ?_
          intro h43 wh43
          have I41 : Inv h43 := by rw [wh43]; exact I36.put (a := 60) (j := 5) (x := x40) (-2147483648) (2147483647) rfl rfl (show (-2147483648 : Int) ≤ x40 ∧ x40 ≤ 2147483647 by omega)
          have f42 : Fr [63, 64, 65, 68, 200, 203, 204, 205] h h43 := by rw [wh43]; exact Fr.putF (a := 60) (j := 5) (x := x40) f37 rfl
          refine to_aload_n (dat dk_X12_add 71 rfl) rfl (to_getIv (y := (x24 + 1)) (by rw [wh43]; exact (show h38.2.2 60 4 = (x24 + 1) from (by rw [wh38]; exact wr_eq))) g_c13_382 (dat dk_X12_add 72 rfl) (I41.atS rfl) (to_iconst (dat dk_X12_add 73 rfl) (to_isub (dat dk_X12_add 74 rfl) ?_)))
          have e44 : h43.2.2 60 3 = x25 := (by rw [wh43]; exact (show h38.2.2 60 3 = x25 from (by rw [wh38]; exact (show h35.2.2 60 3 = x25 from (by rw [wh35]; exact (show h32.2.2 60 3 = x25 from (by rw [wh32]; exact (show h29.2.2 60 3 = x25 from (by rw [wh29]; exact ex25)))))))))
          exact to_iret rfl (dat dk_X12_add 75 rfl) (ri_mk (by omega) ⟨I41, f42, (show h43.2.2 60 3 = 0 ∨ h43.2.2 60 3 = h.2.2 60 3 by omega)⟩)
        · skip
          refine to_aload_n (dat dk_X12_add 26 rfl) rfl (to_getR 63 g_c13_17 (dat dk_X12_add 27 rfl) (Ih17.atS rfl) (Ih17.atE rfl) (to_sipush (dat dk_X12_add 28 rfl) (by decide) (to_aload_n (dat dk_X12_add 29 rfl) rfl (to_getIv (y := x24) ex24 g_c13_382 (dat dk_X12_add 30 rfl) (Ih17.atS rfl) (to_imul (dat dk_X12_add 31 rfl) (to_iload_n (dat dk_X12_add 32 rfl) rfl (to_iadd (dat dk_X12_add 33 rfl) (to_aload_n (dat dk_X12_add 34 rfl) rfl (to_getR 62 g_c13_13 (dat dk_X12_add 35 rfl) (Ih17.atS rfl) (Ih17.atE rfl) (to_iload_n (dat dk_X12_add 36 rfl) rfl ?_))))))))))
          obtain ⟨x45, ex45⟩ : ∃ y : Int, h17.2.2 62 (Int.toNat y16) = y := ⟨_, rfl⟩
          have rx45 := Ih17.atR (a := 62) (j := Int.toNat y16) rfl
          rw [ex45] at rx45
          refine to_baldv (q := 1) ex45 (dat dk_X12_add 37 rfl) (by decide) (Ih17.atS rfl) rfl (by decide) (by omega) (to_bastw (dat dk_X12_add 38 rfl) (Ih17.atS rfl) rfl (by decide) (by omega) ?_)
          intro h48 wh48
          have I46 : Inv h48 := by rw [wh48]; exact Ih17.put (a := 63) (j := (Int.toNat ((1200 * x24) + y16))) (x := (b8 x45)) (-128) (127) rfl rfl (show (-128 : Int) ≤ (b8 x45) ∧ (b8 x45) ≤ 127 by have := b8_in x45; omega)
          have f47 : Fr [63, 64, 65, 68, 200, 203, 204, 205] h h48 := by rw [wh48]; exact Fr.putF (a := 63) (j := (Int.toNat ((1200 * x24) + y16))) (x := (b8 x45)) fh17 rfl
          refine to_iinc (L' := [(0, .inr (.inr 60)), (1, .inl x11), (2, .inl (y16 + 1))]) (dat dk_X12_add 39 rfl) rfl (by decide) rfl (to_goto (dat dk_X12_add 40 rfl) rfl ?_)
          have e49 : h48.2.2 60 4 = x24 := (by rw [wh48]; exact ex24)
          have e50 : h48.2.2 60 3 = x25 := (by rw [wh48]; exact ex25)
          exact ihn22 (n22 - 1) (by omega) (y16 + 1) h48 (by omega) I46 f47 (show 0 ≤ (y16 + 1) by omega) (show h48.2.2 60 4 = h.2.2 60 4 by omega) (show h48.2.2 60 3 = 0 by omega) (show x11 - (y16 + 1) ≤ ((n22 - 1 : Nat) : Int) by omega)
      exact lp44_n22 (x11 - (0 : Int)).toNat 0 h12 (by decide) Ih12 f14 (show 0 ≤ (0 : Int) by omega) (show h12.2.2 60 4 = h.2.2 60 4 by omega) (show h12.2.2 60 3 = 0 by omega) (by omega)
    · skip
      refine to_iconst (dat dk_X12_add 16 rfl) ?_
      have e51 : h8.2.2 60 3 = x1 := (by rw [wh8]; exact ex1)
      exact to_iret rfl (dat dk_X12_add 17 rfl) (ri_mk (by decide) ⟨I6, f7, (show h8.2.2 60 3 = 0 ∨ h8.2.2 60 3 = h.2.2 60 3 by omega)⟩)
  refine to_aload_n (dat dk_X12_add 1 rfl) rfl ?_
  obtain ⟨x52, ex52⟩ : ∃ y : Int, h.2.2 60 5 = y := ⟨_, rfl⟩
  have rx52 := hI.atR (a := 60) (j := 5) rfl
  rw [ex52] at rx52
  refine to_getIv (y := x52) ex52 g_c13_499 (dat dk_X12_add 2 rfl) (hI.atS rfl) (to_bipush (dat dk_X12_add 3 rfl) (by decide) ?_)
  refine to_ieq 20 (dat dk_X12_add 4 rfl) rfl (by omega) (by decide) (fun c53 => ?_) (fun c53 => ?_)
  · skip
    refine to_iconst (dat dk_X12_add 9 rfl) (to_goto (dat dk_X12_add 10 rfl) rfl ?_)
    exact jn25_n5 1 (by decide) (show (1 : Int) = 1 ∨ h.2.2 60 4 ≤ 199 by omega)
  · skip
    refine to_aload_n (dat dk_X12_add 5 rfl) rfl (to_getIv (y := x2) ex2 g_c13_382 (dat dk_X12_add 6 rfl) (hI.atS rfl) (to_sipush (dat dk_X12_add 7 rfl) (by decide) ?_))
    refine to_ine 24 (dat dk_X12_add 8 rfl) rfl (by omega) (by decide) (fun c54 => ?_) (fun c54 => ?_)
    · skip
      refine to_iconst (dat dk_X12_add 11 rfl) ?_
      exact jn25_n5 0 (by decide) (show (0 : Int) = 1 ∨ h.2.2 60 4 ≤ 199 by omega)
    · skip
      refine to_iconst (dat dk_X12_add 9 rfl) (to_goto (dat dk_X12_add 10 rfl) rfl ?_)
      exact jn25_n5 1 (by decide) (show (1 : Int) = 1 ∨ h.2.2 60 4 ≤ 199 by omega)
