/-! Contracts, by program. -/
abbrev Q_X2_base64 (h : Hp) (a : Nat) (f : Int) (t : Int) (o : Nat) : Option V → Hp → Nat → Nat → Prop := RV (fun H => Inv H ∧ Fr [o] h H)
set_option maxRecDepth 100000 in
theorem ct_X2_base64 (l : Launch) (h : Hp) (hI : Inv h) (a : Nat) (ha : isB a = true) (f : Int) (hf : I32 f) (t : Int) (ht : I32 t) (o : Nat) (ho : isB o = true) : Ct l D_X2_base64 2 40 [.inr (.inr a), .inl f, .inl t, .inr (.inr o)] h (Q_X2_base64 h a f t o) := by
  refine ct_of pn_X2_base64 (Nat.le_of_ble_eq_true rfl) ?_
  show To l E_X2_base64 (0, [(0, .inr (.inr a)), (1, .inl f), (2, .inl t), (3, .inr (.inr o))], [], h, 0, 0) _
  refine to_iconst (dat dk_X2_base64 0 rfl) (to_istore (L' := [(0, .inr (.inr a)), (1, .inl f), (2, .inl t), (3, .inr (.inr o)), (4, .inl 0)]) (dat dk_X2_base64 1 rfl) (by decide) rfl (to_iconst (dat dk_X2_base64 2 rfl) (to_istore (L' := [(0, .inr (.inr a)), (1, .inl f), (2, .inl t), (3, .inr (.inr o)), (4, .inl 0), (5, .inl 0)]) (dat dk_X2_base64 3 rfl) (by decide) rfl (to_iload_n (dat dk_X2_base64 4 rfl) rfl (to_istore (L' := [(0, .inr (.inr a)), (1, .inl f), (2, .inl t), (3, .inr (.inr o)), (4, .inl 0), (5, .inl 0), (6, .inl f)]) (dat dk_X2_base64 5 rfl) (by decide) rfl ?_)))))
  have lp9_n6 : ∀ (n6 : Nat) (y1 : Int) (y2 : Int) (y3 : Int) (h4 : Hp), (I32 y1) → (I32 y2) → (I32 y3) → (Inv h4) → (Fr [o] h h4) → (0 ≤ y2 ∧ y2 ≤ 3) → (t - y3 ≤ (n6 : Int)) → To l E_X2_base64 (9, [(0, .inr (.inr a)), (1, .inl f), (2, .inl t), (3, .inr (.inr o)), (4, .inl y1), (5, .inl y2), (6, .inl y3)], [], h4, 0, 0) (Q_X2_base64 h a f t o) := by
    intro n6
    induction n6 using Nat.strongRecOn with
    | _ n6 ihn6 =>
    intro y1 y2 y3 h4 ry1 ry2 ry3 Ih4 fh4 c5 c7
    refine to_iload (dat dk_X2_base64 6 rfl) rfl (to_iload_n (dat dk_X2_base64 7 rfl) rfl ?_)
    refine to_ige 84 (dat dk_X2_base64 8 rfl) rfl ry3 ht (fun c8 => ?_) (fun c8 => ?_)
    · skip
      refine to_iload (dat dk_X2_base64 44 rfl) rfl (to_iconst (dat dk_X2_base64 45 rfl) ?_)
      refine to_ine 110 (dat dk_X2_base64 46 rfl) rfl ry2 (by decide) (fun c9 => ?_) (fun c9 => ?_)
      · skip
        refine to_iload (dat dk_X2_base64 58 rfl) rfl (to_iconst (dat dk_X2_base64 59 rfl) ?_)
        refine to_ine 124 (dat dk_X2_base64 60 rfl) rfl ry2 (by decide) (fun c10 => ?_) (fun c10 => ?_)
        · skip
          exact to_vret rfl (dat dk_X2_base64 66 rfl) (rv_mk ⟨Ih4, fh4⟩)
        · skip
          refine to_aload_np (dat dk_X2_base64 61 rfl) (Ih4.1.2.2.2 _ _ (Ih4.bty ho)).1 rfl (to_iload (dat dk_X2_base64 62 rfl) rfl (to_iconst (dat dk_X2_base64 63 rfl) ?_))
          refine to_ishr (dat dk_X2_base64 64 rfl) (fun x11 rx11 => ?_)
          obtain ⟨x12, ex12⟩ : ∃ y : Int, h4.2.2 o 1 = y := ⟨_, rfl⟩
          have rx12 := Ih4.blen ho
          rw [ex12] at rx12
          refine to_cV ca_c3_20 (dat dk_X2_base64 65 rfl) (ct_X1_put l h4 Ih4 o ho x11 rx11) rfl ⟨_, _, rfl, (Ih4.bty ho)⟩ rfl (fun h14 p15 => ?_)
          obtain ⟨Ih14, fh14, p15_0⟩ := p15
          have f16 : Fr [o] h h14 := Fr.sub fh4 fh14 (sub_self _)
          exact to_vret rfl (dat dk_X2_base64 66 rfl) (rv_mk ⟨Ih14, f16⟩)
      · skip
        refine to_aload_np (dat dk_X2_base64 47 rfl) (Ih4.1.2.2.2 _ _ (Ih4.bty ho)).1 rfl (to_iload (dat dk_X2_base64 48 rfl) rfl (to_bipush (dat dk_X2_base64 49 rfl) (by decide) ?_))
        refine to_ishr (dat dk_X2_base64 50 rfl) (fun x17 rx17 => ?_)
        obtain ⟨x18, ex18⟩ : ∃ y : Int, h4.2.2 o 1 = y := ⟨_, rfl⟩
        have rx18 := Ih4.blen ho
        rw [ex18] at rx18
        refine to_cV ca_c3_20 (dat dk_X2_base64 51 rfl) (ct_X1_put l h4 Ih4 o ho x17 rx17) rfl ⟨_, _, rfl, (Ih4.bty ho)⟩ rfl (fun h20 p21 => ?_)
        obtain ⟨Ih20, fh20, p21_0⟩ := p21
        have f22 : Fr [o] h h20 := Fr.sub fh4 fh20 (sub_self _)
        refine to_aload_np (dat dk_X2_base64 52 rfl) (Ih20.1.2.2.2 _ _ (Ih20.bty ho)).1 rfl (to_iload (dat dk_X2_base64 53 rfl) rfl (to_iconst (dat dk_X2_base64 54 rfl) ?_))
        refine to_ishr (dat dk_X2_base64 55 rfl) (fun x23 rx23 => ?_)
        obtain ⟨x24, ex24⟩ : ∃ y : Int, h20.2.2 o 1 = y := ⟨_, rfl⟩
        have rx24 := Ih20.blen ho
        rw [ex24] at rx24
        refine to_cV ca_c3_20 (dat dk_X2_base64 56 rfl) (ct_X1_put l h20 Ih20 o ho x23 rx23) rfl ⟨_, _, rfl, (Ih20.bty ho)⟩ rfl (fun h26 p27 => ?_)
        obtain ⟨Ih26, fh26, p27_0⟩ := p27
        have f28 : Fr [o] h h26 := Fr.sub f22 fh26 (sub_self _)
        refine to_goto (dat dk_X2_base64 57 rfl) rfl ?_
        exact to_vret rfl (dat dk_X2_base64 66 rfl) (rv_mk ⟨Ih26, f28⟩)
    · skip
      refine to_aload_np (dat dk_X2_base64 9 rfl) (Ih4.1.2.2.2 _ _ (Ih4.bty ha)).1 rfl (to_iload (dat dk_X2_base64 10 rfl) rfl ?_)
      obtain ⟨x29, ex29⟩ : ∃ y : Int, h4.2.2 a 1 = y := ⟨_, rfl⟩
      have rx29 := Ih4.blen ha
      rw [ex29] at rx29
      refine to_cI ca_c3_9 (dat dk_X2_base64 11 rfl) (ct_X1_byteAt l h4 Ih4 a ha y3 ry3) rfl ⟨_, _, rfl, (Ih4.bty ha)⟩ rfl (fun x30 h31 rx30 p32 => ?_)
      obtain ⟨rfl, p32_0⟩ := p32
      refine to_cI ca_c3_15 (dat dk_X2_base64 12 rfl) (ct_X9_base64Digit l h4 Ih4 x30 rx30) rfl trivial rfl (fun x33 h34 rx33 p35 => ?_)
      subst p35
      refine to_istore (L' := [(0, .inr (.inr a)), (1, .inl f), (2, .inl t), (3, .inr (.inr o)), (4, .inl y1), (5, .inl y2), (6, .inl y3), (7, .inl x33)]) (dat dk_X2_base64 13 rfl) (by decide) rfl (to_iload (dat dk_X2_base64 14 rfl) rfl (to_iconst (dat dk_X2_base64 15 rfl) ?_))
      refine to_ieq 45 (dat dk_X2_base64 16 rfl) rfl rx33 (by decide) (fun c36 => ?_) (fun c36 => ?_)
      · skip
        refine to_iload (dat dk_X2_base64 24 rfl) rfl (to_iconst (dat dk_X2_base64 25 rfl) ?_)
        refine to_ine 78 (dat dk_X2_base64 26 rfl) rfl ry2 (by decide) (fun c37 => ?_) (fun c37 => ?_)
        · skip
          refine to_iinc (L' := [(0, .inr (.inr a)), (1, .inl f), (2, .inl t), (3, .inr (.inr o)), (4, .inl y1), (5, .inl y2), (6, .inl (y3 + 1)), (7, .inl x33)]) (dat dk_X2_base64 42 rfl) rfl (by decide) rfl (to_goto (dat dk_X2_base64 43 rfl) rfl ?_)
          refine to_pick [0, 1, 2, 3, 4, 5, 6] rfl ?_
          exact ihn6 (n6 - 1) (by omega) y1 y2 (y3 + 1) h4 ry1 ry2 (by omega) Ih4 fh4 (show 0 ≤ y2 ∧ y2 ≤ 3 by omega) (show t - (y3 + 1) ≤ ((n6 - 1 : Nat) : Int) by omega)
        · skip
          refine to_aload_np (dat dk_X2_base64 27 rfl) (Ih4.1.2.2.2 _ _ (Ih4.bty ho)).1 rfl (to_iload (dat dk_X2_base64 28 rfl) rfl (to_bipush (dat dk_X2_base64 29 rfl) (by decide) ?_))
          refine to_ishr (dat dk_X2_base64 30 rfl) (fun x38 rx38 => ?_)
          obtain ⟨x39, ex39⟩ : ∃ y : Int, h4.2.2 o 1 = y := ⟨_, rfl⟩
          have rx39 := Ih4.blen ho
          rw [ex39] at rx39
          refine to_cV ca_c3_20 (dat dk_X2_base64 31 rfl) (ct_X1_put l h4 Ih4 o ho x38 rx38) rfl ⟨_, _, rfl, (Ih4.bty ho)⟩ rfl (fun h41 p42 => ?_)
          obtain ⟨Ih41, fh41, p42_0⟩ := p42
          have f43 : Fr [o] h h41 := Fr.sub fh4 fh41 (sub_self _)
          refine to_aload_np (dat dk_X2_base64 32 rfl) (Ih41.1.2.2.2 _ _ (Ih41.bty ho)).1 rfl (to_iload (dat dk_X2_base64 33 rfl) rfl (to_bipush (dat dk_X2_base64 34 rfl) (by decide) ?_))
          refine to_ishr (dat dk_X2_base64 35 rfl) (fun x44 rx44 => ?_)
          obtain ⟨x45, ex45⟩ : ∃ y : Int, h41.2.2 o 1 = y := ⟨_, rfl⟩
          have rx45 := Ih41.blen ho
          rw [ex45] at rx45
          refine to_cV ca_c3_20 (dat dk_X2_base64 36 rfl) (ct_X1_put l h41 Ih41 o ho x44 rx44) rfl ⟨_, _, rfl, (Ih41.bty ho)⟩ rfl (fun h47 p48 => ?_)
          obtain ⟨Ih47, fh47, p48_0⟩ := p48
          have f49 : Fr [o] h h47 := Fr.sub f43 fh47 (sub_self _)
          refine to_aload_np (dat dk_X2_base64 37 rfl) (Ih47.1.2.2.2 _ _ (Ih47.bty ho)).1 rfl (to_iload (dat dk_X2_base64 38 rfl) rfl ?_)
          obtain ⟨x50, ex50⟩ : ∃ y : Int, h47.2.2 o 1 = y := ⟨_, rfl⟩
          have rx50 := Ih47.blen ho
          rw [ex50] at rx50
          refine to_cV ca_c3_20 (dat dk_X2_base64 39 rfl) (ct_X1_put l h47 Ih47 o ho y1 ry1) rfl ⟨_, _, rfl, (Ih47.bty ho)⟩ rfl (fun h52 p53 => ?_)
          obtain ⟨Ih52, fh52, p53_0⟩ := p53
          have f54 : Fr [o] h h52 := Fr.sub f49 fh52 (sub_self _)
          refine to_iconst (dat dk_X2_base64 40 rfl) (to_istore (L' := [(0, .inr (.inr a)), (1, .inl f), (2, .inl t), (3, .inr (.inr o)), (4, .inl y1), (5, .inl 0), (6, .inl y3), (7, .inl x33)]) (dat dk_X2_base64 41 rfl) (by decide) rfl (to_iinc (L' := [(0, .inr (.inr a)), (1, .inl f), (2, .inl t), (3, .inr (.inr o)), (4, .inl y1), (5, .inl 0), (6, .inl (y3 + 1)), (7, .inl x33)]) (dat dk_X2_base64 42 rfl) rfl (by decide) rfl (to_goto (dat dk_X2_base64 43 rfl) rfl ?_)))
          refine to_pick [0, 1, 2, 3, 4, 5, 6] rfl ?_
          exact ihn6 (n6 - 1) (by omega) y1 0 (y3 + 1) h52 ry1 (by decide) (by omega) Ih52 f54 (show 0 ≤ (0 : Int) ∧ (0 : Int) ≤ 3 by omega) (show t - (y3 + 1) ≤ ((n6 - 1 : Nat) : Int) by omega)
      · skip
        refine to_iload (dat dk_X2_base64 17 rfl) rfl (to_bipush (dat dk_X2_base64 18 rfl) (by decide) ?_)
        refine to_ishl (dat dk_X2_base64 19 rfl) (fun x55 rx55 => ?_)
        refine to_iload (dat dk_X2_base64 20 rfl) rfl ?_
        refine to_ior (dat dk_X2_base64 21 rfl) (fun x56 rx56 => ?_)
        refine to_istore (L' := [(0, .inr (.inr a)), (1, .inl f), (2, .inl t), (3, .inr (.inr o)), (4, .inl x56), (5, .inl y2), (6, .inl y3), (7, .inl x33)]) (dat dk_X2_base64 22 rfl) (by decide) rfl (to_iinc (L' := [(0, .inr (.inr a)), (1, .inl f), (2, .inl t), (3, .inr (.inr o)), (4, .inl x56), (5, .inl (y2 + 1)), (6, .inl y3), (7, .inl x33)]) (dat dk_X2_base64 23 rfl) rfl (by decide) rfl (to_iload (dat dk_X2_base64 24 rfl) rfl (to_iconst (dat dk_X2_base64 25 rfl) ?_)))
        refine to_ine 78 (dat dk_X2_base64 26 rfl) rfl (by omega) (by decide) (fun c57 => ?_) (fun c57 => ?_)
        · skip
          refine to_iinc (L' := [(0, .inr (.inr a)), (1, .inl f), (2, .inl t), (3, .inr (.inr o)), (4, .inl x56), (5, .inl (y2 + 1)), (6, .inl (y3 + 1)), (7, .inl x33)]) (dat dk_X2_base64 42 rfl) rfl (by decide) rfl (to_goto (dat dk_X2_base64 43 rfl) rfl ?_)
          refine to_pick [0, 1, 2, 3, 4, 5, 6] rfl ?_
          exact ihn6 (n6 - 1) (by omega) x56 (y2 + 1) (y3 + 1) h4 rx56 (by omega) (by omega) Ih4 fh4 (show 0 ≤ (y2 + 1) ∧ (y2 + 1) ≤ 3 by omega) (show t - (y3 + 1) ≤ ((n6 - 1 : Nat) : Int) by omega)
        · skip
          refine to_aload_np (dat dk_X2_base64 27 rfl) (Ih4.1.2.2.2 _ _ (Ih4.bty ho)).1 rfl (to_iload (dat dk_X2_base64 28 rfl) rfl (to_bipush (dat dk_X2_base64 29 rfl) (by decide) ?_))
          refine to_ishr (dat dk_X2_base64 30 rfl) (fun x58 rx58 => ?_)
          obtain ⟨x59, ex59⟩ : ∃ y : Int, h4.2.2 o 1 = y := ⟨_, rfl⟩
          have rx59 := Ih4.blen ho
          rw [ex59] at rx59
          refine to_cV ca_c3_20 (dat dk_X2_base64 31 rfl) (ct_X1_put l h4 Ih4 o ho x58 rx58) rfl ⟨_, _, rfl, (Ih4.bty ho)⟩ rfl (fun h61 p62 => ?_)
          obtain ⟨Ih61, fh61, p62_0⟩ := p62
          have f63 : Fr [o] h h61 := Fr.sub fh4 fh61 (sub_self _)
          refine to_aload_np (dat dk_X2_base64 32 rfl) (Ih61.1.2.2.2 _ _ (Ih61.bty ho)).1 rfl (to_iload (dat dk_X2_base64 33 rfl) rfl (to_bipush (dat dk_X2_base64 34 rfl) (by decide) ?_))
          refine to_ishr (dat dk_X2_base64 35 rfl) (fun x64 rx64 => ?_)
          obtain ⟨x65, ex65⟩ : ∃ y : Int, h61.2.2 o 1 = y := ⟨_, rfl⟩
          have rx65 := Ih61.blen ho
          rw [ex65] at rx65
          refine to_cV ca_c3_20 (dat dk_X2_base64 36 rfl) (ct_X1_put l h61 Ih61 o ho x64 rx64) rfl ⟨_, _, rfl, (Ih61.bty ho)⟩ rfl (fun h67 p68 => ?_)
          obtain ⟨Ih67, fh67, p68_0⟩ := p68
          have f69 : Fr [o] h h67 := Fr.sub f63 fh67 (sub_self _)
          refine to_aload_np (dat dk_X2_base64 37 rfl) (Ih67.1.2.2.2 _ _ (Ih67.bty ho)).1 rfl (to_iload (dat dk_X2_base64 38 rfl) rfl ?_)
          obtain ⟨x70, ex70⟩ : ∃ y : Int, h67.2.2 o 1 = y := ⟨_, rfl⟩
          have rx70 := Ih67.blen ho
          rw [ex70] at rx70
          refine to_cV ca_c3_20 (dat dk_X2_base64 39 rfl) (ct_X1_put l h67 Ih67 o ho x56 rx56) rfl ⟨_, _, rfl, (Ih67.bty ho)⟩ rfl (fun h72 p73 => ?_)
          obtain ⟨Ih72, fh72, p73_0⟩ := p73
          have f74 : Fr [o] h h72 := Fr.sub f69 fh72 (sub_self _)
          refine to_iconst (dat dk_X2_base64 40 rfl) (to_istore (L' := [(0, .inr (.inr a)), (1, .inl f), (2, .inl t), (3, .inr (.inr o)), (4, .inl x56), (5, .inl 0), (6, .inl y3), (7, .inl x33)]) (dat dk_X2_base64 41 rfl) (by decide) rfl (to_iinc (L' := [(0, .inr (.inr a)), (1, .inl f), (2, .inl t), (3, .inr (.inr o)), (4, .inl x56), (5, .inl 0), (6, .inl (y3 + 1)), (7, .inl x33)]) (dat dk_X2_base64 42 rfl) rfl (by decide) rfl (to_goto (dat dk_X2_base64 43 rfl) rfl ?_)))
          refine to_pick [0, 1, 2, 3, 4, 5, 6] rfl ?_
          exact ihn6 (n6 - 1) (by omega) x56 0 (y3 + 1) h72 rx56 (by decide) (by omega) Ih72 f74 (show 0 ≤ (0 : Int) ∧ (0 : Int) ≤ 3 by omega) (show t - (y3 + 1) ≤ ((n6 - 1 : Nat) : Int) by omega)
  exact lp9_n6 (t - f).toNat 0 0 f h (by decide) (by decide) hf hI (Fr.rf _ _) (show 0 ≤ (0 : Int) ∧ (0 : Int) ≤ 3 by omega) (by omega)
abbrev Q_X2_escaped (h : Hp) (a : Nat) (f : Int) (t : Int) (c : Int) (o : Nat) : Option V → Hp → Nat → Nat → Prop := RV (fun H => Inv H ∧ Fr [o] h H)
set_option maxRecDepth 100000 in
theorem ct_X2_escaped (l : Launch) (h : Hp) (hI : Inv h) (a : Nat) (ha : isB a = true) (f : Int) (hf : I32 f) (t : Int) (ht : I32 t) (c : Int) (hc : c = 0 ∨ c = 1) (o : Nat) (ho : isB o = true) : Ct l D_X2_escaped 1 21 [.inr (.inr a), .inl f, .inl t, .inl c, .inr (.inr o)] h (Q_X2_escaped h a f t c o) := by
  refine ct_of pn_X2_escaped (Nat.le_of_ble_eq_true rfl) ?_
  show To l E_X2_escaped (0, [(0, .inr (.inr a)), (1, .inl f), (2, .inl t), (3, .inl c), (4, .inr (.inr o))], [], h, 0, 0) _
  refine to_iload_n (dat dk_X2_escaped 0 rfl) rfl (to_istore (L' := [(0, .inr (.inr a)), (1, .inl f), (2, .inl t), (3, .inl c), (4, .inr (.inr o)), (5, .inl f)]) (dat dk_X2_escaped 1 rfl) (by decide) rfl ?_)
  have lp3_n3 : ∀ (n3 : Nat) (y1 : Int) (h2 : Hp), (I32 y1) → (Inv h2) → (Fr [o] h h2) → (t - y1 ≤ (n3 : Int)) → To l E_X2_escaped (3, [(0, .inr (.inr a)), (1, .inl f), (2, .inl t), (3, .inl c), (4, .inr (.inr o)), (5, .inl y1)], [], h2, 0, 0) (Q_X2_escaped h a f t c o) := by
    intro n3
    induction n3 using Nat.strongRecOn with
    | _ n3 ihn3 =>
    intro y1 h2 ry1 Ih2 fh2 c4
    refine to_iload (dat dk_X2_escaped 2 rfl) rfl (to_iload_n (dat dk_X2_escaped 3 rfl) rfl ?_)
    refine to_ige 133 (dat dk_X2_escaped 4 rfl) rfl ry1 ht (fun c5 => ?_) (fun c5 => ?_)
    · skip
      exact to_vret rfl (dat dk_X2_escaped 67 rfl) (rv_mk ⟨Ih2, fh2⟩)
    · skip
      refine to_aload_np (dat dk_X2_escaped 5 rfl) (Ih2.1.2.2.2 _ _ (Ih2.bty ha)).1 rfl (to_iload (dat dk_X2_escaped 6 rfl) rfl ?_)
      obtain ⟨x6, ex6⟩ : ∃ y : Int, h2.2.2 a 1 = y := ⟨_, rfl⟩
      have rx6 := Ih2.blen ha
      rw [ex6] at rx6
      refine to_cI ca_c3_9 (dat dk_X2_escaped 7 rfl) (ct_X1_byteAt l h2 Ih2 a ha y1 ry1) rfl ⟨_, _, rfl, (Ih2.bty ha)⟩ rfl (fun x7 h8 rx7 p9 => ?_)
      obtain ⟨rfl, p9_0⟩ := p9
      refine to_istore (L' := [(0, .inr (.inr a)), (1, .inl f), (2, .inl t), (3, .inl c), (4, .inr (.inr o)), (5, .inl y1), (6, .inl x7)]) (dat dk_X2_escaped 8 rfl) (by decide) rfl (to_iload (dat dk_X2_escaped 9 rfl) rfl (to_iconst (dat dk_X2_escaped 10 rfl) ?_))
      refine to_iaddA (dat dk_X2_escaped 11 rfl) (fun x10 rx10 => ?_)
      refine to_iload_n (dat dk_X2_escaped 12 rfl) rfl ?_
      refine to_ige 39 (dat dk_X2_escaped 13 rfl) rfl rx10 ht (fun c11 => ?_) (fun c11 => ?_)
      · skip
        refine to_iconst (dat dk_X2_escaped 21 rfl) (to_istore (L' := [(0, .inr (.inr a)), (1, .inl f), (2, .inl t), (3, .inl c), (4, .inr (.inr o)), (5, .inl y1), (6, .inl x7), (7, .inl (-1))]) (dat dk_X2_escaped 22 rfl) (by decide) rfl (to_iload (dat dk_X2_escaped 23 rfl) rfl (to_iconst (dat dk_X2_escaped 24 rfl) ?_)))
        refine to_iaddA (dat dk_X2_escaped 25 rfl) (fun x12 rx12 => ?_)
        refine to_iload_n (dat dk_X2_escaped 26 rfl) rfl ?_
        refine to_ige 64 (dat dk_X2_escaped 27 rfl) rfl rx12 ht (fun c13 => ?_) (fun c13 => ?_)
        · skip
          refine to_iconst (dat dk_X2_escaped 35 rfl) (to_istore (L' := [(0, .inr (.inr a)), (1, .inl f), (2, .inl t), (3, .inl c), (4, .inr (.inr o)), (5, .inl y1), (6, .inl x7), (7, .inl (-1)), (8, .inl (-1))]) (dat dk_X2_escaped 36 rfl) (by decide) rfl (to_iload (dat dk_X2_escaped 37 rfl) rfl (to_bipush (dat dk_X2_escaped 38 rfl) (by decide) ?_)))
          refine to_ine 104 (dat dk_X2_escaped 39 rfl) rfl rx7 (by decide) (fun c14 => ?_) (fun c14 => ?_)
          · skip
            refine to_aload_p (dat dk_X2_escaped 55 rfl) (Ih2.1.2.2.2 _ _ (Ih2.bty ho)).1 rfl (to_iload (dat dk_X2_escaped 56 rfl) rfl (to_bipush (dat dk_X2_escaped 57 rfl) (by decide) ?_))
            refine to_ine 122 (dat dk_X2_escaped 58 rfl) rfl rx7 (by decide) (fun c15 => ?_) (fun c15 => ?_)
            · skip
              refine to_iload (dat dk_X2_escaped 63 rfl) rfl ?_
              obtain ⟨x16, ex16⟩ : ∃ y : Int, h2.2.2 o 1 = y := ⟨_, rfl⟩
              have rx16 := Ih2.blen ho
              rw [ex16] at rx16
              refine to_cV ca_c3_20 (dat dk_X2_escaped 64 rfl) (ct_X1_put l h2 Ih2 o ho x7 rx7) rfl ⟨_, _, rfl, (Ih2.bty ho)⟩ rfl (fun h18 p19 => ?_)
              obtain ⟨Ih18, fh18, p19_0⟩ := p19
              have f20 : Fr [o] h h18 := Fr.sub fh2 fh18 (sub_self _)
              refine to_iinc (L' := [(0, .inr (.inr a)), (1, .inl f), (2, .inl t), (3, .inl c), (4, .inr (.inr o)), (5, .inl (y1 + 1)), (6, .inl x7), (7, .inl (-1)), (8, .inl (-1))]) (dat dk_X2_escaped 65 rfl) rfl (by decide) rfl (to_goto (dat dk_X2_escaped 66 rfl) rfl ?_)
              refine to_pick [0, 1, 2, 3, 4, 5] rfl ?_
              exact ihn3 (n3 - 1) (by omega) (y1 + 1) h18 (by omega) Ih18 f20 (show t - (y1 + 1) ≤ ((n3 - 1 : Nat) : Int) by omega)
            · skip
              refine to_iload_n (dat dk_X2_escaped 59 rfl) rfl ?_
              refine to_ifeq 122 (dat dk_X2_escaped 60 rfl) rfl (by omega) (fun c21 => ?_) (fun c21 => ?_)
              · skip
                refine to_iload (dat dk_X2_escaped 63 rfl) rfl ?_
                obtain ⟨x22, ex22⟩ : ∃ y : Int, h2.2.2 o 1 = y := ⟨_, rfl⟩
                have rx22 := Ih2.blen ho
                rw [ex22] at rx22
                refine to_cV ca_c3_20 (dat dk_X2_escaped 64 rfl) (ct_X1_put l h2 Ih2 o ho x7 rx7) rfl ⟨_, _, rfl, (Ih2.bty ho)⟩ rfl (fun h24 p25 => ?_)
                obtain ⟨Ih24, fh24, p25_0⟩ := p25
                have f26 : Fr [o] h h24 := Fr.sub fh2 fh24 (sub_self _)
                refine to_iinc (L' := [(0, .inr (.inr a)), (1, .inl f), (2, .inl t), (3, .inl c), (4, .inr (.inr o)), (5, .inl (y1 + 1)), (6, .inl x7), (7, .inl (-1)), (8, .inl (-1))]) (dat dk_X2_escaped 65 rfl) rfl (by decide) rfl (to_goto (dat dk_X2_escaped 66 rfl) rfl ?_)
                refine to_pick [0, 1, 2, 3, 4, 5] rfl ?_
                exact ihn3 (n3 - 1) (by omega) (y1 + 1) h24 (by omega) Ih24 f26 (show t - (y1 + 1) ≤ ((n3 - 1 : Nat) : Int) by omega)
              · skip
                refine to_bipush (dat dk_X2_escaped 61 rfl) (by decide) (to_goto (dat dk_X2_escaped 62 rfl) rfl ?_)
                obtain ⟨x27, ex27⟩ : ∃ y : Int, h2.2.2 o 1 = y := ⟨_, rfl⟩
                have rx27 := Ih2.blen ho
                rw [ex27] at rx27
                refine to_cV ca_c3_20 (dat dk_X2_escaped 64 rfl) (ct_X1_put l h2 Ih2 o ho 32 (by decide)) rfl ⟨_, _, rfl, (Ih2.bty ho)⟩ rfl (fun h29 p30 => ?_)
                obtain ⟨Ih29, fh29, p30_0⟩ := p30
                have f31 : Fr [o] h h29 := Fr.sub fh2 fh29 (sub_self _)
                refine to_iinc (L' := [(0, .inr (.inr a)), (1, .inl f), (2, .inl t), (3, .inl c), (4, .inr (.inr o)), (5, .inl (y1 + 1)), (6, .inl x7), (7, .inl (-1)), (8, .inl (-1))]) (dat dk_X2_escaped 65 rfl) rfl (by decide) rfl (to_goto (dat dk_X2_escaped 66 rfl) rfl ?_)
                refine to_pick [0, 1, 2, 3, 4, 5] rfl ?_
                exact ihn3 (n3 - 1) (by omega) (y1 + 1) h29 (by omega) Ih29 f31 (show t - (y1 + 1) ≤ ((n3 - 1 : Nat) : Int) by omega)
          · skip
            refine to_iload (dat dk_X2_escaped 40 rfl) rfl (to_iconst (dat dk_X2_escaped 41 rfl) ?_)
            refine to_ieq 104 (dat dk_X2_escaped 42 rfl) rfl (by decide) (by decide) (fun c32 => ?_) (fun c32 => absurd c32 (by decide))
            refine to_aload_p (dat dk_X2_escaped 55 rfl) (Ih2.1.2.2.2 _ _ (Ih2.bty ho)).1 rfl (to_iload (dat dk_X2_escaped 56 rfl) rfl (to_bipush (dat dk_X2_escaped 57 rfl) (by decide) ?_))
            refine to_ine 122 (dat dk_X2_escaped 58 rfl) rfl rx7 (by decide) (fun c33 => ?_) (fun c33 => ?_)
            · skip
              refine to_iload (dat dk_X2_escaped 63 rfl) rfl ?_
              obtain ⟨x34, ex34⟩ : ∃ y : Int, h2.2.2 o 1 = y := ⟨_, rfl⟩
              have rx34 := Ih2.blen ho
              rw [ex34] at rx34
              refine to_cV ca_c3_20 (dat dk_X2_escaped 64 rfl) (ct_X1_put l h2 Ih2 o ho x7 rx7) rfl ⟨_, _, rfl, (Ih2.bty ho)⟩ rfl (fun h36 p37 => ?_)
              obtain ⟨Ih36, fh36, p37_0⟩ := p37
              have f38 : Fr [o] h h36 := Fr.sub fh2 fh36 (sub_self _)
              refine to_iinc (L' := [(0, .inr (.inr a)), (1, .inl f), (2, .inl t), (3, .inl c), (4, .inr (.inr o)), (5, .inl (y1 + 1)), (6, .inl x7), (7, .inl (-1)), (8, .inl (-1))]) (dat dk_X2_escaped 65 rfl) rfl (by decide) rfl (to_goto (dat dk_X2_escaped 66 rfl) rfl ?_)
              refine to_pick [0, 1, 2, 3, 4, 5] rfl ?_
              exact ihn3 (n3 - 1) (by omega) (y1 + 1) h36 (by omega) Ih36 f38 (show t - (y1 + 1) ≤ ((n3 - 1 : Nat) : Int) by omega)
            · skip
              refine to_iload_n (dat dk_X2_escaped 59 rfl) rfl ?_
              refine to_ifeq 122 (dat dk_X2_escaped 60 rfl) rfl (by omega) (fun c39 => ?_) (fun c39 => ?_)
              · skip
                refine to_iload (dat dk_X2_escaped 63 rfl) rfl ?_
                obtain ⟨x40, ex40⟩ : ∃ y : Int, h2.2.2 o 1 = y := ⟨_, rfl⟩
                have rx40 := Ih2.blen ho
                rw [ex40] at rx40
                refine to_cV ca_c3_20 (dat dk_X2_escaped 64 rfl) (ct_X1_put l h2 Ih2 o ho x7 rx7) rfl ⟨_, _, rfl, (Ih2.bty ho)⟩ rfl (fun h42 p43 => ?_)
                obtain ⟨Ih42, fh42, p43_0⟩ := p43
                have f44 : Fr [o] h h42 := Fr.sub fh2 fh42 (sub_self _)
                refine to_iinc (L' := [(0, .inr (.inr a)), (1, .inl f), (2, .inl t), (3, .inl c), (4, .inr (.inr o)), (5, .inl (y1 + 1)), (6, .inl x7), (7, .inl (-1)), (8, .inl (-1))]) (dat dk_X2_escaped 65 rfl) rfl (by decide) rfl (to_goto (dat dk_X2_escaped 66 rfl) rfl ?_)
                refine to_pick [0, 1, 2, 3, 4, 5] rfl ?_
                exact ihn3 (n3 - 1) (by omega) (y1 + 1) h42 (by omega) Ih42 f44 (show t - (y1 + 1) ≤ ((n3 - 1 : Nat) : Int) by omega)
              · skip
                refine to_bipush (dat dk_X2_escaped 61 rfl) (by decide) (to_goto (dat dk_X2_escaped 62 rfl) rfl ?_)
                obtain ⟨x45, ex45⟩ : ∃ y : Int, h2.2.2 o 1 = y := ⟨_, rfl⟩
                have rx45 := Ih2.blen ho
                rw [ex45] at rx45
                refine to_cV ca_c3_20 (dat dk_X2_escaped 64 rfl) (ct_X1_put l h2 Ih2 o ho 32 (by decide)) rfl ⟨_, _, rfl, (Ih2.bty ho)⟩ rfl (fun h47 p48 => ?_)
                obtain ⟨Ih47, fh47, p48_0⟩ := p48
                have f49 : Fr [o] h h47 := Fr.sub fh2 fh47 (sub_self _)
                refine to_iinc (L' := [(0, .inr (.inr a)), (1, .inl f), (2, .inl t), (3, .inl c), (4, .inr (.inr o)), (5, .inl (y1 + 1)), (6, .inl x7), (7, .inl (-1)), (8, .inl (-1))]) (dat dk_X2_escaped 65 rfl) rfl (by decide) rfl (to_goto (dat dk_X2_escaped 66 rfl) rfl ?_)
                refine to_pick [0, 1, 2, 3, 4, 5] rfl ?_
                exact ihn3 (n3 - 1) (by omega) (y1 + 1) h47 (by omega) Ih47 f49 (show t - (y1 + 1) ≤ ((n3 - 1 : Nat) : Int) by omega)
        · skip
          refine to_aload_np (dat dk_X2_escaped 28 rfl) (Ih2.1.2.2.2 _ _ (Ih2.bty ha)).1 rfl (to_iload (dat dk_X2_escaped 29 rfl) rfl (to_iconst (dat dk_X2_escaped 30 rfl) ?_))
          refine to_iaddA (dat dk_X2_escaped 31 rfl) (fun x50 rx50 => ?_)
          refine to_cI ca_c3_9 (dat dk_X2_escaped 32 rfl) (ct_X1_byteAt l h2 Ih2 a ha x50 rx50) rfl ⟨_, _, rfl, (Ih2.bty ha)⟩ rfl (fun x51 h52 rx51 p53 => ?_)
          obtain ⟨rfl, p53_0⟩ := p53
          refine to_cI ca_c3_79 (dat dk_X2_escaped 33 rfl) (ct_X9_hexDigit l h2 Ih2 x51 rx51) rfl trivial rfl (fun x54 h55 rx54 p56 => ?_)
          obtain ⟨rfl, p56_0, p56_1⟩ := p56
          refine to_goto (dat dk_X2_escaped 34 rfl) rfl (to_istore (L' := [(0, .inr (.inr a)), (1, .inl f), (2, .inl t), (3, .inl c), (4, .inr (.inr o)), (5, .inl y1), (6, .inl x7), (7, .inl (-1)), (8, .inl x54)]) (dat dk_X2_escaped 36 rfl) (by decide) rfl (to_iload (dat dk_X2_escaped 37 rfl) rfl (to_bipush (dat dk_X2_escaped 38 rfl) (by decide) ?_)))
          refine to_ine 104 (dat dk_X2_escaped 39 rfl) rfl rx7 (by decide) (fun c57 => ?_) (fun c57 => ?_)
          · skip
            refine to_aload_p (dat dk_X2_escaped 55 rfl) (Ih2.1.2.2.2 _ _ (Ih2.bty ho)).1 rfl (to_iload (dat dk_X2_escaped 56 rfl) rfl (to_bipush (dat dk_X2_escaped 57 rfl) (by decide) ?_))
            refine to_ine 122 (dat dk_X2_escaped 58 rfl) rfl rx7 (by decide) (fun c58 => ?_) (fun c58 => ?_)
            · skip
              refine to_iload (dat dk_X2_escaped 63 rfl) rfl ?_
              obtain ⟨x59, ex59⟩ : ∃ y : Int, h2.2.2 o 1 = y := ⟨_, rfl⟩
              have rx59 := Ih2.blen ho
              rw [ex59] at rx59
              refine to_cV ca_c3_20 (dat dk_X2_escaped 64 rfl) (ct_X1_put l h2 Ih2 o ho x7 rx7) rfl ⟨_, _, rfl, (Ih2.bty ho)⟩ rfl (fun h61 p62 => ?_)
              obtain ⟨Ih61, fh61, p62_0⟩ := p62
              have f63 : Fr [o] h h61 := Fr.sub fh2 fh61 (sub_self _)
              refine to_iinc (L' := [(0, .inr (.inr a)), (1, .inl f), (2, .inl t), (3, .inl c), (4, .inr (.inr o)), (5, .inl (y1 + 1)), (6, .inl x7), (7, .inl (-1)), (8, .inl x54)]) (dat dk_X2_escaped 65 rfl) rfl (by decide) rfl (to_goto (dat dk_X2_escaped 66 rfl) rfl ?_)
              refine to_pick [0, 1, 2, 3, 4, 5] rfl ?_
              exact ihn3 (n3 - 1) (by omega) (y1 + 1) h61 (by omega) Ih61 f63 (show t - (y1 + 1) ≤ ((n3 - 1 : Nat) : Int) by omega)
            · skip
              refine to_iload_n (dat dk_X2_escaped 59 rfl) rfl ?_
              refine to_ifeq 122 (dat dk_X2_escaped 60 rfl) rfl (by omega) (fun c64 => ?_) (fun c64 => ?_)
              · skip
                refine to_iload (dat dk_X2_escaped 63 rfl) rfl ?_
                obtain ⟨x65, ex65⟩ : ∃ y : Int, h2.2.2 o 1 = y := ⟨_, rfl⟩
                have rx65 := Ih2.blen ho
                rw [ex65] at rx65
                refine to_cV ca_c3_20 (dat dk_X2_escaped 64 rfl) (ct_X1_put l h2 Ih2 o ho x7 rx7) rfl ⟨_, _, rfl, (Ih2.bty ho)⟩ rfl (fun h67 p68 => ?_)
                obtain ⟨Ih67, fh67, p68_0⟩ := p68
                have f69 : Fr [o] h h67 := Fr.sub fh2 fh67 (sub_self _)
                refine to_iinc (L' := [(0, .inr (.inr a)), (1, .inl f), (2, .inl t), (3, .inl c), (4, .inr (.inr o)), (5, .inl (y1 + 1)), (6, .inl x7), (7, .inl (-1)), (8, .inl x54)]) (dat dk_X2_escaped 65 rfl) rfl (by decide) rfl (to_goto (dat dk_X2_escaped 66 rfl) rfl ?_)
                refine to_pick [0, 1, 2, 3, 4, 5] rfl ?_
                exact ihn3 (n3 - 1) (by omega) (y1 + 1) h67 (by omega) Ih67 f69 (show t - (y1 + 1) ≤ ((n3 - 1 : Nat) : Int) by omega)
              · skip
                refine to_bipush (dat dk_X2_escaped 61 rfl) (by decide) (to_goto (dat dk_X2_escaped 62 rfl) rfl ?_)
                obtain ⟨x70, ex70⟩ : ∃ y : Int, h2.2.2 o 1 = y := ⟨_, rfl⟩
                have rx70 := Ih2.blen ho
                rw [ex70] at rx70
                refine to_cV ca_c3_20 (dat dk_X2_escaped 64 rfl) (ct_X1_put l h2 Ih2 o ho 32 (by decide)) rfl ⟨_, _, rfl, (Ih2.bty ho)⟩ rfl (fun h72 p73 => ?_)
                obtain ⟨Ih72, fh72, p73_0⟩ := p73
                have f74 : Fr [o] h h72 := Fr.sub fh2 fh72 (sub_self _)
                refine to_iinc (L' := [(0, .inr (.inr a)), (1, .inl f), (2, .inl t), (3, .inl c), (4, .inr (.inr o)), (5, .inl (y1 + 1)), (6, .inl x7), (7, .inl (-1)), (8, .inl x54)]) (dat dk_X2_escaped 65 rfl) rfl (by decide) rfl (to_goto (dat dk_X2_escaped 66 rfl) rfl ?_)
                refine to_pick [0, 1, 2, 3, 4, 5] rfl ?_
                exact ihn3 (n3 - 1) (by omega) (y1 + 1) h72 (by omega) Ih72 f74 (show t - (y1 + 1) ≤ ((n3 - 1 : Nat) : Int) by omega)
          · skip
            refine to_iload (dat dk_X2_escaped 40 rfl) rfl (to_iconst (dat dk_X2_escaped 41 rfl) ?_)
            refine to_ieq 104 (dat dk_X2_escaped 42 rfl) rfl (by decide) (by decide) (fun c75 => ?_) (fun c75 => absurd c75 (by decide))
            refine to_aload_p (dat dk_X2_escaped 55 rfl) (Ih2.1.2.2.2 _ _ (Ih2.bty ho)).1 rfl (to_iload (dat dk_X2_escaped 56 rfl) rfl (to_bipush (dat dk_X2_escaped 57 rfl) (by decide) ?_))
            refine to_ine 122 (dat dk_X2_escaped 58 rfl) rfl rx7 (by decide) (fun c76 => ?_) (fun c76 => ?_)
            · skip
              refine to_iload (dat dk_X2_escaped 63 rfl) rfl ?_
              obtain ⟨x77, ex77⟩ : ∃ y : Int, h2.2.2 o 1 = y := ⟨_, rfl⟩
              have rx77 := Ih2.blen ho
              rw [ex77] at rx77
              refine to_cV ca_c3_20 (dat dk_X2_escaped 64 rfl) (ct_X1_put l h2 Ih2 o ho x7 rx7) rfl ⟨_, _, rfl, (Ih2.bty ho)⟩ rfl (fun h79 p80 => ?_)
              obtain ⟨Ih79, fh79, p80_0⟩ := p80
              have f81 : Fr [o] h h79 := Fr.sub fh2 fh79 (sub_self _)
              refine to_iinc (L' := [(0, .inr (.inr a)), (1, .inl f), (2, .inl t), (3, .inl c), (4, .inr (.inr o)), (5, .inl (y1 + 1)), (6, .inl x7), (7, .inl (-1)), (8, .inl x54)]) (dat dk_X2_escaped 65 rfl) rfl (by decide) rfl (to_goto (dat dk_X2_escaped 66 rfl) rfl ?_)
              refine to_pick [0, 1, 2, 3, 4, 5] rfl ?_
              exact ihn3 (n3 - 1) (by omega) (y1 + 1) h79 (by omega) Ih79 f81 (show t - (y1 + 1) ≤ ((n3 - 1 : Nat) : Int) by omega)
            · skip
              refine to_iload_n (dat dk_X2_escaped 59 rfl) rfl ?_
              refine to_ifeq 122 (dat dk_X2_escaped 60 rfl) rfl (by omega) (fun c82 => ?_) (fun c82 => ?_)
              · skip
                refine to_iload (dat dk_X2_escaped 63 rfl) rfl ?_
                obtain ⟨x83, ex83⟩ : ∃ y : Int, h2.2.2 o 1 = y := ⟨_, rfl⟩
                have rx83 := Ih2.blen ho
                rw [ex83] at rx83
                refine to_cV ca_c3_20 (dat dk_X2_escaped 64 rfl) (ct_X1_put l h2 Ih2 o ho x7 rx7) rfl ⟨_, _, rfl, (Ih2.bty ho)⟩ rfl (fun h85 p86 => ?_)
                obtain ⟨Ih85, fh85, p86_0⟩ := p86
                have f87 : Fr [o] h h85 := Fr.sub fh2 fh85 (sub_self _)
                refine to_iinc (L' := [(0, .inr (.inr a)), (1, .inl f), (2, .inl t), (3, .inl c), (4, .inr (.inr o)), (5, .inl (y1 + 1)), (6, .inl x7), (7, .inl (-1)), (8, .inl x54)]) (dat dk_X2_escaped 65 rfl) rfl (by decide) rfl (to_goto (dat dk_X2_escaped 66 rfl) rfl ?_)
                refine to_pick [0, 1, 2, 3, 4, 5] rfl ?_
                exact ihn3 (n3 - 1) (by omega) (y1 + 1) h85 (by omega) Ih85 f87 (show t - (y1 + 1) ≤ ((n3 - 1 : Nat) : Int) by omega)
              · skip
                refine to_bipush (dat dk_X2_escaped 61 rfl) (by decide) (to_goto (dat dk_X2_escaped 62 rfl) rfl ?_)
                obtain ⟨x88, ex88⟩ : ∃ y : Int, h2.2.2 o 1 = y := ⟨_, rfl⟩
                have rx88 := Ih2.blen ho
                rw [ex88] at rx88
                refine to_cV ca_c3_20 (dat dk_X2_escaped 64 rfl) (ct_X1_put l h2 Ih2 o ho 32 (by decide)) rfl ⟨_, _, rfl, (Ih2.bty ho)⟩ rfl (fun h90 p91 => ?_)
                obtain ⟨Ih90, fh90, p91_0⟩ := p91
                have f92 : Fr [o] h h90 := Fr.sub fh2 fh90 (sub_self _)
                refine to_iinc (L' := [(0, .inr (.inr a)), (1, .inl f), (2, .inl t), (3, .inl c), (4, .inr (.inr o)), (5, .inl (y1 + 1)), (6, .inl x7), (7, .inl (-1)), (8, .inl x54)]) (dat dk_X2_escaped 65 rfl) rfl (by decide) rfl (to_goto (dat dk_X2_escaped 66 rfl) rfl ?_)
                refine to_pick [0, 1, 2, 3, 4, 5] rfl ?_
                exact ihn3 (n3 - 1) (by omega) (y1 + 1) h90 (by omega) Ih90 f92 (show t - (y1 + 1) ≤ ((n3 - 1 : Nat) : Int) by omega)
      · skip
        refine to_aload_np (dat dk_X2_escaped 14 rfl) (Ih2.1.2.2.2 _ _ (Ih2.bty ha)).1 rfl (to_iload (dat dk_X2_escaped 15 rfl) rfl (to_iconst (dat dk_X2_escaped 16 rfl) (to_iadd (dat dk_X2_escaped 17 rfl) ?_)))
        refine to_cI ca_c3_9 (dat dk_X2_escaped 18 rfl) (ct_X1_byteAt l h2 Ih2 a ha (y1 + 1) (by omega)) rfl ⟨_, _, rfl, (Ih2.bty ha)⟩ rfl (fun x93 h94 rx93 p95 => ?_)
        obtain ⟨rfl, p95_0⟩ := p95
        refine to_cI ca_c3_79 (dat dk_X2_escaped 19 rfl) (ct_X9_hexDigit l h2 Ih2 x93 rx93) rfl trivial rfl (fun x96 h97 rx96 p98 => ?_)
        obtain ⟨rfl, p98_0, p98_1⟩ := p98
        refine to_goto (dat dk_X2_escaped 20 rfl) rfl (to_istore (L' := [(0, .inr (.inr a)), (1, .inl f), (2, .inl t), (3, .inl c), (4, .inr (.inr o)), (5, .inl y1), (6, .inl x7), (7, .inl x96)]) (dat dk_X2_escaped 22 rfl) (by decide) rfl (to_iload (dat dk_X2_escaped 23 rfl) rfl (to_iconst (dat dk_X2_escaped 24 rfl) ?_)))
        refine to_iaddA (dat dk_X2_escaped 25 rfl) (fun x99 rx99 => ?_)
        refine to_iload_n (dat dk_X2_escaped 26 rfl) rfl ?_
        refine to_ige 64 (dat dk_X2_escaped 27 rfl) rfl rx99 ht (fun c100 => ?_) (fun c100 => ?_)
        · skip
          refine to_iconst (dat dk_X2_escaped 35 rfl) (to_istore (L' := [(0, .inr (.inr a)), (1, .inl f), (2, .inl t), (3, .inl c), (4, .inr (.inr o)), (5, .inl y1), (6, .inl x7), (7, .inl x96), (8, .inl (-1))]) (dat dk_X2_escaped 36 rfl) (by decide) rfl (to_iload (dat dk_X2_escaped 37 rfl) rfl (to_bipush (dat dk_X2_escaped 38 rfl) (by decide) ?_)))
          refine to_ine 104 (dat dk_X2_escaped 39 rfl) rfl rx7 (by decide) (fun c101 => ?_) (fun c101 => ?_)
          · skip
            refine to_aload_p (dat dk_X2_escaped 55 rfl) (Ih2.1.2.2.2 _ _ (Ih2.bty ho)).1 rfl (to_iload (dat dk_X2_escaped 56 rfl) rfl (to_bipush (dat dk_X2_escaped 57 rfl) (by decide) ?_))
            refine to_ine 122 (dat dk_X2_escaped 58 rfl) rfl rx7 (by decide) (fun c102 => ?_) (fun c102 => ?_)
            · skip
              refine to_iload (dat dk_X2_escaped 63 rfl) rfl ?_
              obtain ⟨x103, ex103⟩ : ∃ y : Int, h2.2.2 o 1 = y := ⟨_, rfl⟩
              have rx103 := Ih2.blen ho
              rw [ex103] at rx103
              refine to_cV ca_c3_20 (dat dk_X2_escaped 64 rfl) (ct_X1_put l h2 Ih2 o ho x7 rx7) rfl ⟨_, _, rfl, (Ih2.bty ho)⟩ rfl (fun h105 p106 => ?_)
              obtain ⟨Ih105, fh105, p106_0⟩ := p106
              have f107 : Fr [o] h h105 := Fr.sub fh2 fh105 (sub_self _)
              refine to_iinc (L' := [(0, .inr (.inr a)), (1, .inl f), (2, .inl t), (3, .inl c), (4, .inr (.inr o)), (5, .inl (y1 + 1)), (6, .inl x7), (7, .inl x96), (8, .inl (-1))]) (dat dk_X2_escaped 65 rfl) rfl (by decide) rfl (to_goto (dat dk_X2_escaped 66 rfl) rfl ?_)
              refine to_pick [0, 1, 2, 3, 4, 5] rfl ?_
              exact ihn3 (n3 - 1) (by omega) (y1 + 1) h105 (by omega) Ih105 f107 (show t - (y1 + 1) ≤ ((n3 - 1 : Nat) : Int) by omega)
            · skip
              refine to_iload_n (dat dk_X2_escaped 59 rfl) rfl ?_
              refine to_ifeq 122 (dat dk_X2_escaped 60 rfl) rfl (by omega) (fun c108 => ?_) (fun c108 => ?_)
              · skip
                refine to_iload (dat dk_X2_escaped 63 rfl) rfl ?_
                obtain ⟨x109, ex109⟩ : ∃ y : Int, h2.2.2 o 1 = y := ⟨_, rfl⟩
                have rx109 := Ih2.blen ho
                rw [ex109] at rx109
                refine to_cV ca_c3_20 (dat dk_X2_escaped 64 rfl) (ct_X1_put l h2 Ih2 o ho x7 rx7) rfl ⟨_, _, rfl, (Ih2.bty ho)⟩ rfl (fun h111 p112 => ?_)
                obtain ⟨Ih111, fh111, p112_0⟩ := p112
                have f113 : Fr [o] h h111 := Fr.sub fh2 fh111 (sub_self _)
                refine to_iinc (L' := [(0, .inr (.inr a)), (1, .inl f), (2, .inl t), (3, .inl c), (4, .inr (.inr o)), (5, .inl (y1 + 1)), (6, .inl x7), (7, .inl x96), (8, .inl (-1))]) (dat dk_X2_escaped 65 rfl) rfl (by decide) rfl (to_goto (dat dk_X2_escaped 66 rfl) rfl ?_)
                refine to_pick [0, 1, 2, 3, 4, 5] rfl ?_
                exact ihn3 (n3 - 1) (by omega) (y1 + 1) h111 (by omega) Ih111 f113 (show t - (y1 + 1) ≤ ((n3 - 1 : Nat) : Int) by omega)
              · skip
                refine to_bipush (dat dk_X2_escaped 61 rfl) (by decide) (to_goto (dat dk_X2_escaped 62 rfl) rfl ?_)
                obtain ⟨x114, ex114⟩ : ∃ y : Int, h2.2.2 o 1 = y := ⟨_, rfl⟩
                have rx114 := Ih2.blen ho
                rw [ex114] at rx114
                refine to_cV ca_c3_20 (dat dk_X2_escaped 64 rfl) (ct_X1_put l h2 Ih2 o ho 32 (by decide)) rfl ⟨_, _, rfl, (Ih2.bty ho)⟩ rfl (fun h116 p117 => ?_)
                obtain ⟨Ih116, fh116, p117_0⟩ := p117
                have f118 : Fr [o] h h116 := Fr.sub fh2 fh116 (sub_self _)
                refine to_iinc (L' := [(0, .inr (.inr a)), (1, .inl f), (2, .inl t), (3, .inl c), (4, .inr (.inr o)), (5, .inl (y1 + 1)), (6, .inl x7), (7, .inl x96), (8, .inl (-1))]) (dat dk_X2_escaped 65 rfl) rfl (by decide) rfl (to_goto (dat dk_X2_escaped 66 rfl) rfl ?_)
                refine to_pick [0, 1, 2, 3, 4, 5] rfl ?_
                exact ihn3 (n3 - 1) (by omega) (y1 + 1) h116 (by omega) Ih116 f118 (show t - (y1 + 1) ≤ ((n3 - 1 : Nat) : Int) by omega)
          · skip
            refine to_iload (dat dk_X2_escaped 40 rfl) rfl (to_iconst (dat dk_X2_escaped 41 rfl) ?_)
            refine to_ieq 104 (dat dk_X2_escaped 42 rfl) rfl rx96 (by decide) (fun c119 => ?_) (fun c119 => ?_)
            · skip
              refine to_aload_p (dat dk_X2_escaped 55 rfl) (Ih2.1.2.2.2 _ _ (Ih2.bty ho)).1 rfl (to_iload (dat dk_X2_escaped 56 rfl) rfl (to_bipush (dat dk_X2_escaped 57 rfl) (by decide) ?_))
              refine to_ine 122 (dat dk_X2_escaped 58 rfl) rfl rx7 (by decide) (fun c120 => ?_) (fun c120 => ?_)
              · skip
                refine to_iload (dat dk_X2_escaped 63 rfl) rfl ?_
                obtain ⟨x121, ex121⟩ : ∃ y : Int, h2.2.2 o 1 = y := ⟨_, rfl⟩
                have rx121 := Ih2.blen ho
                rw [ex121] at rx121
                refine to_cV ca_c3_20 (dat dk_X2_escaped 64 rfl) (ct_X1_put l h2 Ih2 o ho x7 rx7) rfl ⟨_, _, rfl, (Ih2.bty ho)⟩ rfl (fun h123 p124 => ?_)
                obtain ⟨Ih123, fh123, p124_0⟩ := p124
                have f125 : Fr [o] h h123 := Fr.sub fh2 fh123 (sub_self _)
                refine to_iinc (L' := [(0, .inr (.inr a)), (1, .inl f), (2, .inl t), (3, .inl c), (4, .inr (.inr o)), (5, .inl (y1 + 1)), (6, .inl x7), (7, .inl x96), (8, .inl (-1))]) (dat dk_X2_escaped 65 rfl) rfl (by decide) rfl (to_goto (dat dk_X2_escaped 66 rfl) rfl ?_)
                refine to_pick [0, 1, 2, 3, 4, 5] rfl ?_
                exact ihn3 (n3 - 1) (by omega) (y1 + 1) h123 (by omega) Ih123 f125 (show t - (y1 + 1) ≤ ((n3 - 1 : Nat) : Int) by omega)
              · skip
                refine to_iload_n (dat dk_X2_escaped 59 rfl) rfl ?_
                refine to_ifeq 122 (dat dk_X2_escaped 60 rfl) rfl (by omega) (fun c126 => ?_) (fun c126 => ?_)
                · skip
                  refine to_iload (dat dk_X2_escaped 63 rfl) rfl ?_
                  obtain ⟨x127, ex127⟩ : ∃ y : Int, h2.2.2 o 1 = y := ⟨_, rfl⟩
                  have rx127 := Ih2.blen ho
                  rw [ex127] at rx127
                  refine to_cV ca_c3_20 (dat dk_X2_escaped 64 rfl) (ct_X1_put l h2 Ih2 o ho x7 rx7) rfl ⟨_, _, rfl, (Ih2.bty ho)⟩ rfl (fun h129 p130 => ?_)
                  obtain ⟨Ih129, fh129, p130_0⟩ := p130
                  have f131 : Fr [o] h h129 := Fr.sub fh2 fh129 (sub_self _)
                  refine to_iinc (L' := [(0, .inr (.inr a)), (1, .inl f), (2, .inl t), (3, .inl c), (4, .inr (.inr o)), (5, .inl (y1 + 1)), (6, .inl x7), (7, .inl x96), (8, .inl (-1))]) (dat dk_X2_escaped 65 rfl) rfl (by decide) rfl (to_goto (dat dk_X2_escaped 66 rfl) rfl ?_)
                  refine to_pick [0, 1, 2, 3, 4, 5] rfl ?_
                  exact ihn3 (n3 - 1) (by omega) (y1 + 1) h129 (by omega) Ih129 f131 (show t - (y1 + 1) ≤ ((n3 - 1 : Nat) : Int) by omega)
                · skip
                  refine to_bipush (dat dk_X2_escaped 61 rfl) (by decide) (to_goto (dat dk_X2_escaped 62 rfl) rfl ?_)
                  obtain ⟨x132, ex132⟩ : ∃ y : Int, h2.2.2 o 1 = y := ⟨_, rfl⟩
                  have rx132 := Ih2.blen ho
                  rw [ex132] at rx132
                  refine to_cV ca_c3_20 (dat dk_X2_escaped 64 rfl) (ct_X1_put l h2 Ih2 o ho 32 (by decide)) rfl ⟨_, _, rfl, (Ih2.bty ho)⟩ rfl (fun h134 p135 => ?_)
                  obtain ⟨Ih134, fh134, p135_0⟩ := p135
                  have f136 : Fr [o] h h134 := Fr.sub fh2 fh134 (sub_self _)
                  refine to_iinc (L' := [(0, .inr (.inr a)), (1, .inl f), (2, .inl t), (3, .inl c), (4, .inr (.inr o)), (5, .inl (y1 + 1)), (6, .inl x7), (7, .inl x96), (8, .inl (-1))]) (dat dk_X2_escaped 65 rfl) rfl (by decide) rfl (to_goto (dat dk_X2_escaped 66 rfl) rfl ?_)
                  refine to_pick [0, 1, 2, 3, 4, 5] rfl ?_
                  exact ihn3 (n3 - 1) (by omega) (y1 + 1) h134 (by omega) Ih134 f136 (show t - (y1 + 1) ≤ ((n3 - 1 : Nat) : Int) by omega)
            · skip
              refine to_iload (dat dk_X2_escaped 43 rfl) rfl (to_iconst (dat dk_X2_escaped 44 rfl) ?_)
              refine to_ieq 104 (dat dk_X2_escaped 45 rfl) rfl (by decide) (by decide) (fun c137 => ?_) (fun c137 => absurd c137 (by decide))
              refine to_aload_p (dat dk_X2_escaped 55 rfl) (Ih2.1.2.2.2 _ _ (Ih2.bty ho)).1 rfl (to_iload (dat dk_X2_escaped 56 rfl) rfl (to_bipush (dat dk_X2_escaped 57 rfl) (by decide) ?_))
              refine to_ine 122 (dat dk_X2_escaped 58 rfl) rfl rx7 (by decide) (fun c138 => ?_) (fun c138 => ?_)
              · skip
                refine to_iload (dat dk_X2_escaped 63 rfl) rfl ?_
                obtain ⟨x139, ex139⟩ : ∃ y : Int, h2.2.2 o 1 = y := ⟨_, rfl⟩
                have rx139 := Ih2.blen ho
                rw [ex139] at rx139
                refine to_cV ca_c3_20 (dat dk_X2_escaped 64 rfl) (ct_X1_put l h2 Ih2 o ho x7 rx7) rfl ⟨_, _, rfl, (Ih2.bty ho)⟩ rfl (fun h141 p142 => ?_)
                obtain ⟨Ih141, fh141, p142_0⟩ := p142
                have f143 : Fr [o] h h141 := Fr.sub fh2 fh141 (sub_self _)
                refine to_iinc (L' := [(0, .inr (.inr a)), (1, .inl f), (2, .inl t), (3, .inl c), (4, .inr (.inr o)), (5, .inl (y1 + 1)), (6, .inl x7), (7, .inl x96), (8, .inl (-1))]) (dat dk_X2_escaped 65 rfl) rfl (by decide) rfl (to_goto (dat dk_X2_escaped 66 rfl) rfl ?_)
                refine to_pick [0, 1, 2, 3, 4, 5] rfl ?_
                exact ihn3 (n3 - 1) (by omega) (y1 + 1) h141 (by omega) Ih141 f143 (show t - (y1 + 1) ≤ ((n3 - 1 : Nat) : Int) by omega)
              · skip
                refine to_iload_n (dat dk_X2_escaped 59 rfl) rfl ?_
                refine to_ifeq 122 (dat dk_X2_escaped 60 rfl) rfl (by omega) (fun c144 => ?_) (fun c144 => ?_)
                · skip
                  refine to_iload (dat dk_X2_escaped 63 rfl) rfl ?_
                  obtain ⟨x145, ex145⟩ : ∃ y : Int, h2.2.2 o 1 = y := ⟨_, rfl⟩
                  have rx145 := Ih2.blen ho
                  rw [ex145] at rx145
                  refine to_cV ca_c3_20 (dat dk_X2_escaped 64 rfl) (ct_X1_put l h2 Ih2 o ho x7 rx7) rfl ⟨_, _, rfl, (Ih2.bty ho)⟩ rfl (fun h147 p148 => ?_)
                  obtain ⟨Ih147, fh147, p148_0⟩ := p148
                  have f149 : Fr [o] h h147 := Fr.sub fh2 fh147 (sub_self _)
                  refine to_iinc (L' := [(0, .inr (.inr a)), (1, .inl f), (2, .inl t), (3, .inl c), (4, .inr (.inr o)), (5, .inl (y1 + 1)), (6, .inl x7), (7, .inl x96), (8, .inl (-1))]) (dat dk_X2_escaped 65 rfl) rfl (by decide) rfl (to_goto (dat dk_X2_escaped 66 rfl) rfl ?_)
                  refine to_pick [0, 1, 2, 3, 4, 5] rfl ?_
                  exact ihn3 (n3 - 1) (by omega) (y1 + 1) h147 (by omega) Ih147 f149 (show t - (y1 + 1) ≤ ((n3 - 1 : Nat) : Int) by omega)
                · skip
                  refine to_bipush (dat dk_X2_escaped 61 rfl) (by decide) (to_goto (dat dk_X2_escaped 62 rfl) rfl ?_)
                  obtain ⟨x150, ex150⟩ : ∃ y : Int, h2.2.2 o 1 = y := ⟨_, rfl⟩
                  have rx150 := Ih2.blen ho
                  rw [ex150] at rx150
                  refine to_cV ca_c3_20 (dat dk_X2_escaped 64 rfl) (ct_X1_put l h2 Ih2 o ho 32 (by decide)) rfl ⟨_, _, rfl, (Ih2.bty ho)⟩ rfl (fun h152 p153 => ?_)
                  obtain ⟨Ih152, fh152, p153_0⟩ := p153
                  have f154 : Fr [o] h h152 := Fr.sub fh2 fh152 (sub_self _)
                  refine to_iinc (L' := [(0, .inr (.inr a)), (1, .inl f), (2, .inl t), (3, .inl c), (4, .inr (.inr o)), (5, .inl (y1 + 1)), (6, .inl x7), (7, .inl x96), (8, .inl (-1))]) (dat dk_X2_escaped 65 rfl) rfl (by decide) rfl (to_goto (dat dk_X2_escaped 66 rfl) rfl ?_)
                  refine to_pick [0, 1, 2, 3, 4, 5] rfl ?_
                  exact ihn3 (n3 - 1) (by omega) (y1 + 1) h152 (by omega) Ih152 f154 (show t - (y1 + 1) ≤ ((n3 - 1 : Nat) : Int) by omega)
        · skip
          refine to_aload_np (dat dk_X2_escaped 28 rfl) (Ih2.1.2.2.2 _ _ (Ih2.bty ha)).1 rfl (to_iload (dat dk_X2_escaped 29 rfl) rfl (to_iconst (dat dk_X2_escaped 30 rfl) ?_))
          refine to_iaddA (dat dk_X2_escaped 31 rfl) (fun x155 rx155 => ?_)
          refine to_cI ca_c3_9 (dat dk_X2_escaped 32 rfl) (ct_X1_byteAt l h2 Ih2 a ha x155 rx155) rfl ⟨_, _, rfl, (Ih2.bty ha)⟩ rfl (fun x156 h157 rx156 p158 => ?_)
          obtain ⟨rfl, p158_0⟩ := p158
          refine to_cI ca_c3_79 (dat dk_X2_escaped 33 rfl) (ct_X9_hexDigit l h2 Ih2 x156 rx156) rfl trivial rfl (fun x159 h160 rx159 p161 => ?_)
          obtain ⟨rfl, p161_0, p161_1⟩ := p161
          refine to_goto (dat dk_X2_escaped 34 rfl) rfl (to_istore (L' := [(0, .inr (.inr a)), (1, .inl f), (2, .inl t), (3, .inl c), (4, .inr (.inr o)), (5, .inl y1), (6, .inl x7), (7, .inl x96), (8, .inl x159)]) (dat dk_X2_escaped 36 rfl) (by decide) rfl (to_iload (dat dk_X2_escaped 37 rfl) rfl (to_bipush (dat dk_X2_escaped 38 rfl) (by decide) ?_)))
          refine to_ine 104 (dat dk_X2_escaped 39 rfl) rfl rx7 (by decide) (fun c162 => ?_) (fun c162 => ?_)
          · skip
            refine to_aload_p (dat dk_X2_escaped 55 rfl) (Ih2.1.2.2.2 _ _ (Ih2.bty ho)).1 rfl (to_iload (dat dk_X2_escaped 56 rfl) rfl (to_bipush (dat dk_X2_escaped 57 rfl) (by decide) ?_))
            refine to_ine 122 (dat dk_X2_escaped 58 rfl) rfl rx7 (by decide) (fun c163 => ?_) (fun c163 => ?_)
            · skip
              refine to_iload (dat dk_X2_escaped 63 rfl) rfl ?_
              obtain ⟨x164, ex164⟩ : ∃ y : Int, h2.2.2 o 1 = y := ⟨_, rfl⟩
              have rx164 := Ih2.blen ho
              rw [ex164] at rx164
              refine to_cV ca_c3_20 (dat dk_X2_escaped 64 rfl) (ct_X1_put l h2 Ih2 o ho x7 rx7) rfl ⟨_, _, rfl, (Ih2.bty ho)⟩ rfl (fun h166 p167 => ?_)
              obtain ⟨Ih166, fh166, p167_0⟩ := p167
              have f168 : Fr [o] h h166 := Fr.sub fh2 fh166 (sub_self _)
              refine to_iinc (L' := [(0, .inr (.inr a)), (1, .inl f), (2, .inl t), (3, .inl c), (4, .inr (.inr o)), (5, .inl (y1 + 1)), (6, .inl x7), (7, .inl x96), (8, .inl x159)]) (dat dk_X2_escaped 65 rfl) rfl (by decide) rfl (to_goto (dat dk_X2_escaped 66 rfl) rfl ?_)
              refine to_pick [0, 1, 2, 3, 4, 5] rfl ?_
              exact ihn3 (n3 - 1) (by omega) (y1 + 1) h166 (by omega) Ih166 f168 (show t - (y1 + 1) ≤ ((n3 - 1 : Nat) : Int) by omega)
            · skip
              refine to_iload_n (dat dk_X2_escaped 59 rfl) rfl ?_
              refine to_ifeq 122 (dat dk_X2_escaped 60 rfl) rfl (by omega) (fun c169 => ?_) (fun c169 => ?_)
              · skip
                refine to_iload (dat dk_X2_escaped 63 rfl) rfl ?_
                obtain ⟨x170, ex170⟩ : ∃ y : Int, h2.2.2 o 1 = y := ⟨_, rfl⟩
                have rx170 := Ih2.blen ho
                rw [ex170] at rx170
                refine to_cV ca_c3_20 (dat dk_X2_escaped 64 rfl) (ct_X1_put l h2 Ih2 o ho x7 rx7) rfl ⟨_, _, rfl, (Ih2.bty ho)⟩ rfl (fun h172 p173 => ?_)
                obtain ⟨Ih172, fh172, p173_0⟩ := p173
                have f174 : Fr [o] h h172 := Fr.sub fh2 fh172 (sub_self _)
                refine to_iinc (L' := [(0, .inr (.inr a)), (1, .inl f), (2, .inl t), (3, .inl c), (4, .inr (.inr o)), (5, .inl (y1 + 1)), (6, .inl x7), (7, .inl x96), (8, .inl x159)]) (dat dk_X2_escaped 65 rfl) rfl (by decide) rfl (to_goto (dat dk_X2_escaped 66 rfl) rfl ?_)
                refine to_pick [0, 1, 2, 3, 4, 5] rfl ?_
                exact ihn3 (n3 - 1) (by omega) (y1 + 1) h172 (by omega) Ih172 f174 (show t - (y1 + 1) ≤ ((n3 - 1 : Nat) : Int) by omega)
              · skip
                refine to_bipush (dat dk_X2_escaped 61 rfl) (by decide) (to_goto (dat dk_X2_escaped 62 rfl) rfl ?_)
                obtain ⟨x175, ex175⟩ : ∃ y : Int, h2.2.2 o 1 = y := ⟨_, rfl⟩
                have rx175 := Ih2.blen ho
                rw [ex175] at rx175
                refine to_cV ca_c3_20 (dat dk_X2_escaped 64 rfl) (ct_X1_put l h2 Ih2 o ho 32 (by decide)) rfl ⟨_, _, rfl, (Ih2.bty ho)⟩ rfl (fun h177 p178 => ?_)
                obtain ⟨Ih177, fh177, p178_0⟩ := p178
                have f179 : Fr [o] h h177 := Fr.sub fh2 fh177 (sub_self _)
                refine to_iinc (L' := [(0, .inr (.inr a)), (1, .inl f), (2, .inl t), (3, .inl c), (4, .inr (.inr o)), (5, .inl (y1 + 1)), (6, .inl x7), (7, .inl x96), (8, .inl x159)]) (dat dk_X2_escaped 65 rfl) rfl (by decide) rfl (to_goto (dat dk_X2_escaped 66 rfl) rfl ?_)
                refine to_pick [0, 1, 2, 3, 4, 5] rfl ?_
                exact ihn3 (n3 - 1) (by omega) (y1 + 1) h177 (by omega) Ih177 f179 (show t - (y1 + 1) ≤ ((n3 - 1 : Nat) : Int) by omega)
          · skip
            refine to_iload (dat dk_X2_escaped 40 rfl) rfl (to_iconst (dat dk_X2_escaped 41 rfl) ?_)
            refine to_ieq 104 (dat dk_X2_escaped 42 rfl) rfl rx96 (by decide) (fun c180 => ?_) (fun c180 => ?_)
            · skip
              refine to_aload_p (dat dk_X2_escaped 55 rfl) (Ih2.1.2.2.2 _ _ (Ih2.bty ho)).1 rfl (to_iload (dat dk_X2_escaped 56 rfl) rfl (to_bipush (dat dk_X2_escaped 57 rfl) (by decide) ?_))
              refine to_ine 122 (dat dk_X2_escaped 58 rfl) rfl rx7 (by decide) (fun c181 => ?_) (fun c181 => ?_)
              · skip
                refine to_iload (dat dk_X2_escaped 63 rfl) rfl ?_
                obtain ⟨x182, ex182⟩ : ∃ y : Int, h2.2.2 o 1 = y := ⟨_, rfl⟩
                have rx182 := Ih2.blen ho
                rw [ex182] at rx182
                refine to_cV ca_c3_20 (dat dk_X2_escaped 64 rfl) (ct_X1_put l h2 Ih2 o ho x7 rx7) rfl ⟨_, _, rfl, (Ih2.bty ho)⟩ rfl (fun h184 p185 => ?_)
                obtain ⟨Ih184, fh184, p185_0⟩ := p185
                have f186 : Fr [o] h h184 := Fr.sub fh2 fh184 (sub_self _)
                refine to_iinc (L' := [(0, .inr (.inr a)), (1, .inl f), (2, .inl t), (3, .inl c), (4, .inr (.inr o)), (5, .inl (y1 + 1)), (6, .inl x7), (7, .inl x96), (8, .inl x159)]) (dat dk_X2_escaped 65 rfl) rfl (by decide) rfl (to_goto (dat dk_X2_escaped 66 rfl) rfl ?_)
                refine to_pick [0, 1, 2, 3, 4, 5] rfl ?_
                exact ihn3 (n3 - 1) (by omega) (y1 + 1) h184 (by omega) Ih184 f186 (show t - (y1 + 1) ≤ ((n3 - 1 : Nat) : Int) by omega)
              · skip
                refine to_iload_n (dat dk_X2_escaped 59 rfl) rfl ?_
                refine to_ifeq 122 (dat dk_X2_escaped 60 rfl) rfl (by omega) (fun c187 => ?_) (fun c187 => ?_)
                · skip
                  refine to_iload (dat dk_X2_escaped 63 rfl) rfl ?_
                  obtain ⟨x188, ex188⟩ : ∃ y : Int, h2.2.2 o 1 = y := ⟨_, rfl⟩
                  have rx188 := Ih2.blen ho
                  rw [ex188] at rx188
                  refine to_cV ca_c3_20 (dat dk_X2_escaped 64 rfl) (ct_X1_put l h2 Ih2 o ho x7 rx7) rfl ⟨_, _, rfl, (Ih2.bty ho)⟩ rfl (fun h190 p191 => ?_)
                  obtain ⟨Ih190, fh190, p191_0⟩ := p191
                  have f192 : Fr [o] h h190 := Fr.sub fh2 fh190 (sub_self _)
                  refine to_iinc (L' := [(0, .inr (.inr a)), (1, .inl f), (2, .inl t), (3, .inl c), (4, .inr (.inr o)), (5, .inl (y1 + 1)), (6, .inl x7), (7, .inl x96), (8, .inl x159)]) (dat dk_X2_escaped 65 rfl) rfl (by decide) rfl (to_goto (dat dk_X2_escaped 66 rfl) rfl ?_)
                  refine to_pick [0, 1, 2, 3, 4, 5] rfl ?_
                  exact ihn3 (n3 - 1) (by omega) (y1 + 1) h190 (by omega) Ih190 f192 (show t - (y1 + 1) ≤ ((n3 - 1 : Nat) : Int) by omega)
                · skip
                  refine to_bipush (dat dk_X2_escaped 61 rfl) (by decide) (to_goto (dat dk_X2_escaped 62 rfl) rfl ?_)
                  obtain ⟨x193, ex193⟩ : ∃ y : Int, h2.2.2 o 1 = y := ⟨_, rfl⟩
                  have rx193 := Ih2.blen ho
                  rw [ex193] at rx193
                  refine to_cV ca_c3_20 (dat dk_X2_escaped 64 rfl) (ct_X1_put l h2 Ih2 o ho 32 (by decide)) rfl ⟨_, _, rfl, (Ih2.bty ho)⟩ rfl (fun h195 p196 => ?_)
                  obtain ⟨Ih195, fh195, p196_0⟩ := p196
                  have f197 : Fr [o] h h195 := Fr.sub fh2 fh195 (sub_self _)
                  refine to_iinc (L' := [(0, .inr (.inr a)), (1, .inl f), (2, .inl t), (3, .inl c), (4, .inr (.inr o)), (5, .inl (y1 + 1)), (6, .inl x7), (7, .inl x96), (8, .inl x159)]) (dat dk_X2_escaped 65 rfl) rfl (by decide) rfl (to_goto (dat dk_X2_escaped 66 rfl) rfl ?_)
                  refine to_pick [0, 1, 2, 3, 4, 5] rfl ?_
                  exact ihn3 (n3 - 1) (by omega) (y1 + 1) h195 (by omega) Ih195 f197 (show t - (y1 + 1) ≤ ((n3 - 1 : Nat) : Int) by omega)
            · skip
              refine to_iload (dat dk_X2_escaped 43 rfl) rfl (to_iconst (dat dk_X2_escaped 44 rfl) ?_)
              refine to_ieq 104 (dat dk_X2_escaped 45 rfl) rfl rx159 (by decide) (fun c198 => ?_) (fun c198 => ?_)
              · skip
                refine to_aload_p (dat dk_X2_escaped 55 rfl) (Ih2.1.2.2.2 _ _ (Ih2.bty ho)).1 rfl (to_iload (dat dk_X2_escaped 56 rfl) rfl (to_bipush (dat dk_X2_escaped 57 rfl) (by decide) ?_))
                refine to_ine 122 (dat dk_X2_escaped 58 rfl) rfl rx7 (by decide) (fun c199 => ?_) (fun c199 => ?_)
                · skip
                  refine to_iload (dat dk_X2_escaped 63 rfl) rfl ?_
                  obtain ⟨x200, ex200⟩ : ∃ y : Int, h2.2.2 o 1 = y := ⟨_, rfl⟩
                  have rx200 := Ih2.blen ho
                  rw [ex200] at rx200
                  refine to_cV ca_c3_20 (dat dk_X2_escaped 64 rfl) (ct_X1_put l h2 Ih2 o ho x7 rx7) rfl ⟨_, _, rfl, (Ih2.bty ho)⟩ rfl (fun h202 p203 => ?_)
                  obtain ⟨Ih202, fh202, p203_0⟩ := p203
                  have f204 : Fr [o] h h202 := Fr.sub fh2 fh202 (sub_self _)
                  refine to_iinc (L' := [(0, .inr (.inr a)), (1, .inl f), (2, .inl t), (3, .inl c), (4, .inr (.inr o)), (5, .inl (y1 + 1)), (6, .inl x7), (7, .inl x96), (8, .inl x159)]) (dat dk_X2_escaped 65 rfl) rfl (by decide) rfl (to_goto (dat dk_X2_escaped 66 rfl) rfl ?_)
                  refine to_pick [0, 1, 2, 3, 4, 5] rfl ?_
                  exact ihn3 (n3 - 1) (by omega) (y1 + 1) h202 (by omega) Ih202 f204 (show t - (y1 + 1) ≤ ((n3 - 1 : Nat) : Int) by omega)
                · skip
                  refine to_iload_n (dat dk_X2_escaped 59 rfl) rfl ?_
                  refine to_ifeq 122 (dat dk_X2_escaped 60 rfl) rfl (by omega) (fun c205 => ?_) (fun c205 => ?_)
                  · skip
                    refine to_iload (dat dk_X2_escaped 63 rfl) rfl ?_
                    obtain ⟨x206, ex206⟩ : ∃ y : Int, h2.2.2 o 1 = y := ⟨_, rfl⟩
                    have rx206 := Ih2.blen ho
                    rw [ex206] at rx206
                    refine to_cV ca_c3_20 (dat dk_X2_escaped 64 rfl) (ct_X1_put l h2 Ih2 o ho x7 rx7) rfl ⟨_, _, rfl, (Ih2.bty ho)⟩ rfl (fun h208 p209 => ?_)
                    obtain ⟨Ih208, fh208, p209_0⟩ := p209
                    have f210 : Fr [o] h h208 := Fr.sub fh2 fh208 (sub_self _)
                    refine to_iinc (L' := [(0, .inr (.inr a)), (1, .inl f), (2, .inl t), (3, .inl c), (4, .inr (.inr o)), (5, .inl (y1 + 1)), (6, .inl x7), (7, .inl x96), (8, .inl x159)]) (dat dk_X2_escaped 65 rfl) rfl (by decide) rfl (to_goto (dat dk_X2_escaped 66 rfl) rfl ?_)
                    refine to_pick [0, 1, 2, 3, 4, 5] rfl ?_
                    exact ihn3 (n3 - 1) (by omega) (y1 + 1) h208 (by omega) Ih208 f210 (show t - (y1 + 1) ≤ ((n3 - 1 : Nat) : Int) by omega)
                  · skip
                    refine to_bipush (dat dk_X2_escaped 61 rfl) (by decide) (to_goto (dat dk_X2_escaped 62 rfl) rfl ?_)
                    obtain ⟨x211, ex211⟩ : ∃ y : Int, h2.2.2 o 1 = y := ⟨_, rfl⟩
                    have rx211 := Ih2.blen ho
                    rw [ex211] at rx211
                    refine to_cV ca_c3_20 (dat dk_X2_escaped 64 rfl) (ct_X1_put l h2 Ih2 o ho 32 (by decide)) rfl ⟨_, _, rfl, (Ih2.bty ho)⟩ rfl (fun h213 p214 => ?_)
                    obtain ⟨Ih213, fh213, p214_0⟩ := p214
                    have f215 : Fr [o] h h213 := Fr.sub fh2 fh213 (sub_self _)
                    refine to_iinc (L' := [(0, .inr (.inr a)), (1, .inl f), (2, .inl t), (3, .inl c), (4, .inr (.inr o)), (5, .inl (y1 + 1)), (6, .inl x7), (7, .inl x96), (8, .inl x159)]) (dat dk_X2_escaped 65 rfl) rfl (by decide) rfl (to_goto (dat dk_X2_escaped 66 rfl) rfl ?_)
                    refine to_pick [0, 1, 2, 3, 4, 5] rfl ?_
                    exact ihn3 (n3 - 1) (by omega) (y1 + 1) h213 (by omega) Ih213 f215 (show t - (y1 + 1) ≤ ((n3 - 1 : Nat) : Int) by omega)
              · skip
                refine to_aload_p (dat dk_X2_escaped 46 rfl) (Ih2.1.2.2.2 _ _ (Ih2.bty ho)).1 rfl (to_iload (dat dk_X2_escaped 47 rfl) rfl (to_iconst (dat dk_X2_escaped 48 rfl) ?_))
                refine to_ishl (dat dk_X2_escaped 49 rfl) (fun x216 rx216 => ?_)
                refine to_iload (dat dk_X2_escaped 50 rfl) rfl ?_
                refine to_ior (dat dk_X2_escaped 51 rfl) (fun x217 rx217 => ?_)
                obtain ⟨x218, ex218⟩ : ∃ y : Int, h2.2.2 o 1 = y := ⟨_, rfl⟩
                have rx218 := Ih2.blen ho
                rw [ex218] at rx218
                refine to_cV ca_c3_20 (dat dk_X2_escaped 52 rfl) (ct_X1_put l h2 Ih2 o ho x217 rx217) rfl ⟨_, _, rfl, (Ih2.bty ho)⟩ rfl (fun h220 p221 => ?_)
                obtain ⟨Ih220, fh220, p221_0⟩ := p221
                have f222 : Fr [o] h h220 := Fr.sub fh2 fh220 (sub_self _)
                refine to_iinc (L' := [(0, .inr (.inr a)), (1, .inl f), (2, .inl t), (3, .inl c), (4, .inr (.inr o)), (5, .inl (y1 + 2)), (6, .inl x7), (7, .inl x96), (8, .inl x159)]) (dat dk_X2_escaped 53 rfl) rfl (by decide) rfl (to_goto (dat dk_X2_escaped 54 rfl) rfl (to_iinc (L' := [(0, .inr (.inr a)), (1, .inl f), (2, .inl t), (3, .inl c), (4, .inr (.inr o)), (5, .inl ((y1 + 2) + 1)), (6, .inl x7), (7, .inl x96), (8, .inl x159)]) (dat dk_X2_escaped 65 rfl) rfl (by decide) rfl (to_goto (dat dk_X2_escaped 66 rfl) rfl ?_)))
                refine to_pick [0, 1, 2, 3, 4, 5] rfl ?_
                exact ihn3 (n3 - 1) (by omega) ((y1 + 2) + 1) h220 (by omega) Ih220 f222 (show t - ((y1 + 2) + 1) ≤ ((n3 - 1 : Nat) : Int) by omega)
  exact lp3_n3 (t - f).toNat f h hf hI (Fr.rf _ _) (by omega)
abbrev Q_X2_quoted (h : Hp) (a : Nat) (f : Int) (t : Int) (o : Nat) : Option V → Hp → Nat → Nat → Prop := RV (fun H => Inv H ∧ Fr [o] h H)
set_option maxRecDepth 100000 in
theorem ct_X2_quoted (l : Launch) (h : Hp) (hI : Inv h) (a : Nat) (ha : isB a = true) (f : Int) (hf : I32 f) (t : Int) (ht : I32 t) (o : Nat) (ho : isB o = true) : Ct l D_X2_quoted 2 49 [.inr (.inr a), .inl f, .inl t, .inr (.inr o)] h (Q_X2_quoted h a f t o) := by
  refine ct_of pn_X2_quoted (Nat.le_of_ble_eq_true rfl) ?_
  show To l E_X2_quoted (0, [(0, .inr (.inr a)), (1, .inl f), (2, .inl t), (3, .inr (.inr o))], [], h, 0, 0) _
  refine to_iload_n (dat dk_X2_quoted 0 rfl) rfl (to_istore (L' := [(0, .inr (.inr a)), (1, .inl f), (2, .inl t), (3, .inr (.inr o)), (4, .inl f)]) (dat dk_X2_quoted 1 rfl) (by decide) rfl (to_iload_n (dat dk_X2_quoted 2 rfl) rfl (to_istore (L' := [(0, .inr (.inr a)), (1, .inl f), (2, .inl t), (3, .inr (.inr o)), (4, .inl f), (5, .inl f)]) (dat dk_X2_quoted 3 rfl) (by decide) rfl ?_)))
  have lp6_n4 : ∀ (n4 : Nat) (y1 : Int) (y2 : Int) (h3 : Hp), (I32 y1) → (I32 y2) → (Inv h3) → (Fr [o] h h3) → (t - y2 ≤ (n4 : Int)) → To l E_X2_quoted (6, [(0, .inr (.inr a)), (1, .inl f), (2, .inl t), (3, .inr (.inr o)), (4, .inl y1), (5, .inl y2)], [], h3, 0, 0) (Q_X2_quoted h a f t o) := by
    intro n4
    induction n4 using Nat.strongRecOn with
    | _ n4 ihn4 =>
    intro y1 y2 h3 ry1 ry2 Ih3 fh3 c5
    refine to_iload (dat dk_X2_quoted 4 rfl) rfl (to_iload_n (dat dk_X2_quoted 5 rfl) rfl ?_)
    refine to_ige 122 (dat dk_X2_quoted 6 rfl) rfl ry2 ht (fun c6 => ?_) (fun c6 => ?_)
    · skip
      exact to_vret rfl (dat dk_X2_quoted 64 rfl) (rv_mk ⟨Ih3, fh3⟩)
    · skip
      refine to_iload (dat dk_X2_quoted 7 rfl) rfl (to_iload_n (dat dk_X2_quoted 8 rfl) rfl ?_)
      refine to_ige 122 (dat dk_X2_quoted 9 rfl) rfl ry1 ht (fun c7 => ?_) (fun c7 => ?_)
      · skip
        exact to_vret rfl (dat dk_X2_quoted 64 rfl) (rv_mk ⟨Ih3, fh3⟩)
      · skip
        refine to_aload_np (dat dk_X2_quoted 10 rfl) (Ih3.1.2.2.2 _ _ (Ih3.bty ha)).1 rfl (to_iload (dat dk_X2_quoted 11 rfl) rfl (to_iload_n (dat dk_X2_quoted 12 rfl) rfl ?_))
        refine to_cI ca_c3_24 (dat dk_X2_quoted 13 rfl) (ct_X1_lineStop l h3 Ih3 a ha y1 ry1 t ht) rfl ⟨_, _, rfl, (Ih3.bty ha)⟩ rfl (fun x8 h9 rx8 p10 => ?_)
        obtain ⟨rfl, p10_0, p10_1⟩ := p10
        refine to_istore (L' := [(0, .inr (.inr a)), (1, .inl f), (2, .inl t), (3, .inr (.inr o)), (4, .inl y1), (5, .inl y2), (6, .inl x8)]) (dat dk_X2_quoted 14 rfl) (by decide) rfl (to_aload_np (dat dk_X2_quoted 15 rfl) (Ih3.1.2.2.2 _ _ (Ih3.bty ha)).1 rfl (to_iload (dat dk_X2_quoted 16 rfl) rfl (to_aload_np (dat dk_X2_quoted 17 rfl) (Ih3.1.2.2.2 _ _ (Ih3.bty ha)).1 rfl (to_iload (dat dk_X2_quoted 18 rfl) rfl (to_iload (dat dk_X2_quoted 19 rfl) rfl (to_iload_n (dat dk_X2_quoted 20 rfl) rfl ?_))))))
        refine to_cI ca_c3_28 (dat dk_X2_quoted 21 rfl) (ct_X1_lineEnd l h3 Ih3 a ha y1 ry1 x8 rx8 t ht) rfl ⟨_, _, rfl, (Ih3.bty ha)⟩ rfl (fun x11 h12 rx11 p13 => ?_)
        obtain ⟨rfl, p13_0, p13_1⟩ := p13
        refine to_cI ca_c3_32 (dat dk_X2_quoted 22 rfl) (ct_X1_blanksBack l h3 Ih3 a ha y1 ry1 x11 rx11) rfl ⟨_, _, rfl, (Ih3.bty ha)⟩ rfl (fun x14 h15 rx14 p16 => ?_)
        obtain ⟨rfl, p16_0, p16_1⟩ := p16
        refine to_istore (L' := [(0, .inr (.inr a)), (1, .inl f), (2, .inl t), (3, .inr (.inr o)), (4, .inl y1), (5, .inl y2), (6, .inl x8), (7, .inl x14)]) (dat dk_X2_quoted 23 rfl) (by decide) rfl (to_iload (dat dk_X2_quoted 24 rfl) rfl (to_iload (dat dk_X2_quoted 25 rfl) rfl ?_))
        refine to_ile 68 (dat dk_X2_quoted 26 rfl) rfl rx14 ry1 (fun c17 => ?_) (fun c17 => ?_)
        · skip
          refine to_iconst (dat dk_X2_quoted 36 rfl) (to_istore (L' := [(0, .inr (.inr a)), (1, .inl f), (2, .inl t), (3, .inr (.inr o)), (4, .inl y1), (5, .inl y2), (6, .inl x8), (7, .inl x14), (8, .inl 0)]) (dat dk_X2_quoted 37 rfl) (by decide) rfl (to_aload_np (dat dk_X2_quoted 38 rfl) (Ih3.1.2.2.2 _ _ (Ih3.bty ha)).1 rfl (to_iload (dat dk_X2_quoted 39 rfl) rfl (to_iload (dat dk_X2_quoted 40 rfl) rfl ?_))))
          refine to_ifeq 86 (dat dk_X2_quoted 41 rfl) rfl (by decide) (fun c18 => ?_) (fun c18 => absurd c18 (by decide))
          refine to_iload (dat dk_X2_quoted 46 rfl) rfl (to_iconst (dat dk_X2_quoted 47 rfl) (to_aload_np (dat dk_X2_quoted 48 rfl) (Ih3.1.2.2.2 _ _ (Ih3.bty ho)).1 rfl ?_))
          refine to_cV ca_c3_35 (dat dk_X2_quoted 49 rfl) (ct_X2_escaped l h3 Ih3 a ha y1 ry1 x14 rx14 0 (by decide) o ho) rfl trivial rfl (fun h20 p21 => ?_)
          obtain ⟨Ih20, fh20⟩ := p21
          have f22 : Fr [o] h h20 := Fr.sub fh3 fh20 (sub_self _)
          refine to_iload (dat dk_X2_quoted 50 rfl) rfl (to_iconst (dat dk_X2_quoted 51 rfl) ?_)
          refine to_iaddA (dat dk_X2_quoted 52 rfl) (fun x23 rx23 => ?_)
          refine to_istore (L' := [(0, .inr (.inr a)), (1, .inl f), (2, .inl t), (3, .inr (.inr o)), (4, .inl x23), (5, .inl y2), (6, .inl x8), (7, .inl x14), (8, .inl 0)]) (dat dk_X2_quoted 53 rfl) (by decide) rfl (to_iload (dat dk_X2_quoted 54 rfl) rfl ?_)
          refine to_ifne 116 (dat dk_X2_quoted 55 rfl) rfl (by decide) (fun c24 => absurd c24 (by decide)) (fun c24 => ?_)
          refine to_iload (dat dk_X2_quoted 56 rfl) rfl (to_iload_n (dat dk_X2_quoted 57 rfl) rfl ?_)
          refine to_ige 116 (dat dk_X2_quoted 58 rfl) rfl rx23 ht (fun c25 => ?_) (fun c25 => ?_)
          · skip
            refine to_iinc (L' := [(0, .inr (.inr a)), (1, .inl f), (2, .inl t), (3, .inr (.inr o)), (4, .inl x23), (5, .inl (y2 + 1)), (6, .inl x8), (7, .inl x14), (8, .inl 0)]) (dat dk_X2_quoted 62 rfl) rfl (by decide) rfl (to_goto (dat dk_X2_quoted 63 rfl) rfl ?_)
            refine to_pick [0, 1, 2, 3, 4, 5] rfl ?_
            exact ihn4 (n4 - 1) (by omega) x23 (y2 + 1) h20 rx23 (by omega) Ih20 f22 (show t - (y2 + 1) ≤ ((n4 - 1 : Nat) : Int) by omega)
          · skip
            refine to_aload_np (dat dk_X2_quoted 59 rfl) (Ih20.1.2.2.2 _ _ (Ih20.bty ho)).1 rfl (to_bipush (dat dk_X2_quoted 60 rfl) (by decide) ?_)
            obtain ⟨x26, ex26⟩ : ∃ y : Int, h20.2.2 o 1 = y := ⟨_, rfl⟩
            have rx26 := Ih20.blen ho
            rw [ex26] at rx26
            refine to_cV ca_c3_20 (dat dk_X2_quoted 61 rfl) (ct_X1_put l h20 Ih20 o ho 10 (by decide)) rfl ⟨_, _, rfl, (Ih20.bty ho)⟩ rfl (fun h28 p29 => ?_)
            obtain ⟨Ih28, fh28, p29_0⟩ := p29
            have f30 : Fr [o] h h28 := Fr.sub f22 fh28 (sub_self _)
            refine to_iinc (L' := [(0, .inr (.inr a)), (1, .inl f), (2, .inl t), (3, .inr (.inr o)), (4, .inl x23), (5, .inl (y2 + 1)), (6, .inl x8), (7, .inl x14), (8, .inl 0)]) (dat dk_X2_quoted 62 rfl) rfl (by decide) rfl (to_goto (dat dk_X2_quoted 63 rfl) rfl ?_)
            refine to_pick [0, 1, 2, 3, 4, 5] rfl ?_
            exact ihn4 (n4 - 1) (by omega) x23 (y2 + 1) h28 rx23 (by omega) Ih28 f30 (show t - (y2 + 1) ≤ ((n4 - 1 : Nat) : Int) by omega)
        · skip
          refine to_aload_np (dat dk_X2_quoted 27 rfl) (Ih3.1.2.2.2 _ _ (Ih3.bty ha)).1 rfl (to_iload (dat dk_X2_quoted 28 rfl) rfl (to_iconst (dat dk_X2_quoted 29 rfl) (to_isub (dat dk_X2_quoted 30 rfl) ?_)))
          obtain ⟨x31, ex31⟩ : ∃ y : Int, h3.2.2 a 1 = y := ⟨_, rfl⟩
          have rx31 := Ih3.blen ha
          rw [ex31] at rx31
          refine to_cI ca_c3_9 (dat dk_X2_quoted 31 rfl) (ct_X1_byteAt l h3 Ih3 a ha (x14 - 1) (by omega)) rfl ⟨_, _, rfl, (Ih3.bty ha)⟩ rfl (fun x32 h33 rx32 p34 => ?_)
          obtain ⟨rfl, p34_0⟩ := p34
          refine to_bipush (dat dk_X2_quoted 32 rfl) (by decide) ?_
          refine to_ine 68 (dat dk_X2_quoted 33 rfl) rfl rx32 (by decide) (fun c35 => ?_) (fun c35 => ?_)
          · skip
            refine to_iconst (dat dk_X2_quoted 36 rfl) (to_istore (L' := [(0, .inr (.inr a)), (1, .inl f), (2, .inl t), (3, .inr (.inr o)), (4, .inl y1), (5, .inl y2), (6, .inl x8), (7, .inl x14), (8, .inl 0)]) (dat dk_X2_quoted 37 rfl) (by decide) rfl (to_aload_np (dat dk_X2_quoted 38 rfl) (Ih3.1.2.2.2 _ _ (Ih3.bty ha)).1 rfl (to_iload (dat dk_X2_quoted 39 rfl) rfl (to_iload (dat dk_X2_quoted 40 rfl) rfl ?_))))
            refine to_ifeq 86 (dat dk_X2_quoted 41 rfl) rfl (by decide) (fun c36 => ?_) (fun c36 => absurd c36 (by decide))
            refine to_iload (dat dk_X2_quoted 46 rfl) rfl (to_iconst (dat dk_X2_quoted 47 rfl) (to_aload_np (dat dk_X2_quoted 48 rfl) (Ih3.1.2.2.2 _ _ (Ih3.bty ho)).1 rfl ?_))
            refine to_cV ca_c3_35 (dat dk_X2_quoted 49 rfl) (ct_X2_escaped l h3 Ih3 a ha y1 ry1 x14 rx14 0 (by decide) o ho) rfl trivial rfl (fun h38 p39 => ?_)
            obtain ⟨Ih38, fh38⟩ := p39
            have f40 : Fr [o] h h38 := Fr.sub fh3 fh38 (sub_self _)
            refine to_iload (dat dk_X2_quoted 50 rfl) rfl (to_iconst (dat dk_X2_quoted 51 rfl) ?_)
            refine to_iaddA (dat dk_X2_quoted 52 rfl) (fun x41 rx41 => ?_)
            refine to_istore (L' := [(0, .inr (.inr a)), (1, .inl f), (2, .inl t), (3, .inr (.inr o)), (4, .inl x41), (5, .inl y2), (6, .inl x8), (7, .inl x14), (8, .inl 0)]) (dat dk_X2_quoted 53 rfl) (by decide) rfl (to_iload (dat dk_X2_quoted 54 rfl) rfl ?_)
            refine to_ifne 116 (dat dk_X2_quoted 55 rfl) rfl (by decide) (fun c42 => absurd c42 (by decide)) (fun c42 => ?_)
            refine to_iload (dat dk_X2_quoted 56 rfl) rfl (to_iload_n (dat dk_X2_quoted 57 rfl) rfl ?_)
            refine to_ige 116 (dat dk_X2_quoted 58 rfl) rfl rx41 ht (fun c43 => ?_) (fun c43 => ?_)
            · skip
              refine to_iinc (L' := [(0, .inr (.inr a)), (1, .inl f), (2, .inl t), (3, .inr (.inr o)), (4, .inl x41), (5, .inl (y2 + 1)), (6, .inl x8), (7, .inl x14), (8, .inl 0)]) (dat dk_X2_quoted 62 rfl) rfl (by decide) rfl (to_goto (dat dk_X2_quoted 63 rfl) rfl ?_)
              refine to_pick [0, 1, 2, 3, 4, 5] rfl ?_
              exact ihn4 (n4 - 1) (by omega) x41 (y2 + 1) h38 rx41 (by omega) Ih38 f40 (show t - (y2 + 1) ≤ ((n4 - 1 : Nat) : Int) by omega)
            · skip
              refine to_aload_np (dat dk_X2_quoted 59 rfl) (Ih38.1.2.2.2 _ _ (Ih38.bty ho)).1 rfl (to_bipush (dat dk_X2_quoted 60 rfl) (by decide) ?_)
              obtain ⟨x44, ex44⟩ : ∃ y : Int, h38.2.2 o 1 = y := ⟨_, rfl⟩
              have rx44 := Ih38.blen ho
              rw [ex44] at rx44
              refine to_cV ca_c3_20 (dat dk_X2_quoted 61 rfl) (ct_X1_put l h38 Ih38 o ho 10 (by decide)) rfl ⟨_, _, rfl, (Ih38.bty ho)⟩ rfl (fun h46 p47 => ?_)
              obtain ⟨Ih46, fh46, p47_0⟩ := p47
              have f48 : Fr [o] h h46 := Fr.sub f40 fh46 (sub_self _)
              refine to_iinc (L' := [(0, .inr (.inr a)), (1, .inl f), (2, .inl t), (3, .inr (.inr o)), (4, .inl x41), (5, .inl (y2 + 1)), (6, .inl x8), (7, .inl x14), (8, .inl 0)]) (dat dk_X2_quoted 62 rfl) rfl (by decide) rfl (to_goto (dat dk_X2_quoted 63 rfl) rfl ?_)
              refine to_pick [0, 1, 2, 3, 4, 5] rfl ?_
              exact ihn4 (n4 - 1) (by omega) x41 (y2 + 1) h46 rx41 (by omega) Ih46 f48 (show t - (y2 + 1) ≤ ((n4 - 1 : Nat) : Int) by omega)
          · skip
            refine to_iconst (dat dk_X2_quoted 34 rfl) (to_goto (dat dk_X2_quoted 35 rfl) rfl (to_istore (L' := [(0, .inr (.inr a)), (1, .inl f), (2, .inl t), (3, .inr (.inr o)), (4, .inl y1), (5, .inl y2), (6, .inl x8), (7, .inl x14), (8, .inl 1)]) (dat dk_X2_quoted 37 rfl) (by decide) rfl (to_aload_np (dat dk_X2_quoted 38 rfl) (Ih3.1.2.2.2 _ _ (Ih3.bty ha)).1 rfl (to_iload (dat dk_X2_quoted 39 rfl) rfl (to_iload (dat dk_X2_quoted 40 rfl) rfl ?_)))))
            refine to_ifeq 86 (dat dk_X2_quoted 41 rfl) rfl (by decide) (fun c49 => absurd c49 (by decide)) (fun c49 => ?_)
            refine to_iload (dat dk_X2_quoted 42 rfl) rfl (to_iconst (dat dk_X2_quoted 43 rfl) (to_isub (dat dk_X2_quoted 44 rfl) (to_goto (dat dk_X2_quoted 45 rfl) rfl (to_iconst (dat dk_X2_quoted 47 rfl) (to_aload_np (dat dk_X2_quoted 48 rfl) (Ih3.1.2.2.2 _ _ (Ih3.bty ho)).1 rfl ?_)))))
            refine to_cV ca_c3_35 (dat dk_X2_quoted 49 rfl) (ct_X2_escaped l h3 Ih3 a ha y1 ry1 (x14 - 1) (by omega) 0 (by decide) o ho) rfl trivial rfl (fun h51 p52 => ?_)
            obtain ⟨Ih51, fh51⟩ := p52
            have f53 : Fr [o] h h51 := Fr.sub fh3 fh51 (sub_self _)
            refine to_iload (dat dk_X2_quoted 50 rfl) rfl (to_iconst (dat dk_X2_quoted 51 rfl) ?_)
            refine to_iaddA (dat dk_X2_quoted 52 rfl) (fun x54 rx54 => ?_)
            refine to_istore (L' := [(0, .inr (.inr a)), (1, .inl f), (2, .inl t), (3, .inr (.inr o)), (4, .inl x54), (5, .inl y2), (6, .inl x8), (7, .inl x14), (8, .inl 1)]) (dat dk_X2_quoted 53 rfl) (by decide) rfl (to_iload (dat dk_X2_quoted 54 rfl) rfl ?_)
            refine to_ifne 116 (dat dk_X2_quoted 55 rfl) rfl (by decide) (fun c55 => ?_) (fun c55 => absurd c55 (by decide))
            refine to_iinc (L' := [(0, .inr (.inr a)), (1, .inl f), (2, .inl t), (3, .inr (.inr o)), (4, .inl x54), (5, .inl (y2 + 1)), (6, .inl x8), (7, .inl x14), (8, .inl 1)]) (dat dk_X2_quoted 62 rfl) rfl (by decide) rfl (to_goto (dat dk_X2_quoted 63 rfl) rfl ?_)
            refine to_pick [0, 1, 2, 3, 4, 5] rfl ?_
            exact ihn4 (n4 - 1) (by omega) x54 (y2 + 1) h51 rx54 (by omega) Ih51 f53 (show t - (y2 + 1) ≤ ((n4 - 1 : Nat) : Int) by omega)
  exact lp6_n4 (t - f).toNat f f h hf hf hI (Fr.rf _ _) (by omega)
abbrev Q_X2_encodedStop (h : Hp) (a : Nat) (f : Int) : Option V → Hp → Nat → Nat → Prop := RI (fun x H => h = H)
set_option maxRecDepth 100000 in
theorem ct_X2_encodedStop (l : Launch) (h : Hp) (hI : Inv h) (a : Nat) (ha : isB a = true) (f : Int) (hf : I32 f) : Ct l D_X2_encodedStop 6 131 [.inr (.inr a), .inl f] h (Q_X2_encodedStop h a f) := by
  refine ct_of pn_X2_encodedStop (Nat.le_of_ble_eq_true rfl) ?_
  show To l E_X2_encodedStop (0, [(0, .inr (.inr a)), (1, .inl f)], [], h, 0, 0) _
  refine to_aload_np (dat dk_X2_encodedStop 0 rfl) (hI.1.2.2.2 _ _ (hI.bty ha)).1 rfl (to_iload_n (dat dk_X2_encodedStop 1 rfl) rfl (to_ldcS (q := 111) (tx := "=?utf-8?") (List.mem_of_getElem? (i := 5) rfl) (dat dk_X2_encodedStop 2 rfl) (to_iconst (dat dk_X2_encodedStop 3 rfl) ?_)))
  refine to_cI ca_c3_58 (dat dk_X2_encodedStop 4 rfl) (ct_X1_hasAt l h hI a ha f hf 1000111 8 (List.mem_of_getElem? (i := 5) rfl) 1 (by decide)) rfl ⟨_, _, rfl, (hI.bty ha)⟩ rfl (fun x1 h2 rx1 p3 => ?_)
  obtain ⟨rfl, zx1⟩ := p3
  refine to_ifeq 19 (dat dk_X2_encodedStop 5 rfl) rfl rx1 (fun c4 => ?_) (fun c4 => ?_)
  · skip
    refine to_aload_np (dat dk_X2_encodedStop 11 rfl) (hI.1.2.2.2 _ _ (hI.bty ha)).1 rfl (to_iload_n (dat dk_X2_encodedStop 12 rfl) rfl (to_ldcS (q := 113) (tx := "=?us-ascii?") (List.mem_of_getElem? (i := 6) rfl) (dat dk_X2_encodedStop 13 rfl) (to_iconst (dat dk_X2_encodedStop 14 rfl) ?_)))
    refine to_cI ca_c3_58 (dat dk_X2_encodedStop 15 rfl) (ct_X1_hasAt l h hI a ha f hf 1000113 11 (List.mem_of_getElem? (i := 6) rfl) 1 (by decide)) rfl ⟨_, _, rfl, (hI.bty ha)⟩ rfl (fun x5 h6 rx5 p7 => ?_)
    obtain ⟨rfl, zx5⟩ := p7
    refine to_ifeq 38 (dat dk_X2_encodedStop 16 rfl) rfl rx5 (fun c8 => ?_) (fun c8 => ?_)
    · skip
      refine to_iconst (dat dk_X2_encodedStop 22 rfl) ?_
      exact to_iret rfl (dat dk_X2_encodedStop 23 rfl) (ri_mk (by decide) rfl)
    · skip
      refine to_iload_n (dat dk_X2_encodedStop 17 rfl) rfl (to_bipush (dat dk_X2_encodedStop 18 rfl) (by decide) ?_)
      refine to_iaddA (dat dk_X2_encodedStop 19 rfl) (fun x9 rx9 => ?_)
      refine to_istore_n (L' := [(0, .inr (.inr a)), (1, .inl f), (2, .inl x9)]) (dat dk_X2_encodedStop 20 rfl) (by decide) rfl (to_goto (dat dk_X2_encodedStop 21 rfl) rfl (to_aload_np (dat dk_X2_encodedStop 24 rfl) (hI.1.2.2.2 _ _ (hI.bty ha)).1 rfl (to_iload_n (dat dk_X2_encodedStop 25 rfl) rfl ?_)))
      obtain ⟨x10, ex10⟩ : ∃ y : Int, h.2.2 a 1 = y := ⟨_, rfl⟩
      have rx10 := hI.blen ha
      rw [ex10] at rx10
      refine to_cI ca_c3_9 (dat dk_X2_encodedStop 26 rfl) (ct_X1_byteAt l h hI a ha x9 rx9) rfl ⟨_, _, rfl, (hI.bty ha)⟩ rfl (fun x11 h12 rx11 p13 => ?_)
      obtain ⟨rfl, p13_0⟩ := p13
      refine to_cI ca_c3_64 (dat dk_X2_encodedStop 27 rfl) (ct_X9_small l h hI x11 rx11) rfl trivial rfl (fun x14 h15 rx14 p16 => ?_)
      subst p16
      refine to_istore_n (L' := [(0, .inr (.inr a)), (1, .inl f), (2, .inl x9), (3, .inl x14)]) (dat dk_X2_encodedStop 28 rfl) (by decide) rfl (to_iload_n (dat dk_X2_encodedStop 29 rfl) rfl (to_bipush (dat dk_X2_encodedStop 30 rfl) (by decide) ?_))
      refine to_ieq 61 (dat dk_X2_encodedStop 31 rfl) rfl rx14 (by decide) (fun c17 => ?_) (fun c17 => ?_)
      · skip
        refine to_aload_np (dat dk_X2_encodedStop 35 rfl) (hI.1.2.2.2 _ _ (hI.bty ha)).1 rfl (to_iload_n (dat dk_X2_encodedStop 36 rfl) rfl (to_iconst (dat dk_X2_encodedStop 37 rfl) ?_))
        refine to_iaddA (dat dk_X2_encodedStop 38 rfl) (fun x18 rx18 => ?_)
        refine to_cI ca_c3_9 (dat dk_X2_encodedStop 39 rfl) (ct_X1_byteAt l h hI a ha x18 rx18) rfl ⟨_, _, rfl, (hI.bty ha)⟩ rfl (fun x19 h20 rx19 p21 => ?_)
        obtain ⟨rfl, p21_0⟩ := p21
        refine to_bipush (dat dk_X2_encodedStop 40 rfl) (by decide) ?_
        refine to_ieq 75 (dat dk_X2_encodedStop 41 rfl) rfl rx19 (by decide) (fun c22 => ?_) (fun c22 => ?_)
        · skip
          refine to_iload_n (dat dk_X2_encodedStop 44 rfl) rfl (to_iconst (dat dk_X2_encodedStop 45 rfl) ?_)
          refine to_iaddA (dat dk_X2_encodedStop 46 rfl) (fun x23 rx23 => ?_)
          refine to_istore (L' := [(0, .inr (.inr a)), (1, .inl f), (2, .inl x9), (3, .inl x14), (4, .inl x23)]) (dat dk_X2_encodedStop 47 rfl) (by decide) rfl ?_
          have lp80_n25 : ∀ (n25 : Nat) (y24 : Int), (I32 y24) → (h.2.2 a 1 - y24 ≤ (n25 : Int)) → To l E_X2_encodedStop (80, [(0, .inr (.inr a)), (1, .inl f), (2, .inl x9), (3, .inl x14), (4, .inl y24)], [], h, 0, 0) (Q_X2_encodedStop h a f) := by
            intro n25
            induction n25 using Nat.strongRecOn with
            | _ n25 ihn25 =>
            intro y24 ry24 c26
            refine to_iload (dat dk_X2_encodedStop 48 rfl) rfl (to_aload_np (dat dk_X2_encodedStop 49 rfl) (hI.1.2.2.2 _ _ (hI.bty ha)).1 rfl ?_)
            refine to_cI ca_c3_41 (dat dk_X2_encodedStop 50 rfl) (ct_X1_size l h hI a ha) rfl ⟨_, _, rfl, (hI.bty ha)⟩ rfl (fun x27 h28 rx27 p29 => ?_)
            obtain ⟨rfl, p29_0⟩ := p29
            refine to_ige 118 (dat dk_X2_encodedStop 51 rfl) rfl ry24 rx27 (fun c30 => ?_) (fun c30 => ?_)
            · skip
              refine to_aload_np (dat dk_X2_encodedStop 64 rfl) (hI.1.2.2.2 _ _ (hI.bty ha)).1 rfl (to_iload (dat dk_X2_encodedStop 65 rfl) rfl (to_ldcS (q := 115) (tx := "?=") (List.mem_of_getElem? (i := 7) rfl) (dat dk_X2_encodedStop 66 rfl) (to_iconst (dat dk_X2_encodedStop 67 rfl) ?_)))
              refine to_cI ca_c3_58 (dat dk_X2_encodedStop 68 rfl) (ct_X1_hasAt l h hI a ha y24 ry24 1000115 2 (List.mem_of_getElem? (i := 7) rfl) 0 (by decide)) rfl ⟨_, _, rfl, (hI.bty ha)⟩ rfl (fun x31 h32 rx31 p33 => ?_)
              obtain ⟨rfl, zx31⟩ := p33
              refine to_ifeq 137 (dat dk_X2_encodedStop 69 rfl) rfl rx31 (fun c34 => ?_) (fun c34 => ?_)
              · skip
                refine to_iconst (dat dk_X2_encodedStop 74 rfl) ?_
                exact to_iret rfl (dat dk_X2_encodedStop 75 rfl) (ri_mk (by decide) rfl)
              · skip
                refine to_iload (dat dk_X2_encodedStop 70 rfl) rfl (to_iconst (dat dk_X2_encodedStop 71 rfl) ?_)
                refine to_iaddA (dat dk_X2_encodedStop 72 rfl) (fun x35 rx35 => ?_)
                refine to_goto (dat dk_X2_encodedStop 73 rfl) rfl ?_
                exact to_iret rfl (dat dk_X2_encodedStop 75 rfl) (ri_mk rx35 rfl)
            · skip
              refine to_aload_np (dat dk_X2_encodedStop 52 rfl) (hI.1.2.2.2 _ _ (hI.bty ha)).1 rfl (to_iload (dat dk_X2_encodedStop 53 rfl) rfl ?_)
              refine to_cI ca_c3_9 (dat dk_X2_encodedStop 54 rfl) (ct_X1_byteAt l h hI a ha y24 ry24) rfl ⟨_, _, rfl, (hI.bty ha)⟩ rfl (fun x36 h37 rx36 p38 => ?_)
              obtain ⟨rfl, p38_0⟩ := p38
              refine to_bipush (dat dk_X2_encodedStop 55 rfl) (by decide) ?_
              refine to_ieq 118 (dat dk_X2_encodedStop 56 rfl) rfl rx36 (by decide) (fun c39 => ?_) (fun c39 => ?_)
              · skip
                refine to_aload_np (dat dk_X2_encodedStop 64 rfl) (hI.1.2.2.2 _ _ (hI.bty ha)).1 rfl (to_iload (dat dk_X2_encodedStop 65 rfl) rfl (to_ldcS (q := 115) (tx := "?=") (List.mem_of_getElem? (i := 7) rfl) (dat dk_X2_encodedStop 66 rfl) (to_iconst (dat dk_X2_encodedStop 67 rfl) ?_)))
                refine to_cI ca_c3_58 (dat dk_X2_encodedStop 68 rfl) (ct_X1_hasAt l h hI a ha y24 ry24 1000115 2 (List.mem_of_getElem? (i := 7) rfl) 0 (by decide)) rfl ⟨_, _, rfl, (hI.bty ha)⟩ rfl (fun x40 h41 rx40 p42 => ?_)
                obtain ⟨rfl, zx40⟩ := p42
                refine to_ifeq 137 (dat dk_X2_encodedStop 69 rfl) rfl rx40 (fun c43 => ?_) (fun c43 => ?_)
                · skip
                  refine to_iconst (dat dk_X2_encodedStop 74 rfl) ?_
                  exact to_iret rfl (dat dk_X2_encodedStop 75 rfl) (ri_mk (by decide) rfl)
                · skip
                  refine to_iload (dat dk_X2_encodedStop 70 rfl) rfl (to_iconst (dat dk_X2_encodedStop 71 rfl) ?_)
                  refine to_iaddA (dat dk_X2_encodedStop 72 rfl) (fun x44 rx44 => ?_)
                  refine to_goto (dat dk_X2_encodedStop 73 rfl) rfl ?_
                  exact to_iret rfl (dat dk_X2_encodedStop 75 rfl) (ri_mk rx44 rfl)
              · skip
                refine to_aload_np (dat dk_X2_encodedStop 57 rfl) (hI.1.2.2.2 _ _ (hI.bty ha)).1 rfl (to_iload (dat dk_X2_encodedStop 58 rfl) rfl ?_)
                refine to_cI ca_c3_9 (dat dk_X2_encodedStop 59 rfl) (ct_X1_byteAt l h hI a ha y24 ry24) rfl ⟨_, _, rfl, (hI.bty ha)⟩ rfl (fun x45 h46 rx45 p47 => ?_)
                obtain ⟨rfl, p47_0⟩ := p47
                refine to_cI ca_c3_67 (dat dk_X2_encodedStop 60 rfl) (ct_X9_isBlank l h hI x45 rx45) rfl trivial rfl (fun x48 h49 rx48 p50 => ?_)
                obtain ⟨rfl, zx48⟩ := p50
                refine to_ifne 118 (dat dk_X2_encodedStop 61 rfl) rfl rx48 (fun c51 => ?_) (fun c51 => ?_)
                · skip
                  refine to_aload_np (dat dk_X2_encodedStop 64 rfl) (hI.1.2.2.2 _ _ (hI.bty ha)).1 rfl (to_iload (dat dk_X2_encodedStop 65 rfl) rfl (to_ldcS (q := 115) (tx := "?=") (List.mem_of_getElem? (i := 7) rfl) (dat dk_X2_encodedStop 66 rfl) (to_iconst (dat dk_X2_encodedStop 67 rfl) ?_)))
                  refine to_cI ca_c3_58 (dat dk_X2_encodedStop 68 rfl) (ct_X1_hasAt l h hI a ha y24 ry24 1000115 2 (List.mem_of_getElem? (i := 7) rfl) 0 (by decide)) rfl ⟨_, _, rfl, (hI.bty ha)⟩ rfl (fun x52 h53 rx52 p54 => ?_)
                  obtain ⟨rfl, zx52⟩ := p54
                  refine to_ifeq 137 (dat dk_X2_encodedStop 69 rfl) rfl rx52 (fun c55 => ?_) (fun c55 => ?_)
                  · skip
                    refine to_iconst (dat dk_X2_encodedStop 74 rfl) ?_
                    exact to_iret rfl (dat dk_X2_encodedStop 75 rfl) (ri_mk (by decide) rfl)
                  · skip
                    refine to_iload (dat dk_X2_encodedStop 70 rfl) rfl (to_iconst (dat dk_X2_encodedStop 71 rfl) ?_)
                    refine to_iaddA (dat dk_X2_encodedStop 72 rfl) (fun x56 rx56 => ?_)
                    refine to_goto (dat dk_X2_encodedStop 73 rfl) rfl ?_
                    exact to_iret rfl (dat dk_X2_encodedStop 75 rfl) (ri_mk rx56 rfl)
                · skip
                  refine to_iinc (L' := [(0, .inr (.inr a)), (1, .inl f), (2, .inl x9), (3, .inl x14), (4, .inl (y24 + 1))]) (dat dk_X2_encodedStop 62 rfl) rfl (by decide) rfl (to_goto (dat dk_X2_encodedStop 63 rfl) rfl ?_)
                  exact ihn25 (n25 - 1) (by omega) (y24 + 1) (by omega) (show h.2.2 a 1 - (y24 + 1) ≤ ((n25 - 1 : Nat) : Int) by omega)
          exact lp80_n25 (h.2.2 a 1 - x23).toNat x23 rx23 (by omega)
        · skip
          refine to_iconst (dat dk_X2_encodedStop 42 rfl) ?_
          exact to_iret rfl (dat dk_X2_encodedStop 43 rfl) (ri_mk (by decide) rfl)
      · skip
        refine to_iload_n (dat dk_X2_encodedStop 32 rfl) rfl (to_bipush (dat dk_X2_encodedStop 33 rfl) (by decide) ?_)
        refine to_ine 73 (dat dk_X2_encodedStop 34 rfl) rfl rx14 (by decide) (fun c57 => ?_) (fun c57 => ?_)
        · skip
          refine to_iconst (dat dk_X2_encodedStop 42 rfl) ?_
          exact to_iret rfl (dat dk_X2_encodedStop 43 rfl) (ri_mk (by decide) rfl)
        · skip
          refine to_aload_np (dat dk_X2_encodedStop 35 rfl) (hI.1.2.2.2 _ _ (hI.bty ha)).1 rfl (to_iload_n (dat dk_X2_encodedStop 36 rfl) rfl (to_iconst (dat dk_X2_encodedStop 37 rfl) ?_))
          refine to_iaddA (dat dk_X2_encodedStop 38 rfl) (fun x58 rx58 => ?_)
          refine to_cI ca_c3_9 (dat dk_X2_encodedStop 39 rfl) (ct_X1_byteAt l h hI a ha x58 rx58) rfl ⟨_, _, rfl, (hI.bty ha)⟩ rfl (fun x59 h60 rx59 p61 => ?_)
          obtain ⟨rfl, p61_0⟩ := p61
          refine to_bipush (dat dk_X2_encodedStop 40 rfl) (by decide) ?_
          refine to_ieq 75 (dat dk_X2_encodedStop 41 rfl) rfl rx59 (by decide) (fun c62 => ?_) (fun c62 => ?_)
          · skip
            refine to_iload_n (dat dk_X2_encodedStop 44 rfl) rfl (to_iconst (dat dk_X2_encodedStop 45 rfl) ?_)
            refine to_iaddA (dat dk_X2_encodedStop 46 rfl) (fun x63 rx63 => ?_)
            refine to_istore (L' := [(0, .inr (.inr a)), (1, .inl f), (2, .inl x9), (3, .inl x14), (4, .inl x63)]) (dat dk_X2_encodedStop 47 rfl) (by decide) rfl ?_
            have lp80_n65 : ∀ (n65 : Nat) (y64 : Int), (I32 y64) → (h.2.2 a 1 - y64 ≤ (n65 : Int)) → To l E_X2_encodedStop (80, [(0, .inr (.inr a)), (1, .inl f), (2, .inl x9), (3, .inl x14), (4, .inl y64)], [], h, 0, 0) (Q_X2_encodedStop h a f) := by
              intro n65
              induction n65 using Nat.strongRecOn with
              | _ n65 ihn65 =>
              intro y64 ry64 c66
              refine to_iload (dat dk_X2_encodedStop 48 rfl) rfl (to_aload_np (dat dk_X2_encodedStop 49 rfl) (hI.1.2.2.2 _ _ (hI.bty ha)).1 rfl ?_)
              refine to_cI ca_c3_41 (dat dk_X2_encodedStop 50 rfl) (ct_X1_size l h hI a ha) rfl ⟨_, _, rfl, (hI.bty ha)⟩ rfl (fun x67 h68 rx67 p69 => ?_)
              obtain ⟨rfl, p69_0⟩ := p69
              refine to_ige 118 (dat dk_X2_encodedStop 51 rfl) rfl ry64 rx67 (fun c70 => ?_) (fun c70 => ?_)
              · skip
                refine to_aload_np (dat dk_X2_encodedStop 64 rfl) (hI.1.2.2.2 _ _ (hI.bty ha)).1 rfl (to_iload (dat dk_X2_encodedStop 65 rfl) rfl (to_ldcS (q := 115) (tx := "?=") (List.mem_of_getElem? (i := 7) rfl) (dat dk_X2_encodedStop 66 rfl) (to_iconst (dat dk_X2_encodedStop 67 rfl) ?_)))
                refine to_cI ca_c3_58 (dat dk_X2_encodedStop 68 rfl) (ct_X1_hasAt l h hI a ha y64 ry64 1000115 2 (List.mem_of_getElem? (i := 7) rfl) 0 (by decide)) rfl ⟨_, _, rfl, (hI.bty ha)⟩ rfl (fun x71 h72 rx71 p73 => ?_)
                obtain ⟨rfl, zx71⟩ := p73
                refine to_ifeq 137 (dat dk_X2_encodedStop 69 rfl) rfl rx71 (fun c74 => ?_) (fun c74 => ?_)
                · skip
                  refine to_iconst (dat dk_X2_encodedStop 74 rfl) ?_
                  exact to_iret rfl (dat dk_X2_encodedStop 75 rfl) (ri_mk (by decide) rfl)
                · skip
                  refine to_iload (dat dk_X2_encodedStop 70 rfl) rfl (to_iconst (dat dk_X2_encodedStop 71 rfl) ?_)
                  refine to_iaddA (dat dk_X2_encodedStop 72 rfl) (fun x75 rx75 => ?_)
                  refine to_goto (dat dk_X2_encodedStop 73 rfl) rfl ?_
                  exact to_iret rfl (dat dk_X2_encodedStop 75 rfl) (ri_mk rx75 rfl)
              · skip
                refine to_aload_np (dat dk_X2_encodedStop 52 rfl) (hI.1.2.2.2 _ _ (hI.bty ha)).1 rfl (to_iload (dat dk_X2_encodedStop 53 rfl) rfl ?_)
                refine to_cI ca_c3_9 (dat dk_X2_encodedStop 54 rfl) (ct_X1_byteAt l h hI a ha y64 ry64) rfl ⟨_, _, rfl, (hI.bty ha)⟩ rfl (fun x76 h77 rx76 p78 => ?_)
                obtain ⟨rfl, p78_0⟩ := p78
                refine to_bipush (dat dk_X2_encodedStop 55 rfl) (by decide) ?_
                refine to_ieq 118 (dat dk_X2_encodedStop 56 rfl) rfl rx76 (by decide) (fun c79 => ?_) (fun c79 => ?_)
                · skip
                  refine to_aload_np (dat dk_X2_encodedStop 64 rfl) (hI.1.2.2.2 _ _ (hI.bty ha)).1 rfl (to_iload (dat dk_X2_encodedStop 65 rfl) rfl (to_ldcS (q := 115) (tx := "?=") (List.mem_of_getElem? (i := 7) rfl) (dat dk_X2_encodedStop 66 rfl) (to_iconst (dat dk_X2_encodedStop 67 rfl) ?_)))
                  refine to_cI ca_c3_58 (dat dk_X2_encodedStop 68 rfl) (ct_X1_hasAt l h hI a ha y64 ry64 1000115 2 (List.mem_of_getElem? (i := 7) rfl) 0 (by decide)) rfl ⟨_, _, rfl, (hI.bty ha)⟩ rfl (fun x80 h81 rx80 p82 => ?_)
                  obtain ⟨rfl, zx80⟩ := p82
                  refine to_ifeq 137 (dat dk_X2_encodedStop 69 rfl) rfl rx80 (fun c83 => ?_) (fun c83 => ?_)
                  · skip
                    refine to_iconst (dat dk_X2_encodedStop 74 rfl) ?_
                    exact to_iret rfl (dat dk_X2_encodedStop 75 rfl) (ri_mk (by decide) rfl)
                  · skip
                    refine to_iload (dat dk_X2_encodedStop 70 rfl) rfl (to_iconst (dat dk_X2_encodedStop 71 rfl) ?_)
                    refine to_iaddA (dat dk_X2_encodedStop 72 rfl) (fun x84 rx84 => ?_)
                    refine to_goto (dat dk_X2_encodedStop 73 rfl) rfl ?_
                    exact to_iret rfl (dat dk_X2_encodedStop 75 rfl) (ri_mk rx84 rfl)
                · skip
                  refine to_aload_np (dat dk_X2_encodedStop 57 rfl) (hI.1.2.2.2 _ _ (hI.bty ha)).1 rfl (to_iload (dat dk_X2_encodedStop 58 rfl) rfl ?_)
                  refine to_cI ca_c3_9 (dat dk_X2_encodedStop 59 rfl) (ct_X1_byteAt l h hI a ha y64 ry64) rfl ⟨_, _, rfl, (hI.bty ha)⟩ rfl (fun x85 h86 rx85 p87 => ?_)
                  obtain ⟨rfl, p87_0⟩ := p87
                  refine to_cI ca_c3_67 (dat dk_X2_encodedStop 60 rfl) (ct_X9_isBlank l h hI x85 rx85) rfl trivial rfl (fun x88 h89 rx88 p90 => ?_)
                  obtain ⟨rfl, zx88⟩ := p90
                  refine to_ifne 118 (dat dk_X2_encodedStop 61 rfl) rfl rx88 (fun c91 => ?_) (fun c91 => ?_)
                  · skip
                    refine to_aload_np (dat dk_X2_encodedStop 64 rfl) (hI.1.2.2.2 _ _ (hI.bty ha)).1 rfl (to_iload (dat dk_X2_encodedStop 65 rfl) rfl (to_ldcS (q := 115) (tx := "?=") (List.mem_of_getElem? (i := 7) rfl) (dat dk_X2_encodedStop 66 rfl) (to_iconst (dat dk_X2_encodedStop 67 rfl) ?_)))
                    refine to_cI ca_c3_58 (dat dk_X2_encodedStop 68 rfl) (ct_X1_hasAt l h hI a ha y64 ry64 1000115 2 (List.mem_of_getElem? (i := 7) rfl) 0 (by decide)) rfl ⟨_, _, rfl, (hI.bty ha)⟩ rfl (fun x92 h93 rx92 p94 => ?_)
                    obtain ⟨rfl, zx92⟩ := p94
                    refine to_ifeq 137 (dat dk_X2_encodedStop 69 rfl) rfl rx92 (fun c95 => ?_) (fun c95 => ?_)
                    · skip
                      refine to_iconst (dat dk_X2_encodedStop 74 rfl) ?_
                      exact to_iret rfl (dat dk_X2_encodedStop 75 rfl) (ri_mk (by decide) rfl)
                    · skip
                      refine to_iload (dat dk_X2_encodedStop 70 rfl) rfl (to_iconst (dat dk_X2_encodedStop 71 rfl) ?_)
                      refine to_iaddA (dat dk_X2_encodedStop 72 rfl) (fun x96 rx96 => ?_)
                      refine to_goto (dat dk_X2_encodedStop 73 rfl) rfl ?_
                      exact to_iret rfl (dat dk_X2_encodedStop 75 rfl) (ri_mk rx96 rfl)
                  · skip
                    refine to_iinc (L' := [(0, .inr (.inr a)), (1, .inl f), (2, .inl x9), (3, .inl x14), (4, .inl (y64 + 1))]) (dat dk_X2_encodedStop 62 rfl) rfl (by decide) rfl (to_goto (dat dk_X2_encodedStop 63 rfl) rfl ?_)
                    exact ihn65 (n65 - 1) (by omega) (y64 + 1) (by omega) (show h.2.2 a 1 - (y64 + 1) ≤ ((n65 - 1 : Nat) : Int) by omega)
            exact lp80_n65 (h.2.2 a 1 - x63).toNat x63 rx63 (by omega)
          · skip
            refine to_iconst (dat dk_X2_encodedStop 42 rfl) ?_
            exact to_iret rfl (dat dk_X2_encodedStop 43 rfl) (ri_mk (by decide) rfl)
  · skip
    refine to_iload_n (dat dk_X2_encodedStop 6 rfl) rfl (to_bipush (dat dk_X2_encodedStop 7 rfl) (by decide) ?_)
    refine to_iaddA (dat dk_X2_encodedStop 8 rfl) (fun x97 rx97 => ?_)
    refine to_istore_n (L' := [(0, .inr (.inr a)), (1, .inl f), (2, .inl x97)]) (dat dk_X2_encodedStop 9 rfl) (by decide) rfl (to_goto (dat dk_X2_encodedStop 10 rfl) rfl (to_aload_np (dat dk_X2_encodedStop 24 rfl) (hI.1.2.2.2 _ _ (hI.bty ha)).1 rfl (to_iload_n (dat dk_X2_encodedStop 25 rfl) rfl ?_)))
    obtain ⟨x98, ex98⟩ : ∃ y : Int, h.2.2 a 1 = y := ⟨_, rfl⟩
    have rx98 := hI.blen ha
    rw [ex98] at rx98
    refine to_cI ca_c3_9 (dat dk_X2_encodedStop 26 rfl) (ct_X1_byteAt l h hI a ha x97 rx97) rfl ⟨_, _, rfl, (hI.bty ha)⟩ rfl (fun x99 h100 rx99 p101 => ?_)
    obtain ⟨rfl, p101_0⟩ := p101
    refine to_cI ca_c3_64 (dat dk_X2_encodedStop 27 rfl) (ct_X9_small l h hI x99 rx99) rfl trivial rfl (fun x102 h103 rx102 p104 => ?_)
    subst p104
    refine to_istore_n (L' := [(0, .inr (.inr a)), (1, .inl f), (2, .inl x97), (3, .inl x102)]) (dat dk_X2_encodedStop 28 rfl) (by decide) rfl (to_iload_n (dat dk_X2_encodedStop 29 rfl) rfl (to_bipush (dat dk_X2_encodedStop 30 rfl) (by decide) ?_))
    refine to_ieq 61 (dat dk_X2_encodedStop 31 rfl) rfl rx102 (by decide) (fun c105 => ?_) (fun c105 => ?_)
    · skip
      refine to_aload_np (dat dk_X2_encodedStop 35 rfl) (hI.1.2.2.2 _ _ (hI.bty ha)).1 rfl (to_iload_n (dat dk_X2_encodedStop 36 rfl) rfl (to_iconst (dat dk_X2_encodedStop 37 rfl) ?_))
      refine to_iaddA (dat dk_X2_encodedStop 38 rfl) (fun x106 rx106 => ?_)
      refine to_cI ca_c3_9 (dat dk_X2_encodedStop 39 rfl) (ct_X1_byteAt l h hI a ha x106 rx106) rfl ⟨_, _, rfl, (hI.bty ha)⟩ rfl (fun x107 h108 rx107 p109 => ?_)
      obtain ⟨rfl, p109_0⟩ := p109
      refine to_bipush (dat dk_X2_encodedStop 40 rfl) (by decide) ?_
      refine to_ieq 75 (dat dk_X2_encodedStop 41 rfl) rfl rx107 (by decide) (fun c110 => ?_) (fun c110 => ?_)
      · skip
        refine to_iload_n (dat dk_X2_encodedStop 44 rfl) rfl (to_iconst (dat dk_X2_encodedStop 45 rfl) ?_)
        refine to_iaddA (dat dk_X2_encodedStop 46 rfl) (fun x111 rx111 => ?_)
        refine to_istore (L' := [(0, .inr (.inr a)), (1, .inl f), (2, .inl x97), (3, .inl x102), (4, .inl x111)]) (dat dk_X2_encodedStop 47 rfl) (by decide) rfl ?_
        have lp80_n113 : ∀ (n113 : Nat) (y112 : Int), (I32 y112) → (h.2.2 a 1 - y112 ≤ (n113 : Int)) → To l E_X2_encodedStop (80, [(0, .inr (.inr a)), (1, .inl f), (2, .inl x97), (3, .inl x102), (4, .inl y112)], [], h, 0, 0) (Q_X2_encodedStop h a f) := by
          intro n113
          induction n113 using Nat.strongRecOn with
          | _ n113 ihn113 =>
          intro y112 ry112 c114
          refine to_iload (dat dk_X2_encodedStop 48 rfl) rfl (to_aload_np (dat dk_X2_encodedStop 49 rfl) (hI.1.2.2.2 _ _ (hI.bty ha)).1 rfl ?_)
          refine to_cI ca_c3_41 (dat dk_X2_encodedStop 50 rfl) (ct_X1_size l h hI a ha) rfl ⟨_, _, rfl, (hI.bty ha)⟩ rfl (fun x115 h116 rx115 p117 => ?_)
          obtain ⟨rfl, p117_0⟩ := p117
          refine to_ige 118 (dat dk_X2_encodedStop 51 rfl) rfl ry112 rx115 (fun c118 => ?_) (fun c118 => ?_)
          · skip
            refine to_aload_np (dat dk_X2_encodedStop 64 rfl) (hI.1.2.2.2 _ _ (hI.bty ha)).1 rfl (to_iload (dat dk_X2_encodedStop 65 rfl) rfl (to_ldcS (q := 115) (tx := "?=") (List.mem_of_getElem? (i := 7) rfl) (dat dk_X2_encodedStop 66 rfl) (to_iconst (dat dk_X2_encodedStop 67 rfl) ?_)))
            refine to_cI ca_c3_58 (dat dk_X2_encodedStop 68 rfl) (ct_X1_hasAt l h hI a ha y112 ry112 1000115 2 (List.mem_of_getElem? (i := 7) rfl) 0 (by decide)) rfl ⟨_, _, rfl, (hI.bty ha)⟩ rfl (fun x119 h120 rx119 p121 => ?_)
            obtain ⟨rfl, zx119⟩ := p121
            refine to_ifeq 137 (dat dk_X2_encodedStop 69 rfl) rfl rx119 (fun c122 => ?_) (fun c122 => ?_)
            · skip
              refine to_iconst (dat dk_X2_encodedStop 74 rfl) ?_
              exact to_iret rfl (dat dk_X2_encodedStop 75 rfl) (ri_mk (by decide) rfl)
            · skip
              refine to_iload (dat dk_X2_encodedStop 70 rfl) rfl (to_iconst (dat dk_X2_encodedStop 71 rfl) ?_)
              refine to_iaddA (dat dk_X2_encodedStop 72 rfl) (fun x123 rx123 => ?_)
              refine to_goto (dat dk_X2_encodedStop 73 rfl) rfl ?_
              exact to_iret rfl (dat dk_X2_encodedStop 75 rfl) (ri_mk rx123 rfl)
          · skip
            refine to_aload_np (dat dk_X2_encodedStop 52 rfl) (hI.1.2.2.2 _ _ (hI.bty ha)).1 rfl (to_iload (dat dk_X2_encodedStop 53 rfl) rfl ?_)
            refine to_cI ca_c3_9 (dat dk_X2_encodedStop 54 rfl) (ct_X1_byteAt l h hI a ha y112 ry112) rfl ⟨_, _, rfl, (hI.bty ha)⟩ rfl (fun x124 h125 rx124 p126 => ?_)
            obtain ⟨rfl, p126_0⟩ := p126
            refine to_bipush (dat dk_X2_encodedStop 55 rfl) (by decide) ?_
            refine to_ieq 118 (dat dk_X2_encodedStop 56 rfl) rfl rx124 (by decide) (fun c127 => ?_) (fun c127 => ?_)
            · skip
              refine to_aload_np (dat dk_X2_encodedStop 64 rfl) (hI.1.2.2.2 _ _ (hI.bty ha)).1 rfl (to_iload (dat dk_X2_encodedStop 65 rfl) rfl (to_ldcS (q := 115) (tx := "?=") (List.mem_of_getElem? (i := 7) rfl) (dat dk_X2_encodedStop 66 rfl) (to_iconst (dat dk_X2_encodedStop 67 rfl) ?_)))
              refine to_cI ca_c3_58 (dat dk_X2_encodedStop 68 rfl) (ct_X1_hasAt l h hI a ha y112 ry112 1000115 2 (List.mem_of_getElem? (i := 7) rfl) 0 (by decide)) rfl ⟨_, _, rfl, (hI.bty ha)⟩ rfl (fun x128 h129 rx128 p130 => ?_)
              obtain ⟨rfl, zx128⟩ := p130
              refine to_ifeq 137 (dat dk_X2_encodedStop 69 rfl) rfl rx128 (fun c131 => ?_) (fun c131 => ?_)
              · skip
                refine to_iconst (dat dk_X2_encodedStop 74 rfl) ?_
                exact to_iret rfl (dat dk_X2_encodedStop 75 rfl) (ri_mk (by decide) rfl)
              · skip
                refine to_iload (dat dk_X2_encodedStop 70 rfl) rfl (to_iconst (dat dk_X2_encodedStop 71 rfl) ?_)
                refine to_iaddA (dat dk_X2_encodedStop 72 rfl) (fun x132 rx132 => ?_)
                refine to_goto (dat dk_X2_encodedStop 73 rfl) rfl ?_
                exact to_iret rfl (dat dk_X2_encodedStop 75 rfl) (ri_mk rx132 rfl)
            · skip
              refine to_aload_np (dat dk_X2_encodedStop 57 rfl) (hI.1.2.2.2 _ _ (hI.bty ha)).1 rfl (to_iload (dat dk_X2_encodedStop 58 rfl) rfl ?_)
              refine to_cI ca_c3_9 (dat dk_X2_encodedStop 59 rfl) (ct_X1_byteAt l h hI a ha y112 ry112) rfl ⟨_, _, rfl, (hI.bty ha)⟩ rfl (fun x133 h134 rx133 p135 => ?_)
              obtain ⟨rfl, p135_0⟩ := p135
              refine to_cI ca_c3_67 (dat dk_X2_encodedStop 60 rfl) (ct_X9_isBlank l h hI x133 rx133) rfl trivial rfl (fun x136 h137 rx136 p138 => ?_)
              obtain ⟨rfl, zx136⟩ := p138
              refine to_ifne 118 (dat dk_X2_encodedStop 61 rfl) rfl rx136 (fun c139 => ?_) (fun c139 => ?_)
              · skip
                refine to_aload_np (dat dk_X2_encodedStop 64 rfl) (hI.1.2.2.2 _ _ (hI.bty ha)).1 rfl (to_iload (dat dk_X2_encodedStop 65 rfl) rfl (to_ldcS (q := 115) (tx := "?=") (List.mem_of_getElem? (i := 7) rfl) (dat dk_X2_encodedStop 66 rfl) (to_iconst (dat dk_X2_encodedStop 67 rfl) ?_)))
                refine to_cI ca_c3_58 (dat dk_X2_encodedStop 68 rfl) (ct_X1_hasAt l h hI a ha y112 ry112 1000115 2 (List.mem_of_getElem? (i := 7) rfl) 0 (by decide)) rfl ⟨_, _, rfl, (hI.bty ha)⟩ rfl (fun x140 h141 rx140 p142 => ?_)
                obtain ⟨rfl, zx140⟩ := p142
                refine to_ifeq 137 (dat dk_X2_encodedStop 69 rfl) rfl rx140 (fun c143 => ?_) (fun c143 => ?_)
                · skip
                  refine to_iconst (dat dk_X2_encodedStop 74 rfl) ?_
                  exact to_iret rfl (dat dk_X2_encodedStop 75 rfl) (ri_mk (by decide) rfl)
                · skip
                  refine to_iload (dat dk_X2_encodedStop 70 rfl) rfl (to_iconst (dat dk_X2_encodedStop 71 rfl) ?_)
                  refine to_iaddA (dat dk_X2_encodedStop 72 rfl) (fun x144 rx144 => ?_)
                  refine to_goto (dat dk_X2_encodedStop 73 rfl) rfl ?_
                  exact to_iret rfl (dat dk_X2_encodedStop 75 rfl) (ri_mk rx144 rfl)
              · skip
                refine to_iinc (L' := [(0, .inr (.inr a)), (1, .inl f), (2, .inl x97), (3, .inl x102), (4, .inl (y112 + 1))]) (dat dk_X2_encodedStop 62 rfl) rfl (by decide) rfl (to_goto (dat dk_X2_encodedStop 63 rfl) rfl ?_)
                exact ihn113 (n113 - 1) (by omega) (y112 + 1) (by omega) (show h.2.2 a 1 - (y112 + 1) ≤ ((n113 - 1 : Nat) : Int) by omega)
        exact lp80_n113 (h.2.2 a 1 - x111).toNat x111 rx111 (by omega)
      · skip
        refine to_iconst (dat dk_X2_encodedStop 42 rfl) ?_
        exact to_iret rfl (dat dk_X2_encodedStop 43 rfl) (ri_mk (by decide) rfl)
    · skip
      refine to_iload_n (dat dk_X2_encodedStop 32 rfl) rfl (to_bipush (dat dk_X2_encodedStop 33 rfl) (by decide) ?_)
      refine to_ine 73 (dat dk_X2_encodedStop 34 rfl) rfl rx102 (by decide) (fun c145 => ?_) (fun c145 => ?_)
      · skip
        refine to_iconst (dat dk_X2_encodedStop 42 rfl) ?_
        exact to_iret rfl (dat dk_X2_encodedStop 43 rfl) (ri_mk (by decide) rfl)
      · skip
        refine to_aload_np (dat dk_X2_encodedStop 35 rfl) (hI.1.2.2.2 _ _ (hI.bty ha)).1 rfl (to_iload_n (dat dk_X2_encodedStop 36 rfl) rfl (to_iconst (dat dk_X2_encodedStop 37 rfl) ?_))
        refine to_iaddA (dat dk_X2_encodedStop 38 rfl) (fun x146 rx146 => ?_)
        refine to_cI ca_c3_9 (dat dk_X2_encodedStop 39 rfl) (ct_X1_byteAt l h hI a ha x146 rx146) rfl ⟨_, _, rfl, (hI.bty ha)⟩ rfl (fun x147 h148 rx147 p149 => ?_)
        obtain ⟨rfl, p149_0⟩ := p149
        refine to_bipush (dat dk_X2_encodedStop 40 rfl) (by decide) ?_
        refine to_ieq 75 (dat dk_X2_encodedStop 41 rfl) rfl rx147 (by decide) (fun c150 => ?_) (fun c150 => ?_)
        · skip
          refine to_iload_n (dat dk_X2_encodedStop 44 rfl) rfl (to_iconst (dat dk_X2_encodedStop 45 rfl) ?_)
          refine to_iaddA (dat dk_X2_encodedStop 46 rfl) (fun x151 rx151 => ?_)
          refine to_istore (L' := [(0, .inr (.inr a)), (1, .inl f), (2, .inl x97), (3, .inl x102), (4, .inl x151)]) (dat dk_X2_encodedStop 47 rfl) (by decide) rfl ?_
          have lp80_n153 : ∀ (n153 : Nat) (y152 : Int), (I32 y152) → (h.2.2 a 1 - y152 ≤ (n153 : Int)) → To l E_X2_encodedStop (80, [(0, .inr (.inr a)), (1, .inl f), (2, .inl x97), (3, .inl x102), (4, .inl y152)], [], h, 0, 0) (Q_X2_encodedStop h a f) := by
            intro n153
            induction n153 using Nat.strongRecOn with
            | _ n153 ihn153 =>
            intro y152 ry152 c154
            refine to_iload (dat dk_X2_encodedStop 48 rfl) rfl (to_aload_np (dat dk_X2_encodedStop 49 rfl) (hI.1.2.2.2 _ _ (hI.bty ha)).1 rfl ?_)
            refine to_cI ca_c3_41 (dat dk_X2_encodedStop 50 rfl) (ct_X1_size l h hI a ha) rfl ⟨_, _, rfl, (hI.bty ha)⟩ rfl (fun x155 h156 rx155 p157 => ?_)
            obtain ⟨rfl, p157_0⟩ := p157
            refine to_ige 118 (dat dk_X2_encodedStop 51 rfl) rfl ry152 rx155 (fun c158 => ?_) (fun c158 => ?_)
            · skip
              refine to_aload_np (dat dk_X2_encodedStop 64 rfl) (hI.1.2.2.2 _ _ (hI.bty ha)).1 rfl (to_iload (dat dk_X2_encodedStop 65 rfl) rfl (to_ldcS (q := 115) (tx := "?=") (List.mem_of_getElem? (i := 7) rfl) (dat dk_X2_encodedStop 66 rfl) (to_iconst (dat dk_X2_encodedStop 67 rfl) ?_)))
              refine to_cI ca_c3_58 (dat dk_X2_encodedStop 68 rfl) (ct_X1_hasAt l h hI a ha y152 ry152 1000115 2 (List.mem_of_getElem? (i := 7) rfl) 0 (by decide)) rfl ⟨_, _, rfl, (hI.bty ha)⟩ rfl (fun x159 h160 rx159 p161 => ?_)
              obtain ⟨rfl, zx159⟩ := p161
              refine to_ifeq 137 (dat dk_X2_encodedStop 69 rfl) rfl rx159 (fun c162 => ?_) (fun c162 => ?_)
              · skip
                refine to_iconst (dat dk_X2_encodedStop 74 rfl) ?_
                exact to_iret rfl (dat dk_X2_encodedStop 75 rfl) (ri_mk (by decide) rfl)
              · skip
                refine to_iload (dat dk_X2_encodedStop 70 rfl) rfl (to_iconst (dat dk_X2_encodedStop 71 rfl) ?_)
                refine to_iaddA (dat dk_X2_encodedStop 72 rfl) (fun x163 rx163 => ?_)
                refine to_goto (dat dk_X2_encodedStop 73 rfl) rfl ?_
                exact to_iret rfl (dat dk_X2_encodedStop 75 rfl) (ri_mk rx163 rfl)
            · skip
              refine to_aload_np (dat dk_X2_encodedStop 52 rfl) (hI.1.2.2.2 _ _ (hI.bty ha)).1 rfl (to_iload (dat dk_X2_encodedStop 53 rfl) rfl ?_)
              refine to_cI ca_c3_9 (dat dk_X2_encodedStop 54 rfl) (ct_X1_byteAt l h hI a ha y152 ry152) rfl ⟨_, _, rfl, (hI.bty ha)⟩ rfl (fun x164 h165 rx164 p166 => ?_)
              obtain ⟨rfl, p166_0⟩ := p166
              refine to_bipush (dat dk_X2_encodedStop 55 rfl) (by decide) ?_
              refine to_ieq 118 (dat dk_X2_encodedStop 56 rfl) rfl rx164 (by decide) (fun c167 => ?_) (fun c167 => ?_)
              · skip
                refine to_aload_np (dat dk_X2_encodedStop 64 rfl) (hI.1.2.2.2 _ _ (hI.bty ha)).1 rfl (to_iload (dat dk_X2_encodedStop 65 rfl) rfl (to_ldcS (q := 115) (tx := "?=") (List.mem_of_getElem? (i := 7) rfl) (dat dk_X2_encodedStop 66 rfl) (to_iconst (dat dk_X2_encodedStop 67 rfl) ?_)))
                refine to_cI ca_c3_58 (dat dk_X2_encodedStop 68 rfl) (ct_X1_hasAt l h hI a ha y152 ry152 1000115 2 (List.mem_of_getElem? (i := 7) rfl) 0 (by decide)) rfl ⟨_, _, rfl, (hI.bty ha)⟩ rfl (fun x168 h169 rx168 p170 => ?_)
                obtain ⟨rfl, zx168⟩ := p170
                refine to_ifeq 137 (dat dk_X2_encodedStop 69 rfl) rfl rx168 (fun c171 => ?_) (fun c171 => ?_)
                · skip
                  refine to_iconst (dat dk_X2_encodedStop 74 rfl) ?_
                  exact to_iret rfl (dat dk_X2_encodedStop 75 rfl) (ri_mk (by decide) rfl)
                · skip
                  refine to_iload (dat dk_X2_encodedStop 70 rfl) rfl (to_iconst (dat dk_X2_encodedStop 71 rfl) ?_)
                  refine to_iaddA (dat dk_X2_encodedStop 72 rfl) (fun x172 rx172 => ?_)
                  refine to_goto (dat dk_X2_encodedStop 73 rfl) rfl ?_
                  exact to_iret rfl (dat dk_X2_encodedStop 75 rfl) (ri_mk rx172 rfl)
              · skip
                refine to_aload_np (dat dk_X2_encodedStop 57 rfl) (hI.1.2.2.2 _ _ (hI.bty ha)).1 rfl (to_iload (dat dk_X2_encodedStop 58 rfl) rfl ?_)
                refine to_cI ca_c3_9 (dat dk_X2_encodedStop 59 rfl) (ct_X1_byteAt l h hI a ha y152 ry152) rfl ⟨_, _, rfl, (hI.bty ha)⟩ rfl (fun x173 h174 rx173 p175 => ?_)
                obtain ⟨rfl, p175_0⟩ := p175
                refine to_cI ca_c3_67 (dat dk_X2_encodedStop 60 rfl) (ct_X9_isBlank l h hI x173 rx173) rfl trivial rfl (fun x176 h177 rx176 p178 => ?_)
                obtain ⟨rfl, zx176⟩ := p178
                refine to_ifne 118 (dat dk_X2_encodedStop 61 rfl) rfl rx176 (fun c179 => ?_) (fun c179 => ?_)
                · skip
                  refine to_aload_np (dat dk_X2_encodedStop 64 rfl) (hI.1.2.2.2 _ _ (hI.bty ha)).1 rfl (to_iload (dat dk_X2_encodedStop 65 rfl) rfl (to_ldcS (q := 115) (tx := "?=") (List.mem_of_getElem? (i := 7) rfl) (dat dk_X2_encodedStop 66 rfl) (to_iconst (dat dk_X2_encodedStop 67 rfl) ?_)))
                  refine to_cI ca_c3_58 (dat dk_X2_encodedStop 68 rfl) (ct_X1_hasAt l h hI a ha y152 ry152 1000115 2 (List.mem_of_getElem? (i := 7) rfl) 0 (by decide)) rfl ⟨_, _, rfl, (hI.bty ha)⟩ rfl (fun x180 h181 rx180 p182 => ?_)
                  obtain ⟨rfl, zx180⟩ := p182
                  refine to_ifeq 137 (dat dk_X2_encodedStop 69 rfl) rfl rx180 (fun c183 => ?_) (fun c183 => ?_)
                  · skip
                    refine to_iconst (dat dk_X2_encodedStop 74 rfl) ?_
                    exact to_iret rfl (dat dk_X2_encodedStop 75 rfl) (ri_mk (by decide) rfl)
                  · skip
                    refine to_iload (dat dk_X2_encodedStop 70 rfl) rfl (to_iconst (dat dk_X2_encodedStop 71 rfl) ?_)
                    refine to_iaddA (dat dk_X2_encodedStop 72 rfl) (fun x184 rx184 => ?_)
                    refine to_goto (dat dk_X2_encodedStop 73 rfl) rfl ?_
                    exact to_iret rfl (dat dk_X2_encodedStop 75 rfl) (ri_mk rx184 rfl)
                · skip
                  refine to_iinc (L' := [(0, .inr (.inr a)), (1, .inl f), (2, .inl x97), (3, .inl x102), (4, .inl (y152 + 1))]) (dat dk_X2_encodedStop 62 rfl) rfl (by decide) rfl (to_goto (dat dk_X2_encodedStop 63 rfl) rfl ?_)
                  exact ihn153 (n153 - 1) (by omega) (y152 + 1) (by omega) (show h.2.2 a 1 - (y152 + 1) ≤ ((n153 - 1 : Nat) : Int) by omega)
          exact lp80_n153 (h.2.2 a 1 - x151).toNat x151 rx151 (by omega)
        · skip
          refine to_iconst (dat dk_X2_encodedStop 42 rfl) ?_
          exact to_iret rfl (dat dk_X2_encodedStop 43 rfl) (ri_mk (by decide) rfl)
abbrev Q_X2_encoded (h : Hp) (a : Nat) (f : Int) (t : Int) (o : Nat) : Option V → Hp → Nat → Nat → Prop := RV (fun H => Inv H ∧ Fr [o] h H)
set_option maxRecDepth 100000 in
theorem ct_X2_encoded (l : Launch) (h : Hp) (hI : Inv h) (a : Nat) (ha : isB a = true) (f : Int) (hf : I32 f) (t : Int) (ht : I32 t) (o : Nat) (ho : isB o = true) : Ct l D_X2_encoded 3 67 [.inr (.inr a), .inl f, .inl t, .inr (.inr o)] h (Q_X2_encoded h a f t o) := by
  refine ct_of pn_X2_encoded (Nat.le_of_ble_eq_true rfl) ?_
  show To l E_X2_encoded (0, [(0, .inr (.inr a)), (1, .inl f), (2, .inl t), (3, .inr (.inr o))], [], h, 0, 0) _
  refine to_aload_np (dat dk_X2_encoded 0 rfl) (hI.1.2.2.2 _ _ (hI.bty ha)).1 rfl (to_bipush (dat dk_X2_encoded 1 rfl) (by decide) (to_iload_n (dat dk_X2_encoded 2 rfl) rfl (to_iconst (dat dk_X2_encoded 3 rfl) ?_)))
  refine to_iaddA (dat dk_X2_encoded 4 rfl) (fun x1 rx1 => ?_)
  refine to_iload_n (dat dk_X2_encoded 5 rfl) rfl ?_
  refine to_cI ca_c3_73 (dat dk_X2_encoded 6 rfl) (ct_X1_seek l h hI a ha 63 (by decide) x1 rx1 t ht) rfl ⟨_, _, rfl, (hI.bty ha)⟩ rfl (fun x2 h3 rx2 p4 => ?_)
  obtain ⟨rfl, p4_0⟩ := p4
  refine to_iconst (dat dk_X2_encoded 7 rfl) ?_
  refine to_iaddA (dat dk_X2_encoded 8 rfl) (fun x5 rx5 => ?_)
  refine to_istore (L' := [(0, .inr (.inr a)), (1, .inl f), (2, .inl t), (3, .inr (.inr o)), (4, .inl x5)]) (dat dk_X2_encoded 9 rfl) (by decide) rfl (to_aload_np (dat dk_X2_encoded 10 rfl) (hI.1.2.2.2 _ _ (hI.bty ha)).1 rfl (to_iload (dat dk_X2_encoded 11 rfl) rfl ?_))
  obtain ⟨x6, ex6⟩ : ∃ y : Int, h.2.2 a 1 = y := ⟨_, rfl⟩
  have rx6 := hI.blen ha
  rw [ex6] at rx6
  refine to_cI ca_c3_9 (dat dk_X2_encoded 12 rfl) (ct_X1_byteAt l h hI a ha x5 rx5) rfl ⟨_, _, rfl, (hI.bty ha)⟩ rfl (fun x7 h8 rx7 p9 => ?_)
  obtain ⟨rfl, p9_0⟩ := p9
  refine to_cI ca_c3_64 (dat dk_X2_encoded 13 rfl) (ct_X9_small l h hI x7 rx7) rfl trivial rfl (fun x10 h11 rx10 p12 => ?_)
  subst p12
  refine to_bipush (dat dk_X2_encoded 14 rfl) (by decide) ?_
  refine to_ine 43 (dat dk_X2_encoded 15 rfl) rfl rx10 (by decide) (fun c13 => ?_) (fun c13 => ?_)
  · skip
    refine to_aload_np (dat dk_X2_encoded 26 rfl) (hI.1.2.2.2 _ _ (hI.bty ha)).1 rfl (to_iload (dat dk_X2_encoded 27 rfl) rfl (to_iconst (dat dk_X2_encoded 28 rfl) ?_))
    refine to_iaddA (dat dk_X2_encoded 29 rfl) (fun x14 rx14 => ?_)
    refine to_iload_n (dat dk_X2_encoded 30 rfl) rfl (to_iconst (dat dk_X2_encoded 31 rfl) ?_)
    refine to_isubA (dat dk_X2_encoded 32 rfl) (fun x15 rx15 => ?_)
    refine to_iconst (dat dk_X2_encoded 33 rfl) (to_aload_np (dat dk_X2_encoded 34 rfl) (hI.1.2.2.2 _ _ (hI.bty ho)).1 rfl ?_)
    refine to_cV ca_c3_35 (dat dk_X2_encoded 35 rfl) (ct_X2_escaped l h hI a ha x14 rx14 x15 rx15 1 (by decide) o ho) rfl trivial rfl (fun h17 p18 => ?_)
    obtain ⟨Ih17, fh17⟩ := p18
    have f19 : Fr [o] h h17 := Fr.sub (Fr.rf _ _) fh17 (sub_self _)
    exact to_vret rfl (dat dk_X2_encoded 36 rfl) (rv_mk ⟨Ih17, f19⟩)
  · skip
    refine to_aload_np (dat dk_X2_encoded 16 rfl) (hI.1.2.2.2 _ _ (hI.bty ha)).1 rfl (to_iload (dat dk_X2_encoded 17 rfl) rfl (to_iconst (dat dk_X2_encoded 18 rfl) ?_))
    refine to_iaddA (dat dk_X2_encoded 19 rfl) (fun x20 rx20 => ?_)
    refine to_iload_n (dat dk_X2_encoded 20 rfl) rfl (to_iconst (dat dk_X2_encoded 21 rfl) ?_)
    refine to_isubA (dat dk_X2_encoded 22 rfl) (fun x21 rx21 => ?_)
    refine to_aload_np (dat dk_X2_encoded 23 rfl) (hI.1.2.2.2 _ _ (hI.bty ho)).1 rfl ?_
    refine to_cV ca_c3_76 (dat dk_X2_encoded 24 rfl) (ct_X2_base64 l h hI a ha x20 rx20 x21 rx21 o ho) rfl trivial rfl (fun h23 p24 => ?_)
    obtain ⟨Ih23, fh23⟩ := p24
    have f25 : Fr [o] h h23 := Fr.sub (Fr.rf _ _) fh23 (sub_self _)
    refine to_goto (dat dk_X2_encoded 25 rfl) rfl ?_
    exact to_vret rfl (dat dk_X2_encoded 36 rfl) (rv_mk ⟨Ih23, f25⟩)
abbrev Q_X2_encodedWords (h : Hp) (a : Nat) (o : Nat) : Option V → Hp → Nat → Nat → Prop := RV (fun H => Inv H ∧ Fr [o] h H)
set_option maxRecDepth 100000 in
theorem ct_X2_encodedWords (l : Launch) (h : Hp) (hI : Inv h) (a : Nat) (ha : isB a = true) (o : Nat) (ho : isB o = true) : Ct l D_X2_encodedWords 7 155 [.inr (.inr a), .inr (.inr o)] h (Q_X2_encodedWords h a o) := by
  refine ct_of pn_X2_encodedWords (Nat.le_of_ble_eq_true rfl) ?_
  show To l E_X2_encodedWords (0, [(0, .inr (.inr a)), (1, .inr (.inr o))], [], h, 0, 0) _
  refine to_iconst (dat dk_X2_encodedWords 0 rfl) (to_istore_n (L' := [(0, .inr (.inr a)), (1, .inr (.inr o)), (2, .inl 0)]) (dat dk_X2_encodedWords 1 rfl) (by decide) rfl (to_iconst (dat dk_X2_encodedWords 2 rfl) (to_istore_n (L' := [(0, .inr (.inr a)), (1, .inr (.inr o)), (2, .inl 0), (3, .inl 0)]) (dat dk_X2_encodedWords 3 rfl) (by decide) rfl ?_)))
  have lp4_n5 : ∀ (n5 : Nat) (y1 : Int) (y2 : Int) (h3 : Hp), (I32 y1) → (I32 y2) → (Inv h3) → (Fr [o] h h3) → (0 ≤ y2) → (1300 - y2 ≤ (n5 : Int)) → To l E_X2_encodedWords (4, [(0, .inr (.inr a)), (1, .inr (.inr o)), (2, .inl y1), (3, .inl y2)], [], h3, 0, 0) (Q_X2_encodedWords h a o) := by
    intro n5
    induction n5 using Nat.strongRecOn with
    | _ n5 ihn5 =>
    intro y1 y2 h3 ry1 ry2 Ih3 fh3 c4 c6
    refine to_iload_n (dat dk_X2_encodedWords 4 rfl) rfl (to_aload_np (dat dk_X2_encodedWords 5 rfl) (Ih3.1.2.2.2 _ _ (Ih3.bty ha)).1 rfl ?_)
    obtain ⟨x7, ex7⟩ : ∃ y : Int, h3.2.2 a 1 = y := ⟨_, rfl⟩
    have rx7 := Ih3.blen ha
    rw [ex7] at rx7
    refine to_cI ca_c3_41 (dat dk_X2_encodedWords 6 rfl) (ct_X1_size l h3 Ih3 a ha) rfl ⟨_, _, rfl, (Ih3.bty ha)⟩ rfl (fun x8 h9 rx8 p10 => ?_)
    obtain ⟨rfl, p10_0⟩ := p10
    refine to_ige 92 (dat dk_X2_encodedWords 7 rfl) rfl ry2 rx8 (fun c11 => ?_) (fun c11 => ?_)
    · skip
      exact to_vret rfl (dat dk_X2_encodedWords 48 rfl) (rv_mk ⟨Ih3, fh3⟩)
    · skip
      refine to_iload_n (dat dk_X2_encodedWords 8 rfl) rfl (to_aload_np (dat dk_X2_encodedWords 9 rfl) (Ih3.1.2.2.2 _ _ (Ih3.bty ha)).1 rfl ?_)
      refine to_cI ca_c3_41 (dat dk_X2_encodedWords 10 rfl) (ct_X1_size l h3 Ih3 a ha) rfl ⟨_, _, rfl, (Ih3.bty ha)⟩ rfl (fun x12 h13 rx12 p14 => ?_)
      obtain ⟨rfl, p14_0⟩ := p14
      refine to_ige 92 (dat dk_X2_encodedWords 11 rfl) rfl ry1 rx12 (fun c15 => ?_) (fun c15 => ?_)
      · skip
        exact to_vret rfl (dat dk_X2_encodedWords 48 rfl) (rv_mk ⟨Ih3, fh3⟩)
      · skip
        refine to_aload_np (dat dk_X2_encodedWords 12 rfl) (Ih3.1.2.2.2 _ _ (Ih3.bty ha)).1 rfl (to_iload_n (dat dk_X2_encodedWords 13 rfl) rfl ?_)
        refine to_cI ca_c3_45 (dat dk_X2_encodedWords 14 rfl) (ct_X2_encodedStop l h3 Ih3 a ha y1 ry1) rfl trivial rfl (fun x16 h17 rx16 p18 => ?_)
        subst p18
        refine to_istore (L' := [(0, .inr (.inr a)), (1, .inr (.inr o)), (2, .inl y1), (3, .inl y2), (4, .inl x16)]) (dat dk_X2_encodedWords 15 rfl) (by decide) rfl (to_iload (dat dk_X2_encodedWords 16 rfl) rfl (to_iconst (dat dk_X2_encodedWords 17 rfl) ?_))
        refine to_ine 48 (dat dk_X2_encodedWords 18 rfl) rfl rx16 (by decide) (fun c19 => ?_) (fun c19 => ?_)
        · skip
          refine to_aload_np (dat dk_X2_encodedWords 26 rfl) (Ih3.1.2.2.2 _ _ (Ih3.bty ha)).1 rfl (to_iload_n (dat dk_X2_encodedWords 27 rfl) rfl (to_iload (dat dk_X2_encodedWords 28 rfl) rfl (to_aload_np (dat dk_X2_encodedWords 29 rfl) (Ih3.1.2.2.2 _ _ (Ih3.bty ho)).1 rfl ?_)))
          refine to_cV ca_c3_49 (dat dk_X2_encodedWords 30 rfl) (ct_X2_encoded l h3 Ih3 a ha y1 ry1 x16 rx16 o ho) rfl trivial rfl (fun h21 p22 => ?_)
          obtain ⟨Ih21, fh21⟩ := p22
          have f23 : Fr [o] h h21 := Fr.sub fh3 fh21 (sub_self _)
          refine to_aload_np (dat dk_X2_encodedWords 31 rfl) (Ih21.1.2.2.2 _ _ (Ih21.bty ha)).1 rfl (to_iload (dat dk_X2_encodedWords 32 rfl) rfl (to_aload_np (dat dk_X2_encodedWords 33 rfl) (Ih21.1.2.2.2 _ _ (Ih21.bty ha)).1 rfl ?_))
          obtain ⟨x24, ex24⟩ : ∃ y : Int, h21.2.2 a 1 = y := ⟨_, rfl⟩
          have rx24 := Ih21.blen ha
          rw [ex24] at rx24
          refine to_cI ca_c3_41 (dat dk_X2_encodedWords 34 rfl) (ct_X1_size l h21 Ih21 a ha) rfl ⟨_, _, rfl, (Ih21.bty ha)⟩ rfl (fun x25 h26 rx25 p27 => ?_)
          obtain ⟨rfl, p27_0⟩ := p27
          refine to_cI ca_c3_53 (dat dk_X2_encodedWords 35 rfl) (ct_X1_blanksOn l h21 Ih21 a ha x16 rx16 x25 rx25) rfl ⟨_, _, rfl, (Ih21.bty ha)⟩ rfl (fun x28 h29 rx28 p30 => ?_)
          obtain ⟨rfl, p30_0, p30_1⟩ := p30
          refine to_istore (L' := [(0, .inr (.inr a)), (1, .inr (.inr o)), (2, .inl y1), (3, .inl y2), (4, .inl x16), (5, .inl x28)]) (dat dk_X2_encodedWords 36 rfl) (by decide) rfl (to_aload_np (dat dk_X2_encodedWords 37 rfl) (Ih21.1.2.2.2 _ _ (Ih21.bty ha)).1 rfl (to_iload (dat dk_X2_encodedWords 38 rfl) rfl ?_))
          refine to_cI ca_c3_45 (dat dk_X2_encodedWords 39 rfl) (ct_X2_encodedStop l h21 Ih21 a ha x28 rx28) rfl trivial rfl (fun x31 h32 rx31 p33 => ?_)
          subst p33
          refine to_iconst (dat dk_X2_encodedWords 40 rfl) ?_
          refine to_ine 83 (dat dk_X2_encodedWords 41 rfl) rfl rx31 (by decide) (fun c34 => ?_) (fun c34 => ?_)
          · skip
            refine to_iload (dat dk_X2_encodedWords 44 rfl) rfl (to_istore_n (L' := [(0, .inr (.inr a)), (1, .inr (.inr o)), (2, .inl x28), (3, .inl y2), (4, .inl x16), (5, .inl x28)]) (dat dk_X2_encodedWords 45 rfl) (by decide) rfl (to_iinc (L' := [(0, .inr (.inr a)), (1, .inr (.inr o)), (2, .inl x28), (3, .inl (y2 + 1)), (4, .inl x16), (5, .inl x28)]) (dat dk_X2_encodedWords 46 rfl) rfl (by decide) rfl (to_goto (dat dk_X2_encodedWords 47 rfl) rfl ?_)))
            refine to_pick [0, 1, 2, 3] rfl ?_
            exact ihn5 (n5 - 1) (by omega) x28 (y2 + 1) h21 rx28 (by omega) Ih21 f23 (show 0 ≤ (y2 + 1) by omega) (show 1300 - (y2 + 1) ≤ ((n5 - 1 : Nat) : Int) by omega)
          · skip
            refine to_iload (dat dk_X2_encodedWords 42 rfl) rfl (to_goto (dat dk_X2_encodedWords 43 rfl) rfl (to_istore_n (L' := [(0, .inr (.inr a)), (1, .inr (.inr o)), (2, .inl x16), (3, .inl y2), (4, .inl x16), (5, .inl x28)]) (dat dk_X2_encodedWords 45 rfl) (by decide) rfl (to_iinc (L' := [(0, .inr (.inr a)), (1, .inr (.inr o)), (2, .inl x16), (3, .inl (y2 + 1)), (4, .inl x16), (5, .inl x28)]) (dat dk_X2_encodedWords 46 rfl) rfl (by decide) rfl (to_goto (dat dk_X2_encodedWords 47 rfl) rfl ?_))))
            refine to_pick [0, 1, 2, 3] rfl ?_
            exact ihn5 (n5 - 1) (by omega) x16 (y2 + 1) h21 rx16 (by omega) Ih21 f23 (show 0 ≤ (y2 + 1) by omega) (show 1300 - (y2 + 1) ≤ ((n5 - 1 : Nat) : Int) by omega)
        · skip
          refine to_aload_np (dat dk_X2_encodedWords 19 rfl) (Ih3.1.2.2.2 _ _ (Ih3.bty ho)).1 rfl (to_aload_np (dat dk_X2_encodedWords 20 rfl) (Ih3.1.2.2.2 _ _ (Ih3.bty ha)).1 rfl (to_iload_n (dat dk_X2_encodedWords 21 rfl) rfl ?_))
          refine to_cI ca_c3_9 (dat dk_X2_encodedWords 22 rfl) (ct_X1_byteAt l h3 Ih3 a ha y1 ry1) rfl ⟨_, _, rfl, (Ih3.bty ha)⟩ rfl (fun x35 h36 rx35 p37 => ?_)
          obtain ⟨rfl, p37_0⟩ := p37
          obtain ⟨x38, ex38⟩ : ∃ y : Int, h3.2.2 o 1 = y := ⟨_, rfl⟩
          have rx38 := Ih3.blen ho
          rw [ex38] at rx38
          refine to_cV ca_c3_20 (dat dk_X2_encodedWords 23 rfl) (ct_X1_put l h3 Ih3 o ho x35 rx35) rfl ⟨_, _, rfl, (Ih3.bty ho)⟩ rfl (fun h40 p41 => ?_)
          obtain ⟨Ih40, fh40, p41_0⟩ := p41
          have f42 : Fr [o] h h40 := Fr.sub fh3 fh40 (sub_self _)
          refine to_iinc (L' := [(0, .inr (.inr a)), (1, .inr (.inr o)), (2, .inl (y1 + 1)), (3, .inl y2), (4, .inl x16)]) (dat dk_X2_encodedWords 24 rfl) rfl (by decide) rfl (to_goto (dat dk_X2_encodedWords 25 rfl) rfl (to_iinc (L' := [(0, .inr (.inr a)), (1, .inr (.inr o)), (2, .inl (y1 + 1)), (3, .inl (y2 + 1)), (4, .inl x16)]) (dat dk_X2_encodedWords 46 rfl) rfl (by decide) rfl (to_goto (dat dk_X2_encodedWords 47 rfl) rfl ?_)))
          refine to_pick [0, 1, 2, 3] rfl ?_
          exact ihn5 (n5 - 1) (by omega) (y1 + 1) (y2 + 1) h40 (by omega) (by omega) Ih40 f42 (show 0 ≤ (y2 + 1) by omega) (show 1300 - (y2 + 1) ≤ ((n5 - 1 : Nat) : Int) by omega)
  exact lp4_n5 (1300 - (0 : Int)).toNat 0 0 h (by decide) (by decide) hI (Fr.rf _ _) (show 0 ≤ (0 : Int) by omega) (by omega)
