/-! Contracts, by program. -/
abbrev Q_X0_enter_v20x (h : Hp) (g : Int) : Option V → Hp → Nat → Nat → Prop := RIa (fun x H mc ms => Inv H ∧ Fr [999, 20, 21, 22, 23, 25, 358, 318, 378] h H ∧ (EN h H 20 80 mc ms (g)) ∧ (BI H ∧ BX h H ∧ 0 ≤ x ∧ x < bE H ∧ EqB H x (h.2.2 7) g))
set_option maxRecDepth 100000 in
set_option maxHeartbeats 4000000 in
theorem ct_X0_enter_v20x (l : Launch) (h : Hp) (hI : Inv h) (g : Int) (hg : I32 g) (g0 : 0 < g ∧ g ≤ 60) (g1 : BkW h 20 80) (g2 : WB h 20 ≤ 10000000) (g3 : h.2.2 20 5 ≤ 4000000) (g4 : h.1 + 4 ≤ 900000) (g5 : g ≤ h.2.2 6 1) (g6 : BI h) : Ct l D_X0_enter 3 126 [.inr (.inr 20), .inr (.inr 6), .inl 0, .inl g] h (Q_X0_enter_v20x h g) := by
  refine ct_of pn_X0_enter (Nat.le_of_ble_eq_true rfl) ?_
  show To l E_X0_enter (0, [(0, .inr (.inr 20)), (1, .inr (.inr 6)), (2, .inl 0), (3, .inl g)], [], h, 0, 0) _
  obtain ⟨x1, ex1⟩ : ∃ y : Int, h.2.2 20 5 = y := ⟨_, rfl⟩
  have rx1 := hI.atR (a := 20) (j := 5) rfl
  rw [ex1] at rx1
  obtain ⟨x2, ex2⟩ : ∃ y : Int, h.2.2 6 1 = y := ⟨_, rfl⟩
  have rx2 := hI.atR (a := 6) (j := 1) rfl
  rw [ex2] at rx2
  have zW : WB h 20 ≤ len h (h.2.2 20 4).toNat := g6.2.1
  refine to_aload_n (dat dk_X0_enter 0 rfl) rfl (to_aload_n (dat dk_X0_enter 1 rfl) rfl (to_iload_n (dat dk_X0_enter 2 rfl) rfl (to_iload_n (dat dk_X0_enter 3 rfl) rfl ?_)))
  refine to_cI ca_c1_44 (dat dk_X0_enter 4 rfl) (ct_X0_find_v20x l h hI g hg g1 g6 (show 0 ≤ g ∧ g ≤ h.2.2 6 1 by omega)) rfl ⟨_, _, rfl, (hI.atS rfl)⟩ rfl (fun x3 h4 rx3 p5 => ?_)
  obtain ⟨rfl, p5_0⟩ := p5
  refine to_istore (L' := [(0, .inr (.inr 20)), (1, .inr (.inr 6)), (2, .inl 0), (3, .inl g), (4, .inl x3)]) (dat dk_X0_enter 5 rfl) (by decide) rfl (to_iload (dat dk_X0_enter 6 rfl) rfl (to_iconst (dat dk_X0_enter 7 rfl) ?_))
  refine to_ieq 18 (dat dk_X0_enter 8 rfl) rfl rx3 (by decide) (fun c6 => ?_) (fun c6 => ?_)
  · skip
    refine to_aload_n (dat dk_X0_enter 11 rfl) rfl (to_iload_n (dat dk_X0_enter 12 rfl) rfl (to_iload_n (dat dk_X0_enter 13 rfl) rfl ?_))
    refine to_cVa ca_c1_47 (dat dk_X0_enter 14 rfl) (ct_X0_makeRoom_vx l h hI 20 80 rfl 0 (by decide) g hg (show 0 ≤ (0 : Int) ∧ (0 : Int) ≤ g ∧ g - (0 : Int) ≤ 60 ∧ g ≤ 1300 by omega) g1 (show WB h 20 ≤ 10000000 by omega) (show h.2.2 20 5 ≤ 4000000 by omega) (show h.1 + 4 ≤ 900000 by omega) (show (0 : Int) < g by omega) (show WB h 20 ≤ len h (h.2.2 20 4).toNat by omega)) rfl ⟨_, _, rfl, (hI.atS rfl)⟩ rfl (fun h8 mcx7 msx7 p9 => ?_)
    obtain ⟨Ih8, fh8, p9_0, p9_1⟩ := p9
    have f10 : Fr [999, 20, 21, 22, 23, 25, 358, 318, 378] h h8 := Fr.sub (Fr.rf _ _) fh8 rfl
    obtain ⟨⟨mr0, mrC, mrR⟩, mrL⟩ := id p9_0
    obtain ⟨kb1, mrW, mrE, mrP, mrZ⟩ := id mr0
    obtain ⟨nx1, st1, rd1, rw1, nn1, ns1, nr1, nw1, r1, kn1⟩ := id kb1
    have v1 := r1.vals
    obtain ⟨⟨a1, a2, a3, a4⟩, ⟨u1, u2, u3, u4⟩, w1, w2, w3, w4⟩ := id r1
    obtain ⟨k1, k2, k3, k4, k5, k6, k7⟩ := id kn1
    have lu1 := Ih8.lenM u1
    have lu2 := Ih8.lenM u2
    have lu3 := Ih8.lenM u3
    have lu4 := Ih8.lenM u4
    obtain ⟨x11, ex11⟩ : ∃ y : Int, h8.2.2 20 5 = y := ⟨_, rfl⟩
    have rx11 := Ih8.atR (a := 20) (j := 5) rfl
    rw [ex11] at rx11
    rw [ex11] at k4 k5 k6 k7 v1
    obtain ⟨S0, eS0⟩ : ∃ y : Int, h8.2.2 st1 (Int.toNat x11) = y := ⟨_, rfl⟩
    have v1W := v1.2
    rw [eS0] at k5 k6 v1W
    have dd : 0 ≤ g := by omega
    rw [a4, Int.toNat_natCast, len_of u4] at mrR
    rw [ex11, a1, Int.toNat_natCast, len_of u1] at mrL
    obtain ⟨zb1, zx1⟩ := BI.room g1 g6 mrC mrE (fh8.arr hI (by decide) (fun _ => rfl)) (by omega)
    have zE : bE h8 = x11 := ex11
    have zE0 : bE h = x11 := by have z : h.2.2 20 5 = bE h := rfl; omega
    have zS : st_ h8 (bE h8) = S0 := by rw [zE]; unfold st_; rw [a2, Int.toNat_natCast]; exact eS0
    have zS0 := zb1.ge0 (i := bE h8) (by omega) (Int.le_refl _)
    rw [zS] at zS0
    have zno : ∀ k : Int, 0 ≤ k → k < bE h8 → ¬ EqB h8 k (h.2.2 7) g := fun k k0 k1 e => ((p5_0).resolve_right (fun q => absurd q.1 (by omega))).2 k k0 (by omega) ((zx1.eq ⟨k0, by omega⟩).mp e)
    have z7 : h8.2.2 7 = h.2.2 7 := fh8.arr hI (by decide) (fun _ => rfl)
    have n21 : (21 : Nat) ≠ rw1 := fun e => by have q := Ih8.atS (a := 21) rfl; rw [e] at q; cases q.symm.trans u4
    have n71 : (7 : Nat) ≠ rw1 := fun e => by have q := Ih8.atS (a := 7) rfl; rw [e] at q; cases q.symm.trans u4
    refine to_aload_n (dat dk_X0_enter 15 rfl) rfl (to_iload_n (dat dk_X0_enter 16 rfl) rfl (to_iload_n (dat dk_X0_enter 17 rfl) rfl ?_))
    have e12 : h8.2.2 6 1 = x2 := ((Fr.get fh8 (by have := hI.1.1; omega) rfl).trans ex2)
    refine to_cI ca_c1_36 (dat dk_X0_enter 18 rfl) (ct_X0_slotOf_v6x l h8 Ih8 g hg (show 0 ≤ g ∧ g ≤ h8.2.2 6 1 by omega)) rfl trivial rfl (fun x13 h14 rx13 p15 => ?_)
    obtain ⟨rfl, p15_0, p15_1⟩ := p15
    refine to_istore (L' := [(0, .inr (.inr 20)), (1, .inr (.inr 6)), (2, .inl 0), (3, .inl g), (4, .inl x3), (5, .inl x13)]) (dat dk_X0_enter 19 rfl) (by decide) rfl ?_
    have zsl := p15_0
    rw [z7] at zsl
    refine to_iload (dat dk_X0_enter 20 rfl) rfl ?_
    refine to_iflt 73 (dat dk_X0_enter 21 rfl) rfl rx13 (fun c16 => ?_) (fun c16 => ?_)
    · skip
      refine to_iconst (dat dk_X0_enter 41 rfl) ?_
      exact to_iret rfl (dat dk_X0_enter 42 rfl) (ri_mka (by decide) ⟨Ih8, f10, (EN.mr mr0 p9_1 (by omega)), (by exfalso; omega)⟩)
    · skip
      refine to_iload (dat dk_X0_enter 22 rfl) rfl (to_aload_n (dat dk_X0_enter 23 rfl) rfl (to_getR 21 g_c1_11 (dat dk_X0_enter 24 rfl) (Ih8.atS rfl) (Ih8.atE rfl) (to_alen (dat dk_X0_enter 25 rfl) (Ih8.atS rfl) (by decide) ?_)))
      refine to_ige 73 (dat dk_X0_enter 26 rfl) rfl rx13 (by decide) (fun c17 => ?_) (fun c17 => ?_)
      · skip
        refine to_iconst (dat dk_X0_enter 41 rfl) ?_
        exact to_iret rfl (dat dk_X0_enter 42 rfl) (ri_mka (by decide) ⟨Ih8, f10, (EN.mr mr0 p9_1 (by omega)), (by exfalso; omega)⟩)
      · skip
        refine to_aload_n (dat dk_X0_enter 27 rfl) rfl (to_getIv (y := x11) ex11 g_c1_28 (dat dk_X0_enter 28 rfl) (Ih8.atS rfl) (to_iconst (dat dk_X0_enter 29 rfl) (to_iadd (dat dk_X0_enter 30 rfl) (to_aload_n (dat dk_X0_enter 31 rfl) rfl (to_getR st1 g_c1_18 (dat dk_X0_enter 32 rfl) (Ih8.atS rfl) a2 (to_alen (dat dk_X0_enter 33 rfl) u2 (by decide) ?_))))))
        refine to_ige 73 (dat dk_X0_enter 34 rfl) rfl (by omega) (by omega) (fun c18 => ?_) (fun c18 => ?_)
        · skip
          refine to_iconst (dat dk_X0_enter 41 rfl) ?_
          exact to_iret rfl (dat dk_X0_enter 42 rfl) (ri_mka (by decide) ⟨Ih8, f10, (EN.mr mr0 p9_1 (by omega)), (by exfalso; omega)⟩)
        · skip
          refine to_aload_n (dat dk_X0_enter 35 rfl) rfl (to_getIv (y := x11) ex11 g_c1_28 (dat dk_X0_enter 36 rfl) (Ih8.atS rfl) (to_aload_n (dat dk_X0_enter 37 rfl) rfl (to_getR nx1 g_c1_15 (dat dk_X0_enter 38 rfl) (Ih8.atS rfl) a1 (to_alen (dat dk_X0_enter 39 rfl) u1 (by decide) ?_))))
          refine to_ilt 75 (dat dk_X0_enter 40 rfl) rfl (by omega) (by omega) (fun c19 => ?_) (fun c19 => ?_)
          · skip
            refine to_aload_n (dat dk_X0_enter 43 rfl) rfl (to_getR st1 g_c1_18 (dat dk_X0_enter 44 rfl) (Ih8.atS rfl) a2 (to_aload_n (dat dk_X0_enter 45 rfl) rfl (to_getIv (y := x11) ex11 g_c1_28 (dat dk_X0_enter 46 rfl) (Ih8.atS rfl) ?_)))
            obtain ⟨x20, ex20⟩ : ∃ y : Int, h8.2.2 st1 (Int.toNat x11) = y := ⟨_, rfl⟩
            have rx20 := Ih8.con0 u2 rfl (Int.toNat x11)
            rw [ex20] at rx20
            refine to_ialdv ex20 (dat dk_X0_enter 47 rfl) u2 rfl (Ih8.lenN u2) (by omega) (to_istore (L' := [(0, .inr (.inr 20)), (1, .inr (.inr 6)), (2, .inl 0), (3, .inl g), (4, .inl x3), (5, .inl x13), (6, .inl x20)]) (dat dk_X0_enter 48 rfl) (by decide) rfl (to_iload_n (dat dk_X0_enter 49 rfl) rfl (to_istore (L' := [(0, .inr (.inr 20)), (1, .inr (.inr 6)), (2, .inl 0), (3, .inl g), (4, .inl x3), (5, .inl x13), (6, .inl x20), (7, .inl 0)]) (dat dk_X0_enter 50 rfl) (by decide) rfl ?_)))
            have lp89_n32 : ∀ (n32 : Nat) (y21 : Int) (y22 : Int) (h23 : Hp), (I32 y21) → (I32 y22) → (Inv h23) → (Fr [999, 20, 21, 22, 23, 25, 358, 318, 378] h h23) → (BkR h23 20 80 nx1 st1 rd1 rw1 nn1 ns1 nr1 nw1) → (h23.2.2 20 5 = x11) → (h23.1 = h8.1) → (y21 = S0 + y22) → (0 ≤ y22 ∧ y22 ≤ g) → (∀ a i : Nat, a ≠ rw1 → h23.2.2 a i = h8.2.2 a i) → (∀ i : Int, 0 ≤ i → i < S0 → h23.2.2 rw1 i.toNat = h8.2.2 rw1 i.toNat) → (∀ i : Nat, (i : Int) < y22 → h23.2.2 rw1 (Int.toNat (S0 + i)) = h.2.2 7 i) → (g - y22 ≤ (n32 : Int)) → To l E_X0_enter (89, [(0, .inr (.inr 20)), (1, .inr (.inr 6)), (2, .inl 0), (3, .inl g), (4, .inl x3), (5, .inl x13), (6, .inl y21), (7, .inl y22)], [], h23, (0 + mcx7), (0 + msx7)) (Q_X0_enter_v20x h g) := by
              intro n32
              induction n32 using Nat.strongRecOn with
              | _ n32 ihn32 =>
              intro y21 y22 h23 ry21 ry22 Ih23 fh23 c24 c25 c26 c27 c28 c29 c30 c31 c33
              obtain ⟨x34, ex34⟩ : ∃ y : Int, h23.2.2 20 5 = y := ⟨_, rfl⟩
              have rx34 := Ih23.atR (a := 20) (j := 5) rfl
              rw [ex34] at rx34
              refine to_iload (dat dk_X0_enter 51 rfl) rfl ?_
              obtain ⟨⟨v35, v36, v37, v38⟩, ⟨v39, v40, v41, v42⟩, -⟩ := id c24
              refine to_iload_n (dat dk_X0_enter 52 rfl) rfl ?_
              refine to_ige 133 (dat dk_X0_enter 53 rfl) rfl ry22 hg (fun c43 => ?_) (fun c43 => ?_)
              · skip
                refine to_aload_n (dat dk_X0_enter 72 rfl) rfl (to_getR nx1 g_c1_15 (dat dk_X0_enter 73 rfl) (Ih23.atS rfl) v35 (to_aload_n (dat dk_X0_enter 74 rfl) rfl (to_getIv (y := x11) c25 g_c1_28 (dat dk_X0_enter 75 rfl) (Ih23.atS rfl) (to_aload_n (dat dk_X0_enter 76 rfl) rfl (to_getR 21 g_c1_11 (dat dk_X0_enter 77 rfl) (Ih23.atS rfl) (Ih23.atE rfl) (to_iload (dat dk_X0_enter 78 rfl) rfl ?_))))))
                obtain ⟨x44, ex44⟩ : ∃ y : Int, h23.2.2 21 (Int.toNat x13) = y := ⟨_, rfl⟩
                have rx44 := Ih23.atR (a := 21) (j := Int.toNat x13) rfl
                rw [ex44] at rx44
                refine to_ialdv ex44 (dat dk_X0_enter 79 rfl) (Ih23.atS rfl) rfl (by decide) (by omega) ?_
                have zhd := (zb1.2.2.1 x13 (by omega) (by omega)).1
                unfold hd_ at zhd
                rw [← c29 21 _ n21, ex44] at zhd
                refine to_iconst (dat dk_X0_enter 80 rfl) (to_isub (dat dk_X0_enter 81 rfl) (to_iastw (dat dk_X0_enter 82 rfl) v39 rfl (Ih23.lenN v39) (by omega) ?_))
                intro h47 wh47
                have I45 : Inv h47 := by rw [wh47]; exact Ih23.putA (j := (Int.toNat x11)) (x := (x44 - 1)) v39 (by decide +kernel) rfl (show I32 (x44 - 1) by omega)
                have f46 : Fr [999, 20, 21, 22, 23, 25, 358, 318, 378] h h47 := by rw [wh47]; exact Fr.putA (j := (Int.toNat x11)) (x := (x44 - 1)) fh23 Ih23 v39 (by decide +kernel)
                have d48 : h47.2.1 nx1 = some (.inl (480, nn1)) := by rw [wh47]; exact v39
                have d49 : h47.2.1 st1 = some (.inl (80, ns1)) := by rw [wh47]; exact v40
                have d50 : h47.2.1 rd1 = some (.inl (580, nr1)) := by rw [wh47]; exact v41
                have d51 : h47.2.1 rw1 = some (.inl (681, nw1)) := by rw [wh47]; exact v42
                refine to_aload_n (dat dk_X0_enter 83 rfl) rfl (to_getR 21 g_c1_11 (dat dk_X0_enter 84 rfl) (I45.atS rfl) (I45.atE rfl) (to_iload (dat dk_X0_enter 85 rfl) rfl (to_aload_n (dat dk_X0_enter 86 rfl) rfl (to_getIv (y := x11) (by rw [wh47]; exact (wr_ne (ne_ty (Ih23.atS rfl) v39 (by intro e; cases e))).trans c25) g_c1_28 (dat dk_X0_enter 87 rfl) (I45.atS rfl) (to_iconst (dat dk_X0_enter 88 rfl) (to_iadd (dat dk_X0_enter 89 rfl) (to_iastw (dat dk_X0_enter 90 rfl) (I45.atS rfl) rfl (by decide) (by omega) ?_)))))))
                intro h54 wh54
                have I52 : Inv h54 := by rw [wh54]; exact I45.put (a := 21) (j := (Int.toNat x13)) (x := (x11 + 1)) (-2147483648) (2147483647) rfl rfl (show (-2147483648 : Int) ≤ (x11 + 1) ∧ (x11 + 1) ≤ 2147483647 by omega)
                have f53 : Fr [999, 20, 21, 22, 23, 25, 358, 318, 378] h h54 := by rw [wh54]; exact Fr.putF (a := 21) (j := (Int.toNat x13)) (x := (x11 + 1)) f46 rfl
                have d55 : h54.2.1 nx1 = some (.inl (480, nn1)) := by rw [wh54]; exact d48
                have d56 : h54.2.1 st1 = some (.inl (80, ns1)) := by rw [wh54]; exact d49
                have d57 : h54.2.1 rd1 = some (.inl (580, nr1)) := by rw [wh54]; exact d50
                have d58 : h54.2.1 rw1 = some (.inl (681, nw1)) := by rw [wh54]; exact d51
                refine to_aload_n (dat dk_X0_enter 91 rfl) rfl (to_dup (dat dk_X0_enter 92 rfl) rfl (to_getIv (y := x11) (by rw [wh54]; exact (show h47.2.2 20 5 = x11 from (by rw [wh47]; exact (wr_ne (ne_ty (Ih23.atS rfl) v39 (by intro e; cases e))).trans c25))) g_c1_28 (dat dk_X0_enter 93 rfl) (I52.atS rfl) (to_iconst (dat dk_X0_enter 94 rfl) (to_iadd (dat dk_X0_enter 95 rfl) (to_putIw p_c1_28 (dat dk_X0_enter 96 rfl) (I52.atS rfl) ?_)))))
                intro h61 wh61
                have I59 : Inv h61 := by rw [wh61]; exact I52.put (a := 20) (j := 5) (x := (x11 + 1)) (0) (10000000) rfl rfl (show (0 : Int) ≤ (x11 + 1) ∧ (x11 + 1) ≤ 10000000 by omega)
                have f60 : Fr [999, 20, 21, 22, 23, 25, 358, 318, 378] h h61 := by rw [wh61]; exact Fr.putF (a := 20) (j := 5) (x := (x11 + 1)) f53 rfl
                have d62 : h61.2.1 nx1 = some (.inl (480, nn1)) := by rw [wh61]; exact d55
                have d63 : h61.2.1 st1 = some (.inl (80, ns1)) := by rw [wh61]; exact d56
                have d64 : h61.2.1 rd1 = some (.inl (580, nr1)) := by rw [wh61]; exact d57
                have d65 : h61.2.1 rw1 = some (.inl (681, nw1)) := by rw [wh61]; exact d58
                refine to_aload_n (dat dk_X0_enter 97 rfl) rfl (to_getR st1 g_c1_18 (dat dk_X0_enter 98 rfl) (I59.atS rfl) (by rw [wh61]; exact (show h54.2.2 20 2 = (st1 : Int) from (by rw [wh54]; exact (show h47.2.2 20 2 = (st1 : Int) from (by rw [wh47]; exact (wr_ne (ne_ty (Ih23.atS rfl) v39 (by intro e; cases e))).trans v36))))) (to_aload_n (dat dk_X0_enter 99 rfl) rfl (to_getIv (y := (x11 + 1)) (by rw [wh61]; exact wr_eq) g_c1_28 (dat dk_X0_enter 100 rfl) (I59.atS rfl) (to_iload (dat dk_X0_enter 101 rfl) rfl (to_iastw (dat dk_X0_enter 102 rfl) d63 rfl (I59.lenN d63) (by omega) ?_)))))
                intro h68 wh68
                have I66 : Inv h68 := by rw [wh68]; exact I59.putA (j := (Int.toNat (x11 + 1))) (x := y21) d63 (by decide +kernel) rfl ry21
                have f67 : Fr [999, 20, 21, 22, 23, 25, 358, 318, 378] h h68 := by rw [wh68]; exact Fr.putA (j := (Int.toNat (x11 + 1))) (x := y21) f60 I59 d63 (by decide +kernel)
                have d69 : h68.2.1 nx1 = some (.inl (480, nn1)) := by rw [wh68]; exact d62
                have d70 : h68.2.1 st1 = some (.inl (80, ns1)) := by rw [wh68]; exact d63
                have d71 : h68.2.1 rd1 = some (.inl (580, nr1)) := by rw [wh68]; exact d64
                have d72 : h68.2.1 rw1 = some (.inl (681, nw1)) := by rw [wh68]; exact d65
                have e73 : h68.2.2 20 1 = (nx1 : Int) := (by rw [wh68]; exact (wr_ne (ne_ty (I59.atS rfl) d63 (by intro e; cases e))).trans (show h61.2.2 20 1 = (nx1 : Int) from (by rw [wh61]; exact (show h54.2.2 20 1 = (nx1 : Int) from (by rw [wh54]; exact (show h47.2.2 20 1 = (nx1 : Int) from (by rw [wh47]; exact (wr_ne (ne_ty (Ih23.atS rfl) v39 (by intro e; cases e))).trans v35)))))))
                have e74 : h68.2.2 20 2 = (st1 : Int) := (by rw [wh68]; exact (wr_ne (ne_ty (I59.atS rfl) d63 (by intro e; cases e))).trans (show h61.2.2 20 2 = (st1 : Int) from (by rw [wh61]; exact (show h54.2.2 20 2 = (st1 : Int) from (by rw [wh54]; exact (show h47.2.2 20 2 = (st1 : Int) from (by rw [wh47]; exact (wr_ne (ne_ty (Ih23.atS rfl) v39 (by intro e; cases e))).trans v36)))))))
                have e75 : h68.2.2 20 3 = (rd1 : Int) := (by rw [wh68]; exact (wr_ne (ne_ty (I59.atS rfl) d63 (by intro e; cases e))).trans (show h61.2.2 20 3 = (rd1 : Int) from (by rw [wh61]; exact (show h54.2.2 20 3 = (rd1 : Int) from (by rw [wh54]; exact (show h47.2.2 20 3 = (rd1 : Int) from (by rw [wh47]; exact (wr_ne (ne_ty (Ih23.atS rfl) v39 (by intro e; cases e))).trans v37)))))))
                have e76 : h68.2.2 20 4 = (rw1 : Int) := (by rw [wh68]; exact (wr_ne (ne_ty (I59.atS rfl) d63 (by intro e; cases e))).trans (show h61.2.2 20 4 = (rw1 : Int) from (by rw [wh61]; exact (show h54.2.2 20 4 = (rw1 : Int) from (by rw [wh54]; exact (show h47.2.2 20 4 = (rw1 : Int) from (by rw [wh47]; exact (wr_ne (ne_ty (Ih23.atS rfl) v39 (by intro e; cases e))).trans v38)))))))
                have v77 : BkR h68 20 80 nx1 st1 rd1 rw1 nn1 ns1 nr1 nw1 := ⟨⟨e73, e74, e75, e76⟩, ⟨d69, d70, d71, d72⟩, w1, w2, w3, w4⟩
                have e78 : h68.2.2 20 5 = (x11 + 1) := (by rw [wh68]; exact (wr_ne (ne_ty (I59.atS rfl) d63 (by intro e; cases e))).trans (show h61.2.2 20 5 = (x11 + 1) from (by rw [wh61]; exact wr_eq)))
                have es : h68.2.2 st1 (Int.toNat (x11 + 1)) = y21 := by rw [wh68]; exact wr_eq
                have vv := v77.vals
                rw [e78] at vv
                rw [es] at vv
                have bw : BkW h68 20 80 := ⟨_, _, _, _, _, _, _, _, v77, k1, k2, k3, by rw [e78]; omega, by rw [e78, es]; omega, by rw [e78, es]; omega, by rw [e78]; omega⟩
                have e1Z : h68.1 = h8.1 := by rw [wh68, wh61, wh54, wh47]; exact c26
                have en := EN.fin (d := g) mr0 p9_1 bw (by omega) (by omega) (by omega) e1Z
                obtain ⟨zq1, zq2, zq3⟩ := BI.new (E0 := x11) (S0 := S0) Ih8 r1 v77 zb1 zno zE zS c29 c30 (fun i hi => c31 i (by omega)) zsl (by omega) ex44 wh47 wh54 wh61 wh68 (by omega) (by omega) (by omega) (by omega)
                have zHE : bE h68 = (x11 + 1) := e78
                refine to_aload_n (dat dk_X0_enter 103 rfl) rfl (to_getIv (y := (x11 + 1)) e78 g_c1_28 (dat dk_X0_enter 104 rfl) (I66.atS rfl) (to_iconst (dat dk_X0_enter 105 rfl) (to_isub (dat dk_X0_enter 106 rfl) ?_)))
                exact to_iret rfl (dat dk_X0_enter 107 rfl) (ri_mka (by omega) ⟨I66, f67, en, (⟨zq1, zx1.tr zq2, by omega, by omega, by rw [show (((x11 + 1) - 1) : Int) = x11 by omega]; exact zq3⟩)⟩)
              · skip
                refine to_iload (dat dk_X0_enter 54 rfl) rfl ?_
                refine to_iflt 133 (dat dk_X0_enter 55 rfl) rfl ry21 (fun c79 => ?_) (fun c79 => ?_)
                · skip
                  refine to_aload_n (dat dk_X0_enter 72 rfl) rfl (to_getR nx1 g_c1_15 (dat dk_X0_enter 73 rfl) (Ih23.atS rfl) v35 (to_aload_n (dat dk_X0_enter 74 rfl) rfl (to_getIv (y := x11) c25 g_c1_28 (dat dk_X0_enter 75 rfl) (Ih23.atS rfl) (to_aload_n (dat dk_X0_enter 76 rfl) rfl (to_getR 21 g_c1_11 (dat dk_X0_enter 77 rfl) (Ih23.atS rfl) (Ih23.atE rfl) (to_iload (dat dk_X0_enter 78 rfl) rfl ?_))))))
                  obtain ⟨x80, ex80⟩ : ∃ y : Int, h23.2.2 21 (Int.toNat x13) = y := ⟨_, rfl⟩
                  have rx80 := Ih23.atR (a := 21) (j := Int.toNat x13) rfl
                  rw [ex80] at rx80
                  refine to_ialdv ex80 (dat dk_X0_enter 79 rfl) (Ih23.atS rfl) rfl (by decide) (by omega) ?_
                  have zhd := (zb1.2.2.1 x13 (by omega) (by omega)).1
                  unfold hd_ at zhd
                  rw [← c29 21 _ n21, ex80] at zhd
                  refine to_iconst (dat dk_X0_enter 80 rfl) (to_isub (dat dk_X0_enter 81 rfl) (to_iastw (dat dk_X0_enter 82 rfl) v39 rfl (Ih23.lenN v39) (by omega) ?_))
                  intro h83 wh83
                  have I81 : Inv h83 := by rw [wh83]; exact Ih23.putA (j := (Int.toNat x11)) (x := (x80 - 1)) v39 (by decide +kernel) rfl (show I32 (x80 - 1) by omega)
                  have f82 : Fr [999, 20, 21, 22, 23, 25, 358, 318, 378] h h83 := by rw [wh83]; exact Fr.putA (j := (Int.toNat x11)) (x := (x80 - 1)) fh23 Ih23 v39 (by decide +kernel)
                  have d84 : h83.2.1 nx1 = some (.inl (480, nn1)) := by rw [wh83]; exact v39
                  have d85 : h83.2.1 st1 = some (.inl (80, ns1)) := by rw [wh83]; exact v40
                  have d86 : h83.2.1 rd1 = some (.inl (580, nr1)) := by rw [wh83]; exact v41
                  have d87 : h83.2.1 rw1 = some (.inl (681, nw1)) := by rw [wh83]; exact v42
                  refine to_aload_n (dat dk_X0_enter 83 rfl) rfl (to_getR 21 g_c1_11 (dat dk_X0_enter 84 rfl) (I81.atS rfl) (I81.atE rfl) (to_iload (dat dk_X0_enter 85 rfl) rfl (to_aload_n (dat dk_X0_enter 86 rfl) rfl (to_getIv (y := x11) (by rw [wh83]; exact (wr_ne (ne_ty (Ih23.atS rfl) v39 (by intro e; cases e))).trans c25) g_c1_28 (dat dk_X0_enter 87 rfl) (I81.atS rfl) (to_iconst (dat dk_X0_enter 88 rfl) (to_iadd (dat dk_X0_enter 89 rfl) (to_iastw (dat dk_X0_enter 90 rfl) (I81.atS rfl) rfl (by decide) (by omega) ?_)))))))
                  intro h90 wh90
                  have I88 : Inv h90 := by rw [wh90]; exact I81.put (a := 21) (j := (Int.toNat x13)) (x := (x11 + 1)) (-2147483648) (2147483647) rfl rfl (show (-2147483648 : Int) ≤ (x11 + 1) ∧ (x11 + 1) ≤ 2147483647 by omega)
                  have f89 : Fr [999, 20, 21, 22, 23, 25, 358, 318, 378] h h90 := by rw [wh90]; exact Fr.putF (a := 21) (j := (Int.toNat x13)) (x := (x11 + 1)) f82 rfl
                  have d91 : h90.2.1 nx1 = some (.inl (480, nn1)) := by rw [wh90]; exact d84
                  have d92 : h90.2.1 st1 = some (.inl (80, ns1)) := by rw [wh90]; exact d85
                  have d93 : h90.2.1 rd1 = some (.inl (580, nr1)) := by rw [wh90]; exact d86
                  have d94 : h90.2.1 rw1 = some (.inl (681, nw1)) := by rw [wh90]; exact d87
                  refine to_aload_n (dat dk_X0_enter 91 rfl) rfl (to_dup (dat dk_X0_enter 92 rfl) rfl (to_getIv (y := x11) (by rw [wh90]; exact (show h83.2.2 20 5 = x11 from (by rw [wh83]; exact (wr_ne (ne_ty (Ih23.atS rfl) v39 (by intro e; cases e))).trans c25))) g_c1_28 (dat dk_X0_enter 93 rfl) (I88.atS rfl) (to_iconst (dat dk_X0_enter 94 rfl) (to_iadd (dat dk_X0_enter 95 rfl) (to_putIw p_c1_28 (dat dk_X0_enter 96 rfl) (I88.atS rfl) ?_)))))
                  intro h97 wh97
                  have I95 : Inv h97 := by rw [wh97]; exact I88.put (a := 20) (j := 5) (x := (x11 + 1)) (0) (10000000) rfl rfl (show (0 : Int) ≤ (x11 + 1) ∧ (x11 + 1) ≤ 10000000 by omega)
                  have f96 : Fr [999, 20, 21, 22, 23, 25, 358, 318, 378] h h97 := by rw [wh97]; exact Fr.putF (a := 20) (j := 5) (x := (x11 + 1)) f89 rfl
                  have d98 : h97.2.1 nx1 = some (.inl (480, nn1)) := by rw [wh97]; exact d91
                  have d99 : h97.2.1 st1 = some (.inl (80, ns1)) := by rw [wh97]; exact d92
                  have d100 : h97.2.1 rd1 = some (.inl (580, nr1)) := by rw [wh97]; exact d93
                  have d101 : h97.2.1 rw1 = some (.inl (681, nw1)) := by rw [wh97]; exact d94
                  refine to_aload_n (dat dk_X0_enter 97 rfl) rfl (to_getR st1 g_c1_18 (dat dk_X0_enter 98 rfl) (I95.atS rfl) (by rw [wh97]; exact (show h90.2.2 20 2 = (st1 : Int) from (by rw [wh90]; exact (show h83.2.2 20 2 = (st1 : Int) from (by rw [wh83]; exact (wr_ne (ne_ty (Ih23.atS rfl) v39 (by intro e; cases e))).trans v36))))) (to_aload_n (dat dk_X0_enter 99 rfl) rfl (to_getIv (y := (x11 + 1)) (by rw [wh97]; exact wr_eq) g_c1_28 (dat dk_X0_enter 100 rfl) (I95.atS rfl) (to_iload (dat dk_X0_enter 101 rfl) rfl (to_iastw (dat dk_X0_enter 102 rfl) d99 rfl (I95.lenN d99) (by omega) ?_)))))
                  intro h104 wh104
                  have I102 : Inv h104 := by rw [wh104]; exact I95.putA (j := (Int.toNat (x11 + 1))) (x := y21) d99 (by decide +kernel) rfl ry21
                  have f103 : Fr [999, 20, 21, 22, 23, 25, 358, 318, 378] h h104 := by rw [wh104]; exact Fr.putA (j := (Int.toNat (x11 + 1))) (x := y21) f96 I95 d99 (by decide +kernel)
                  have d105 : h104.2.1 nx1 = some (.inl (480, nn1)) := by rw [wh104]; exact d98
                  have d106 : h104.2.1 st1 = some (.inl (80, ns1)) := by rw [wh104]; exact d99
                  have d107 : h104.2.1 rd1 = some (.inl (580, nr1)) := by rw [wh104]; exact d100
                  have d108 : h104.2.1 rw1 = some (.inl (681, nw1)) := by rw [wh104]; exact d101
                  have e109 : h104.2.2 20 1 = (nx1 : Int) := (by rw [wh104]; exact (wr_ne (ne_ty (I95.atS rfl) d99 (by intro e; cases e))).trans (show h97.2.2 20 1 = (nx1 : Int) from (by rw [wh97]; exact (show h90.2.2 20 1 = (nx1 : Int) from (by rw [wh90]; exact (show h83.2.2 20 1 = (nx1 : Int) from (by rw [wh83]; exact (wr_ne (ne_ty (Ih23.atS rfl) v39 (by intro e; cases e))).trans v35)))))))
                  have e110 : h104.2.2 20 2 = (st1 : Int) := (by rw [wh104]; exact (wr_ne (ne_ty (I95.atS rfl) d99 (by intro e; cases e))).trans (show h97.2.2 20 2 = (st1 : Int) from (by rw [wh97]; exact (show h90.2.2 20 2 = (st1 : Int) from (by rw [wh90]; exact (show h83.2.2 20 2 = (st1 : Int) from (by rw [wh83]; exact (wr_ne (ne_ty (Ih23.atS rfl) v39 (by intro e; cases e))).trans v36)))))))
                  have e111 : h104.2.2 20 3 = (rd1 : Int) := (by rw [wh104]; exact (wr_ne (ne_ty (I95.atS rfl) d99 (by intro e; cases e))).trans (show h97.2.2 20 3 = (rd1 : Int) from (by rw [wh97]; exact (show h90.2.2 20 3 = (rd1 : Int) from (by rw [wh90]; exact (show h83.2.2 20 3 = (rd1 : Int) from (by rw [wh83]; exact (wr_ne (ne_ty (Ih23.atS rfl) v39 (by intro e; cases e))).trans v37)))))))
                  have e112 : h104.2.2 20 4 = (rw1 : Int) := (by rw [wh104]; exact (wr_ne (ne_ty (I95.atS rfl) d99 (by intro e; cases e))).trans (show h97.2.2 20 4 = (rw1 : Int) from (by rw [wh97]; exact (show h90.2.2 20 4 = (rw1 : Int) from (by rw [wh90]; exact (show h83.2.2 20 4 = (rw1 : Int) from (by rw [wh83]; exact (wr_ne (ne_ty (Ih23.atS rfl) v39 (by intro e; cases e))).trans v38)))))))
                  have v113 : BkR h104 20 80 nx1 st1 rd1 rw1 nn1 ns1 nr1 nw1 := ⟨⟨e109, e110, e111, e112⟩, ⟨d105, d106, d107, d108⟩, w1, w2, w3, w4⟩
                  have e114 : h104.2.2 20 5 = (x11 + 1) := (by rw [wh104]; exact (wr_ne (ne_ty (I95.atS rfl) d99 (by intro e; cases e))).trans (show h97.2.2 20 5 = (x11 + 1) from (by rw [wh97]; exact wr_eq)))
                  have es : h104.2.2 st1 (Int.toNat (x11 + 1)) = y21 := by rw [wh104]; exact wr_eq
                  have vv := v113.vals
                  rw [e114] at vv
                  rw [es] at vv
                  have bw : BkW h104 20 80 := ⟨_, _, _, _, _, _, _, _, v113, k1, k2, k3, by rw [e114]; omega, by rw [e114, es]; omega, by rw [e114, es]; omega, by rw [e114]; omega⟩
                  have e1Z : h104.1 = h8.1 := by rw [wh104, wh97, wh90, wh83]; exact c26
                  have en := EN.fin (d := g) mr0 p9_1 bw (by omega) (by omega) (by omega) e1Z
                  obtain ⟨zq1, zq2, zq3⟩ := BI.new (E0 := x11) (S0 := S0) Ih8 r1 v113 zb1 zno zE zS c29 c30 (fun i hi => c31 i (by omega)) zsl (by omega) ex80 wh83 wh90 wh97 wh104 (by omega) (by omega) (by omega) (by omega)
                  have zHE : bE h104 = (x11 + 1) := e114
                  refine to_aload_n (dat dk_X0_enter 103 rfl) rfl (to_getIv (y := (x11 + 1)) e114 g_c1_28 (dat dk_X0_enter 104 rfl) (I102.atS rfl) (to_iconst (dat dk_X0_enter 105 rfl) (to_isub (dat dk_X0_enter 106 rfl) ?_)))
                  exact to_iret rfl (dat dk_X0_enter 107 rfl) (ri_mka (by omega) ⟨I102, f103, en, (⟨zq1, zx1.tr zq2, by omega, by omega, by rw [show (((x11 + 1) - 1) : Int) = x11 by omega]; exact zq3⟩)⟩)
                · skip
                  refine to_iload (dat dk_X0_enter 56 rfl) rfl (to_aload_n (dat dk_X0_enter 57 rfl) rfl (to_getR rw1 g_c1_24 (dat dk_X0_enter 58 rfl) (Ih23.atS rfl) v38 (to_alen (dat dk_X0_enter 59 rfl) v42 (by decide) ?_)))
                  refine to_ige 133 (dat dk_X0_enter 60 rfl) rfl ry21 (by omega) (fun c115 => ?_) (fun c115 => ?_)
                  · skip
                    refine to_aload_n (dat dk_X0_enter 72 rfl) rfl (to_getR nx1 g_c1_15 (dat dk_X0_enter 73 rfl) (Ih23.atS rfl) v35 (to_aload_n (dat dk_X0_enter 74 rfl) rfl (to_getIv (y := x11) c25 g_c1_28 (dat dk_X0_enter 75 rfl) (Ih23.atS rfl) (to_aload_n (dat dk_X0_enter 76 rfl) rfl (to_getR 21 g_c1_11 (dat dk_X0_enter 77 rfl) (Ih23.atS rfl) (Ih23.atE rfl) (to_iload (dat dk_X0_enter 78 rfl) rfl ?_))))))
                    obtain ⟨x116, ex116⟩ : ∃ y : Int, h23.2.2 21 (Int.toNat x13) = y := ⟨_, rfl⟩
                    have rx116 := Ih23.atR (a := 21) (j := Int.toNat x13) rfl
                    rw [ex116] at rx116
                    refine to_ialdv ex116 (dat dk_X0_enter 79 rfl) (Ih23.atS rfl) rfl (by decide) (by omega) ?_
                    have zhd := (zb1.2.2.1 x13 (by omega) (by omega)).1
                    unfold hd_ at zhd
                    rw [← c29 21 _ n21, ex116] at zhd
                    refine to_iconst (dat dk_X0_enter 80 rfl) (to_isub (dat dk_X0_enter 81 rfl) (to_iastw (dat dk_X0_enter 82 rfl) v39 rfl (Ih23.lenN v39) (by omega) ?_))
                    intro h119 wh119
                    have I117 : Inv h119 := by rw [wh119]; exact Ih23.putA (j := (Int.toNat x11)) (x := (x116 - 1)) v39 (by decide +kernel) rfl (show I32 (x116 - 1) by omega)
                    have f118 : Fr [999, 20, 21, 22, 23, 25, 358, 318, 378] h h119 := by rw [wh119]; exact Fr.putA (j := (Int.toNat x11)) (x := (x116 - 1)) fh23 Ih23 v39 (by decide +kernel)
                    have d120 : h119.2.1 nx1 = some (.inl (480, nn1)) := by rw [wh119]; exact v39
                    have d121 : h119.2.1 st1 = some (.inl (80, ns1)) := by rw [wh119]; exact v40
                    have d122 : h119.2.1 rd1 = some (.inl (580, nr1)) := by rw [wh119]; exact v41
                    have d123 : h119.2.1 rw1 = some (.inl (681, nw1)) := by rw [wh119]; exact v42
                    refine to_aload_n (dat dk_X0_enter 83 rfl) rfl (to_getR 21 g_c1_11 (dat dk_X0_enter 84 rfl) (I117.atS rfl) (I117.atE rfl) (to_iload (dat dk_X0_enter 85 rfl) rfl (to_aload_n (dat dk_X0_enter 86 rfl) rfl (to_getIv (y := x11) (by rw [wh119]; exact (wr_ne (ne_ty (Ih23.atS rfl) v39 (by intro e; cases e))).trans c25) g_c1_28 (dat dk_X0_enter 87 rfl) (I117.atS rfl) (to_iconst (dat dk_X0_enter 88 rfl) (to_iadd (dat dk_X0_enter 89 rfl) (to_iastw (dat dk_X0_enter 90 rfl) (I117.atS rfl) rfl (by decide) (by omega) ?_)))))))
                    intro h126 wh126
                    have I124 : Inv h126 := by rw [wh126]; exact I117.put (a := 21) (j := (Int.toNat x13)) (x := (x11 + 1)) (-2147483648) (2147483647) rfl rfl (show (-2147483648 : Int) ≤ (x11 + 1) ∧ (x11 + 1) ≤ 2147483647 by omega)
                    have f125 : Fr [999, 20, 21, 22, 23, 25, 358, 318, 378] h h126 := by rw [wh126]; exact Fr.putF (a := 21) (j := (Int.toNat x13)) (x := (x11 + 1)) f118 rfl
                    have d127 : h126.2.1 nx1 = some (.inl (480, nn1)) := by rw [wh126]; exact d120
                    have d128 : h126.2.1 st1 = some (.inl (80, ns1)) := by rw [wh126]; exact d121
                    have d129 : h126.2.1 rd1 = some (.inl (580, nr1)) := by rw [wh126]; exact d122
                    have d130 : h126.2.1 rw1 = some (.inl (681, nw1)) := by rw [wh126]; exact d123
                    refine to_aload_n (dat dk_X0_enter 91 rfl) rfl (to_dup (dat dk_X0_enter 92 rfl) rfl (to_getIv (y := x11) (by rw [wh126]; exact (show h119.2.2 20 5 = x11 from (by rw [wh119]; exact (wr_ne (ne_ty (Ih23.atS rfl) v39 (by intro e; cases e))).trans c25))) g_c1_28 (dat dk_X0_enter 93 rfl) (I124.atS rfl) (to_iconst (dat dk_X0_enter 94 rfl) (to_iadd (dat dk_X0_enter 95 rfl) (to_putIw p_c1_28 (dat dk_X0_enter 96 rfl) (I124.atS rfl) ?_)))))
                    intro h133 wh133
                    have I131 : Inv h133 := by rw [wh133]; exact I124.put (a := 20) (j := 5) (x := (x11 + 1)) (0) (10000000) rfl rfl (show (0 : Int) ≤ (x11 + 1) ∧ (x11 + 1) ≤ 10000000 by omega)
                    have f132 : Fr [999, 20, 21, 22, 23, 25, 358, 318, 378] h h133 := by rw [wh133]; exact Fr.putF (a := 20) (j := 5) (x := (x11 + 1)) f125 rfl
                    have d134 : h133.2.1 nx1 = some (.inl (480, nn1)) := by rw [wh133]; exact d127
                    have d135 : h133.2.1 st1 = some (.inl (80, ns1)) := by rw [wh133]; exact d128
                    have d136 : h133.2.1 rd1 = some (.inl (580, nr1)) := by rw [wh133]; exact d129
                    have d137 : h133.2.1 rw1 = some (.inl (681, nw1)) := by rw [wh133]; exact d130
                    refine to_aload_n (dat dk_X0_enter 97 rfl) rfl (to_getR st1 g_c1_18 (dat dk_X0_enter 98 rfl) (I131.atS rfl) (by rw [wh133]; exact (show h126.2.2 20 2 = (st1 : Int) from (by rw [wh126]; exact (show h119.2.2 20 2 = (st1 : Int) from (by rw [wh119]; exact (wr_ne (ne_ty (Ih23.atS rfl) v39 (by intro e; cases e))).trans v36))))) (to_aload_n (dat dk_X0_enter 99 rfl) rfl (to_getIv (y := (x11 + 1)) (by rw [wh133]; exact wr_eq) g_c1_28 (dat dk_X0_enter 100 rfl) (I131.atS rfl) (to_iload (dat dk_X0_enter 101 rfl) rfl (to_iastw (dat dk_X0_enter 102 rfl) d135 rfl (I131.lenN d135) (by omega) ?_)))))
                    intro h140 wh140
                    have I138 : Inv h140 := by rw [wh140]; exact I131.putA (j := (Int.toNat (x11 + 1))) (x := y21) d135 (by decide +kernel) rfl ry21
                    have f139 : Fr [999, 20, 21, 22, 23, 25, 358, 318, 378] h h140 := by rw [wh140]; exact Fr.putA (j := (Int.toNat (x11 + 1))) (x := y21) f132 I131 d135 (by decide +kernel)
                    have d141 : h140.2.1 nx1 = some (.inl (480, nn1)) := by rw [wh140]; exact d134
                    have d142 : h140.2.1 st1 = some (.inl (80, ns1)) := by rw [wh140]; exact d135
                    have d143 : h140.2.1 rd1 = some (.inl (580, nr1)) := by rw [wh140]; exact d136
                    have d144 : h140.2.1 rw1 = some (.inl (681, nw1)) := by rw [wh140]; exact d137
                    have e145 : h140.2.2 20 1 = (nx1 : Int) := (by rw [wh140]; exact (wr_ne (ne_ty (I131.atS rfl) d135 (by intro e; cases e))).trans (show h133.2.2 20 1 = (nx1 : Int) from (by rw [wh133]; exact (show h126.2.2 20 1 = (nx1 : Int) from (by rw [wh126]; exact (show h119.2.2 20 1 = (nx1 : Int) from (by rw [wh119]; exact (wr_ne (ne_ty (Ih23.atS rfl) v39 (by intro e; cases e))).trans v35)))))))
                    have e146 : h140.2.2 20 2 = (st1 : Int) := (by rw [wh140]; exact (wr_ne (ne_ty (I131.atS rfl) d135 (by intro e; cases e))).trans (show h133.2.2 20 2 = (st1 : Int) from (by rw [wh133]; exact (show h126.2.2 20 2 = (st1 : Int) from (by rw [wh126]; exact (show h119.2.2 20 2 = (st1 : Int) from (by rw [wh119]; exact (wr_ne (ne_ty (Ih23.atS rfl) v39 (by intro e; cases e))).trans v36)))))))
                    have e147 : h140.2.2 20 3 = (rd1 : Int) := (by rw [wh140]; exact (wr_ne (ne_ty (I131.atS rfl) d135 (by intro e; cases e))).trans (show h133.2.2 20 3 = (rd1 : Int) from (by rw [wh133]; exact (show h126.2.2 20 3 = (rd1 : Int) from (by rw [wh126]; exact (show h119.2.2 20 3 = (rd1 : Int) from (by rw [wh119]; exact (wr_ne (ne_ty (Ih23.atS rfl) v39 (by intro e; cases e))).trans v37)))))))
                    have e148 : h140.2.2 20 4 = (rw1 : Int) := (by rw [wh140]; exact (wr_ne (ne_ty (I131.atS rfl) d135 (by intro e; cases e))).trans (show h133.2.2 20 4 = (rw1 : Int) from (by rw [wh133]; exact (show h126.2.2 20 4 = (rw1 : Int) from (by rw [wh126]; exact (show h119.2.2 20 4 = (rw1 : Int) from (by rw [wh119]; exact (wr_ne (ne_ty (Ih23.atS rfl) v39 (by intro e; cases e))).trans v38)))))))
                    have v149 : BkR h140 20 80 nx1 st1 rd1 rw1 nn1 ns1 nr1 nw1 := ⟨⟨e145, e146, e147, e148⟩, ⟨d141, d142, d143, d144⟩, w1, w2, w3, w4⟩
                    have e150 : h140.2.2 20 5 = (x11 + 1) := (by rw [wh140]; exact (wr_ne (ne_ty (I131.atS rfl) d135 (by intro e; cases e))).trans (show h133.2.2 20 5 = (x11 + 1) from (by rw [wh133]; exact wr_eq)))
                    have es : h140.2.2 st1 (Int.toNat (x11 + 1)) = y21 := by rw [wh140]; exact wr_eq
                    have vv := v149.vals
                    rw [e150] at vv
                    rw [es] at vv
                    have bw : BkW h140 20 80 := ⟨_, _, _, _, _, _, _, _, v149, k1, k2, k3, by rw [e150]; omega, by rw [e150, es]; omega, by rw [e150, es]; omega, by rw [e150]; omega⟩
                    have e1Z : h140.1 = h8.1 := by rw [wh140, wh133, wh126, wh119]; exact c26
                    have en := EN.fin (d := g) mr0 p9_1 bw (by omega) (by omega) (by omega) e1Z
                    obtain ⟨zq1, zq2, zq3⟩ := BI.new (E0 := x11) (S0 := S0) Ih8 r1 v149 zb1 zno zE zS c29 c30 (fun i hi => c31 i (by omega)) zsl (by omega) ex116 wh119 wh126 wh133 wh140 (by omega) (by omega) (by omega) (by omega)
                    have zHE : bE h140 = (x11 + 1) := e150
                    refine to_aload_n (dat dk_X0_enter 103 rfl) rfl (to_getIv (y := (x11 + 1)) e150 g_c1_28 (dat dk_X0_enter 104 rfl) (I138.atS rfl) (to_iconst (dat dk_X0_enter 105 rfl) (to_isub (dat dk_X0_enter 106 rfl) ?_)))
                    exact to_iret rfl (dat dk_X0_enter 107 rfl) (ri_mka (by omega) ⟨I138, f139, en, (⟨zq1, zx1.tr zq2, by omega, by omega, by rw [show (((x11 + 1) - 1) : Int) = x11 by omega]; exact zq3⟩)⟩)
                  · skip
                    refine to_aload_n (dat dk_X0_enter 61 rfl) rfl (to_getR rw1 g_c1_24 (dat dk_X0_enter 62 rfl) (Ih23.atS rfl) v38 (to_iload (dat dk_X0_enter 63 rfl) rfl (to_aload_n (dat dk_X0_enter 64 rfl) rfl (to_iload (dat dk_X0_enter 65 rfl) rfl ?_))))
                    have e151 : h23.2.2 6 1 = x2 := ((Fr.get fh23 (by have := hI.1.1; omega) rfl).trans ex2)
                    refine to_cI ca_c1_51 (dat dk_X0_enter 66 rfl) (ct_X1_byteAt_v6y l h23 Ih23 y22 ry22) rfl ⟨_, _, rfl, (Ih23.atS rfl)⟩ rfl (fun x152 h153 rx152 p154 => ?_)
                    obtain ⟨rfl, p154_0⟩ := p154
                    refine to_i2b (dat dk_X0_enter 67 rfl) (to_bastw (dat dk_X0_enter 68 rfl) v42 rfl (Ih23.lenN v42) (by omega) ?_)
                    intro h157 wh157
                    have I155 : Inv h157 := by rw [wh157]; exact Ih23.putA (j := (Int.toNat y21)) (x := (b8 (b8 x152))) v42 (by decide +kernel) rfl (show -128 ≤ (b8 (b8 x152)) ∧ (b8 (b8 x152)) ≤ 127 by have := b8_in (b8 x152); omega)
                    have f156 : Fr [999, 20, 21, 22, 23, 25, 358, 318, 378] h h157 := by rw [wh157]; exact Fr.putA (j := (Int.toNat y21)) (x := (b8 (b8 x152))) fh23 Ih23 v42 (by decide +kernel)
                    have d158 : h157.2.1 nx1 = some (.inl (480, nn1)) := by rw [wh157]; exact v39
                    have d159 : h157.2.1 st1 = some (.inl (80, ns1)) := by rw [wh157]; exact v40
                    have d160 : h157.2.1 rd1 = some (.inl (580, nr1)) := by rw [wh157]; exact v41
                    have d161 : h157.2.1 rw1 = some (.inl (681, nw1)) := by rw [wh157]; exact v42
                    refine to_iinc (L' := [(0, .inr (.inr 20)), (1, .inr (.inr 6)), (2, .inl 0), (3, .inl g), (4, .inl x3), (5, .inl x13), (6, .inl (y21 + 1)), (7, .inl y22)]) (dat dk_X0_enter 69 rfl) rfl (by decide) rfl (to_iinc (L' := [(0, .inr (.inr 20)), (1, .inr (.inr 6)), (2, .inl 0), (3, .inl g), (4, .inl x3), (5, .inl x13), (6, .inl (y21 + 1)), (7, .inl (y22 + 1))]) (dat dk_X0_enter 70 rfl) rfl (by decide) rfl (to_goto (dat dk_X0_enter 71 rfl) rfl ?_))
                    have e162 : h157.2.2 20 1 = (nx1 : Int) := (by rw [wh157]; exact (wr_ne (ne_ty (Ih23.atS rfl) v42 (by intro e; cases e))).trans v35)
                    have e163 : h157.2.2 20 2 = (st1 : Int) := (by rw [wh157]; exact (wr_ne (ne_ty (Ih23.atS rfl) v42 (by intro e; cases e))).trans v36)
                    have e164 : h157.2.2 20 3 = (rd1 : Int) := (by rw [wh157]; exact (wr_ne (ne_ty (Ih23.atS rfl) v42 (by intro e; cases e))).trans v37)
                    have e165 : h157.2.2 20 4 = (rw1 : Int) := (by rw [wh157]; exact (wr_ne (ne_ty (Ih23.atS rfl) v42 (by intro e; cases e))).trans v38)
                    have e166 : h157.2.2 20 5 = x11 := (by rw [wh157]; exact (wr_ne (ne_ty (Ih23.atS rfl) v42 (by intro e; cases e))).trans c25)
                    exact ihn32 (n32 - 1) (by omega) (y21 + 1) (y22 + 1) h157 (by omega) (by omega) I155 f156 ⟨⟨e162, e163, e164, e165⟩, ⟨d158, d159, d160, d161⟩, w1, w2, w3, w4⟩ (show h157.2.2 20 5 = x11 by omega) (by rw [wh157]; exact c26) (show (y21 + 1) = S0 + (y22 + 1) by omega) (show 0 ≤ (y22 + 1) ∧ (y22 + 1) ≤ g by omega) (fun a i ha => by rw [wh157, wr_ne ha]; exact c29 a i ha) (fun i i0 i1 => by rw [wh157, wr_ne2 (by omega)]; exact c30 i i0 i1) (fun i hi => if ci : (i : Int) = y22 then (by rw [wh157, ci, show S0 + y22 = y21 by omega, wr_eq]; exact (b8_id (by have := b8_in x152; omega)).trans (b8_v (hI.atR (a := 7) (j := i) rfl) (w := h23.2.2 7 (Int.toNat y22)) (by omega) (by rw [c29 7 _ n71, z7, show Int.toNat y22 = i by omega]))) else (by rw [wh157, wr_ne2 (by omega)]; exact c31 i (by omega))) (show g - (y22 + 1) ≤ ((n32 - 1 : Nat) : Int) by omega)
            exact lp89_n32 (g - (0 : Int)).toNat x20 0 h8 rx20 (by decide) Ih8 f10 ⟨⟨a1, a2, a3, a4⟩, ⟨u1, u2, u3, u4⟩, w1, w2, w3, w4⟩ (show h8.2.2 20 5 = x11 by omega) rfl (show x20 = S0 + (0 : Int) by omega) (show 0 ≤ (0 : Int) ∧ (0 : Int) ≤ g by omega) (fun _ _ _ => rfl) (fun _ _ _ => rfl) (fun i hi => absurd hi (by omega)) (by omega)
          · skip
            refine to_iconst (dat dk_X0_enter 41 rfl) ?_
            exact to_iret rfl (dat dk_X0_enter 42 rfl) (ri_mka (by decide) ⟨Ih8, f10, (EN.mr mr0 p9_1 (by omega)), (by exfalso; omega)⟩)
  · skip
    refine to_iload (dat dk_X0_enter 9 rfl) rfl ?_
    exact to_iret rfl (dat dk_X0_enter 10 rfl) (ri_mka rx3 ⟨hI, (Fr.rf _ _), (EN.rf g1 (by omega)), (by rcases p5_0 with ⟨q, _⟩ | ⟨q1, q2, q3⟩; omega; exact ⟨g6, BX.rf, q1, q2, q3⟩)⟩)
