/-! Contracts, by program. -/
abbrev Q_X0_enter_v8 (h : Hp) (t : Nat) (f : Int) (g : Int) : Option V → Hp → Nat → Nat → Prop := RIa (fun x H mc ms => Inv H ∧ Fr [999, 8, 9, 10, 11, 13, 356, 316, 376] h H ∧ (EN h H 8 60 mc ms (g - f)))
set_option maxRecDepth 100000 in
theorem ct_X0_enter_v8 (l : Launch) (h : Hp) (hI : Inv h) (t : Nat) (ht : isB t = true) (f : Int) (hf : I32 f) (g : Int) (hg : I32 g) (g0 : 0 ≤ f ∧ f ≤ g ∧ g - f ≤ 60 ∧ g ≤ 1300) (g1 : BkW h 8 60) (g2 : WB h 8 ≤ 10000000) (g3 : h.2.2 8 5 ≤ 4000000) (g4 : h.1 + 4 ≤ 900000) : Ct l D_X0_enter 3 126 [.inr (.inr 8), .inr (.inr t), .inl f, .inl g] h (Q_X0_enter_v8 h t f g) := by
  refine ct_of pn_X0_enter (Nat.le_of_ble_eq_true rfl) ?_
  show To l E_X0_enter (0, [(0, .inr (.inr 8)), (1, .inr (.inr t)), (2, .inl f), (3, .inl g)], [], h, 0, 0) _
  obtain ⟨x1, ex1⟩ : ∃ y : Int, h.2.2 8 5 = y := ⟨_, rfl⟩
  have rx1 := hI.atR (a := 8) (j := 5) rfl
  rw [ex1] at rx1
  refine to_aload_n (dat dk_X0_enter 0 rfl) rfl (to_aload_np (dat dk_X0_enter 1 rfl) (hI.1.2.2.2 _ _ (hI.bty ht)).1 rfl (to_iload_n (dat dk_X0_enter 2 rfl) rfl (to_iload_n (dat dk_X0_enter 3 rfl) rfl ?_)))
  refine to_cI ca_c1_44 (dat dk_X0_enter 4 rfl) (ct_X0_find l h hI 8 60 rfl t ht f hf g hg) rfl ⟨_, _, rfl, (hI.atS rfl)⟩ rfl (fun x2 h3 rx2 p4 => ?_)
  obtain ⟨rfl, p4_0⟩ := p4
  refine to_istore (L' := [(0, .inr (.inr 8)), (1, .inr (.inr t)), (2, .inl f), (3, .inl g), (4, .inl x2)]) (dat dk_X0_enter 5 rfl) (by decide) rfl (to_iload (dat dk_X0_enter 6 rfl) rfl (to_iconst (dat dk_X0_enter 7 rfl) ?_))
  refine to_ieq 18 (dat dk_X0_enter 8 rfl) rfl rx2 (by decide) (fun c5 => ?_) (fun c5 => ?_)
  · skip
    refine to_aload_n (dat dk_X0_enter 11 rfl) rfl (to_iload_n (dat dk_X0_enter 12 rfl) rfl (to_iload_n (dat dk_X0_enter 13 rfl) rfl ?_))
    refine to_cVa ca_c1_47 (dat dk_X0_enter 14 rfl) (ct_X0_makeRoom l h hI 8 60 rfl f hf g hg (show 0 ≤ f ∧ f ≤ g ∧ g - f ≤ 60 ∧ g ≤ 1300 by omega) g1 (show WB h 8 ≤ 10000000 by omega) (show h.2.2 8 5 ≤ 4000000 by omega) (show h.1 + 4 ≤ 900000 by omega)) rfl ⟨_, _, rfl, (hI.atS rfl)⟩ rfl (fun h7 mcx6 msx6 p8 => ?_)
    obtain ⟨Ih7, fh7, p8_0, p8_1⟩ := p8
    have f9 : Fr [999, 8, 9, 10, 11, 13, 356, 316, 376] h h7 := Fr.sub (Fr.rf _ _) fh7 rfl
    obtain ⟨kb1, mrW, mrE, mrP, mrZ⟩ := id p8_0
    obtain ⟨nx1, st1, rd1, rw1, nn1, ns1, nr1, nw1, r1, kn1⟩ := id kb1
    have v1 := r1.vals
    obtain ⟨⟨a1, a2, a3, a4⟩, ⟨u1, u2, u3, u4⟩, w1, w2, w3, w4⟩ := id r1
    obtain ⟨k1, k2, k3, k4, k5, k6, k7⟩ := id kn1
    have lu1 := Ih7.lenM u1
    have lu2 := Ih7.lenM u2
    have lu3 := Ih7.lenM u3
    have lu4 := Ih7.lenM u4
    obtain ⟨x10, ex10⟩ : ∃ y : Int, h7.2.2 8 5 = y := ⟨_, rfl⟩
    have rx10 := Ih7.atR (a := 8) (j := 5) rfl
    rw [ex10] at rx10
    rw [ex10] at k4 k5 k6 k7 v1
    obtain ⟨S0, eS0⟩ : ∃ y : Int, h7.2.2 st1 (Int.toNat x10) = y := ⟨_, rfl⟩
    have v1W := v1.2
    rw [eS0] at k5 k6 v1W
    have dd : 0 ≤ g - f := by omega
    refine to_aload_np (dat dk_X0_enter 15 rfl) (Ih7.1.2.2.2 _ _ (Ih7.bty ht)).1 rfl (to_iload_n (dat dk_X0_enter 16 rfl) rfl (to_iload_n (dat dk_X0_enter 17 rfl) rfl ?_))
    refine to_cI ca_c1_36 (dat dk_X0_enter 18 rfl) (ct_X0_slotOf l h7 Ih7 t ht f hf g hg) rfl trivial rfl (fun x11 h12 rx11 p13 => ?_)
    obtain ⟨rfl, p13_0⟩ := p13
    refine to_istore (L' := [(0, .inr (.inr 8)), (1, .inr (.inr t)), (2, .inl f), (3, .inl g), (4, .inl x2), (5, .inl x11)]) (dat dk_X0_enter 19 rfl) (by decide) rfl (to_iload (dat dk_X0_enter 20 rfl) rfl ?_)
    refine to_iflt 73 (dat dk_X0_enter 21 rfl) rfl rx11 (fun c14 => ?_) (fun c14 => ?_)
    · skip
      refine to_iconst (dat dk_X0_enter 41 rfl) ?_
      exact to_iret rfl (dat dk_X0_enter 42 rfl) (ri_mka (by decide) ⟨Ih7, f9, (EN.mr p8_0 p8_1 (by omega))⟩)
    · skip
      refine to_iload (dat dk_X0_enter 22 rfl) rfl (to_aload_n (dat dk_X0_enter 23 rfl) rfl (to_getR 9 g_c1_11 (dat dk_X0_enter 24 rfl) (Ih7.atS rfl) (Ih7.atE rfl) (to_alen (dat dk_X0_enter 25 rfl) (Ih7.atS rfl) (by decide) ?_)))
      refine to_ige 73 (dat dk_X0_enter 26 rfl) rfl rx11 (by decide) (fun c15 => ?_) (fun c15 => ?_)
      · skip
        refine to_iconst (dat dk_X0_enter 41 rfl) ?_
        exact to_iret rfl (dat dk_X0_enter 42 rfl) (ri_mka (by decide) ⟨Ih7, f9, (EN.mr p8_0 p8_1 (by omega))⟩)
      · skip
        refine to_aload_n (dat dk_X0_enter 27 rfl) rfl (to_getIv (y := x10) ex10 g_c1_28 (dat dk_X0_enter 28 rfl) (Ih7.atS rfl) (to_iconst (dat dk_X0_enter 29 rfl) (to_iadd (dat dk_X0_enter 30 rfl) (to_aload_n (dat dk_X0_enter 31 rfl) rfl (to_getR st1 g_c1_18 (dat dk_X0_enter 32 rfl) (Ih7.atS rfl) a2 (to_alen (dat dk_X0_enter 33 rfl) u2 (by decide) ?_))))))
        refine to_ige 73 (dat dk_X0_enter 34 rfl) rfl (by omega) (by omega) (fun c16 => ?_) (fun c16 => ?_)
        · skip
          refine to_iconst (dat dk_X0_enter 41 rfl) ?_
          exact to_iret rfl (dat dk_X0_enter 42 rfl) (ri_mka (by decide) ⟨Ih7, f9, (EN.mr p8_0 p8_1 (by omega))⟩)
        · skip
          refine to_aload_n (dat dk_X0_enter 35 rfl) rfl (to_getIv (y := x10) ex10 g_c1_28 (dat dk_X0_enter 36 rfl) (Ih7.atS rfl) (to_aload_n (dat dk_X0_enter 37 rfl) rfl (to_getR nx1 g_c1_15 (dat dk_X0_enter 38 rfl) (Ih7.atS rfl) a1 (to_alen (dat dk_X0_enter 39 rfl) u1 (by decide) ?_))))
          refine to_ilt 75 (dat dk_X0_enter 40 rfl) rfl (by omega) (by omega) (fun c17 => ?_) (fun c17 => ?_)
          · skip
            refine to_aload_n (dat dk_X0_enter 43 rfl) rfl (to_getR st1 g_c1_18 (dat dk_X0_enter 44 rfl) (Ih7.atS rfl) a2 (to_aload_n (dat dk_X0_enter 45 rfl) rfl (to_getIv (y := x10) ex10 g_c1_28 (dat dk_X0_enter 46 rfl) (Ih7.atS rfl) ?_)))
            obtain ⟨x18, ex18⟩ : ∃ y : Int, h7.2.2 st1 (Int.toNat x10) = y := ⟨_, rfl⟩
            have rx18 := Ih7.con0 u2 rfl (Int.toNat x10)
            rw [ex18] at rx18
            refine to_ialdv ex18 (dat dk_X0_enter 47 rfl) u2 rfl (Ih7.lenN u2) (by omega) (to_istore (L' := [(0, .inr (.inr 8)), (1, .inr (.inr t)), (2, .inl f), (3, .inl g), (4, .inl x2), (5, .inl x11), (6, .inl x18)]) (dat dk_X0_enter 48 rfl) (by decide) rfl (to_iload_n (dat dk_X0_enter 49 rfl) rfl (to_istore (L' := [(0, .inr (.inr 8)), (1, .inr (.inr t)), (2, .inl f), (3, .inl g), (4, .inl x2), (5, .inl x11), (6, .inl x18), (7, .inl f)]) (dat dk_X0_enter 50 rfl) (by decide) rfl ?_)))
            have lp89_n27 : ∀ (n27 : Nat) (y19 : Int) (y20 : Int) (h21 : Hp), (I32 y19) → (I32 y20) → (Inv h21) → (Fr [999, 8, 9, 10, 11, 13, 356, 316, 376] h h21) → (BkR h21 8 60 nx1 st1 rd1 rw1 nn1 ns1 nr1 nw1) → (h21.2.2 8 5 = x10) → (h21.1 = h7.1) → (S0 ≤ y19 ∧ y19 ≤ S0 + (y20 - f)) → (f ≤ y20 ∧ y20 ≤ g) → (g - y20 ≤ (n27 : Int)) → To l E_X0_enter (89, [(0, .inr (.inr 8)), (1, .inr (.inr t)), (2, .inl f), (3, .inl g), (4, .inl x2), (5, .inl x11), (6, .inl y19), (7, .inl y20)], [], h21, (0 + mcx6), (0 + msx6)) (Q_X0_enter_v8 h t f g) := by
              intro n27
              induction n27 using Nat.strongRecOn with
              | _ n27 ihn27 =>
              intro y19 y20 h21 ry19 ry20 Ih21 fh21 c22 c23 c24 c25 c26 c28
              obtain ⟨x29, ex29⟩ : ∃ y : Int, h21.2.2 8 5 = y := ⟨_, rfl⟩
              have rx29 := Ih21.atR (a := 8) (j := 5) rfl
              rw [ex29] at rx29
              refine to_iload (dat dk_X0_enter 51 rfl) rfl ?_
              obtain ⟨⟨v30, v31, v32, v33⟩, ⟨v34, v35, v36, v37⟩, -⟩ := id c22
              refine to_iload_n (dat dk_X0_enter 52 rfl) rfl ?_
              refine to_ige 133 (dat dk_X0_enter 53 rfl) rfl ry20 hg (fun c38 => ?_) (fun c38 => ?_)
              · skip
                refine to_aload_n (dat dk_X0_enter 72 rfl) rfl (to_getR nx1 g_c1_15 (dat dk_X0_enter 73 rfl) (Ih21.atS rfl) v30 (to_aload_n (dat dk_X0_enter 74 rfl) rfl (to_getIv (y := x10) c23 g_c1_28 (dat dk_X0_enter 75 rfl) (Ih21.atS rfl) (to_aload_n (dat dk_X0_enter 76 rfl) rfl (to_getR 9 g_c1_11 (dat dk_X0_enter 77 rfl) (Ih21.atS rfl) (Ih21.atE rfl) (to_iload (dat dk_X0_enter 78 rfl) rfl ?_))))))
                obtain ⟨x39, ex39⟩ : ∃ y : Int, h21.2.2 9 (Int.toNat x11) = y := ⟨_, rfl⟩
                have rx39 := Ih21.atR (a := 9) (j := Int.toNat x11) rfl
                rw [ex39] at rx39
                refine to_ialdv ex39 (dat dk_X0_enter 79 rfl) (Ih21.atS rfl) rfl (by decide) (by omega) (to_iconst (dat dk_X0_enter 80 rfl) ?_)
                refine to_isubA (dat dk_X0_enter 81 rfl) (fun x40 rx40 => ?_)
                refine to_iastw (dat dk_X0_enter 82 rfl) v34 rfl (Ih21.lenN v34) (by omega) ?_
                intro h43 wh43
                have I41 : Inv h43 := by rw [wh43]; exact Ih21.putA (j := (Int.toNat x10)) (x := x40) v34 (by decide +kernel) rfl rx40
                have f42 : Fr [999, 8, 9, 10, 11, 13, 356, 316, 376] h h43 := by rw [wh43]; exact Fr.putA (j := (Int.toNat x10)) (x := x40) fh21 Ih21 v34 (by decide +kernel)
                have d44 : h43.2.1 nx1 = some (.inl (460, nn1)) := by rw [wh43]; exact v34
                have d45 : h43.2.1 st1 = some (.inl (60, ns1)) := by rw [wh43]; exact v35
                have d46 : h43.2.1 rd1 = some (.inl (560, nr1)) := by rw [wh43]; exact v36
                have d47 : h43.2.1 rw1 = some (.inl (661, nw1)) := by rw [wh43]; exact v37
                refine to_aload_n (dat dk_X0_enter 83 rfl) rfl (to_getR 9 g_c1_11 (dat dk_X0_enter 84 rfl) (I41.atS rfl) (I41.atE rfl) (to_iload (dat dk_X0_enter 85 rfl) rfl (to_aload_n (dat dk_X0_enter 86 rfl) rfl (to_getIv (y := x10) (by rw [wh43]; exact (wr_ne (ne_ty (Ih21.atS rfl) v34 (by intro e; cases e))).trans c23) g_c1_28 (dat dk_X0_enter 87 rfl) (I41.atS rfl) (to_iconst (dat dk_X0_enter 88 rfl) (to_iadd (dat dk_X0_enter 89 rfl) (to_iastw (dat dk_X0_enter 90 rfl) (I41.atS rfl) rfl (by decide) (by omega) ?_)))))))
                intro h50 wh50
                have I48 : Inv h50 := by rw [wh50]; exact I41.put (a := 9) (j := (Int.toNat x11)) (x := (x10 + 1)) (-2147483648) (2147483647) rfl rfl (show (-2147483648 : Int) ≤ (x10 + 1) ∧ (x10 + 1) ≤ 2147483647 by omega)
                have f49 : Fr [999, 8, 9, 10, 11, 13, 356, 316, 376] h h50 := by rw [wh50]; exact Fr.putF (a := 9) (j := (Int.toNat x11)) (x := (x10 + 1)) f42 rfl
                have d51 : h50.2.1 nx1 = some (.inl (460, nn1)) := by rw [wh50]; exact d44
                have d52 : h50.2.1 st1 = some (.inl (60, ns1)) := by rw [wh50]; exact d45
                have d53 : h50.2.1 rd1 = some (.inl (560, nr1)) := by rw [wh50]; exact d46
                have d54 : h50.2.1 rw1 = some (.inl (661, nw1)) := by rw [wh50]; exact d47
                refine to_aload_n (dat dk_X0_enter 91 rfl) rfl (to_dup (dat dk_X0_enter 92 rfl) rfl (to_getIv (y := x10) (by rw [wh50]; exact (show h43.2.2 8 5 = x10 from (by rw [wh43]; exact (wr_ne (ne_ty (Ih21.atS rfl) v34 (by intro e; cases e))).trans c23))) g_c1_28 (dat dk_X0_enter 93 rfl) (I48.atS rfl) (to_iconst (dat dk_X0_enter 94 rfl) (to_iadd (dat dk_X0_enter 95 rfl) (to_putIw p_c1_28 (dat dk_X0_enter 96 rfl) (I48.atS rfl) ?_)))))
                intro h57 wh57
                have I55 : Inv h57 := by rw [wh57]; exact I48.put (a := 8) (j := 5) (x := (x10 + 1)) (0) (10000000) rfl rfl (show (0 : Int) ≤ (x10 + 1) ∧ (x10 + 1) ≤ 10000000 by omega)
                have f56 : Fr [999, 8, 9, 10, 11, 13, 356, 316, 376] h h57 := by rw [wh57]; exact Fr.putF (a := 8) (j := 5) (x := (x10 + 1)) f49 rfl
                have d58 : h57.2.1 nx1 = some (.inl (460, nn1)) := by rw [wh57]; exact d51
                have d59 : h57.2.1 st1 = some (.inl (60, ns1)) := by rw [wh57]; exact d52
                have d60 : h57.2.1 rd1 = some (.inl (560, nr1)) := by rw [wh57]; exact d53
                have d61 : h57.2.1 rw1 = some (.inl (661, nw1)) := by rw [wh57]; exact d54
                refine to_aload_n (dat dk_X0_enter 97 rfl) rfl (to_getR st1 g_c1_18 (dat dk_X0_enter 98 rfl) (I55.atS rfl) (by rw [wh57]; exact (show h50.2.2 8 2 = (st1 : Int) from (by rw [wh50]; exact (show h43.2.2 8 2 = (st1 : Int) from (by rw [wh43]; exact (wr_ne (ne_ty (Ih21.atS rfl) v34 (by intro e; cases e))).trans v31))))) (to_aload_n (dat dk_X0_enter 99 rfl) rfl (to_getIv (y := (x10 + 1)) (by rw [wh57]; exact wr_eq) g_c1_28 (dat dk_X0_enter 100 rfl) (I55.atS rfl) (to_iload (dat dk_X0_enter 101 rfl) rfl (to_iastw (dat dk_X0_enter 102 rfl) d59 rfl (I55.lenN d59) (by omega) ?_)))))
                intro h64 wh64
                have I62 : Inv h64 := by rw [wh64]; exact I55.putA (j := (Int.toNat (x10 + 1))) (x := y19) d59 (by decide +kernel) rfl ry19
                have f63 : Fr [999, 8, 9, 10, 11, 13, 356, 316, 376] h h64 := by rw [wh64]; exact Fr.putA (j := (Int.toNat (x10 + 1))) (x := y19) f56 I55 d59 (by decide +kernel)
                have d65 : h64.2.1 nx1 = some (.inl (460, nn1)) := by rw [wh64]; exact d58
                have d66 : h64.2.1 st1 = some (.inl (60, ns1)) := by rw [wh64]; exact d59
                have d67 : h64.2.1 rd1 = some (.inl (560, nr1)) := by rw [wh64]; exact d60
                have d68 : h64.2.1 rw1 = some (.inl (661, nw1)) := by rw [wh64]; exact d61
                have e69 : h64.2.2 8 1 = (nx1 : Int) := (by rw [wh64]; exact (wr_ne (ne_ty (I55.atS rfl) d59 (by intro e; cases e))).trans (show h57.2.2 8 1 = (nx1 : Int) from (by rw [wh57]; exact (show h50.2.2 8 1 = (nx1 : Int) from (by rw [wh50]; exact (show h43.2.2 8 1 = (nx1 : Int) from (by rw [wh43]; exact (wr_ne (ne_ty (Ih21.atS rfl) v34 (by intro e; cases e))).trans v30)))))))
                have e70 : h64.2.2 8 2 = (st1 : Int) := (by rw [wh64]; exact (wr_ne (ne_ty (I55.atS rfl) d59 (by intro e; cases e))).trans (show h57.2.2 8 2 = (st1 : Int) from (by rw [wh57]; exact (show h50.2.2 8 2 = (st1 : Int) from (by rw [wh50]; exact (show h43.2.2 8 2 = (st1 : Int) from (by rw [wh43]; exact (wr_ne (ne_ty (Ih21.atS rfl) v34 (by intro e; cases e))).trans v31)))))))
                have e71 : h64.2.2 8 3 = (rd1 : Int) := (by rw [wh64]; exact (wr_ne (ne_ty (I55.atS rfl) d59 (by intro e; cases e))).trans (show h57.2.2 8 3 = (rd1 : Int) from (by rw [wh57]; exact (show h50.2.2 8 3 = (rd1 : Int) from (by rw [wh50]; exact (show h43.2.2 8 3 = (rd1 : Int) from (by rw [wh43]; exact (wr_ne (ne_ty (Ih21.atS rfl) v34 (by intro e; cases e))).trans v32)))))))
                have e72 : h64.2.2 8 4 = (rw1 : Int) := (by rw [wh64]; exact (wr_ne (ne_ty (I55.atS rfl) d59 (by intro e; cases e))).trans (show h57.2.2 8 4 = (rw1 : Int) from (by rw [wh57]; exact (show h50.2.2 8 4 = (rw1 : Int) from (by rw [wh50]; exact (show h43.2.2 8 4 = (rw1 : Int) from (by rw [wh43]; exact (wr_ne (ne_ty (Ih21.atS rfl) v34 (by intro e; cases e))).trans v33)))))))
                have v73 : BkR h64 8 60 nx1 st1 rd1 rw1 nn1 ns1 nr1 nw1 := ⟨⟨e69, e70, e71, e72⟩, ⟨d65, d66, d67, d68⟩, w1, w2, w3, w4⟩
                have e74 : h64.2.2 8 5 = (x10 + 1) := (by rw [wh64]; exact (wr_ne (ne_ty (I55.atS rfl) d59 (by intro e; cases e))).trans (show h57.2.2 8 5 = (x10 + 1) from (by rw [wh57]; exact wr_eq)))
                have es : h64.2.2 st1 (Int.toNat (x10 + 1)) = y19 := by rw [wh64]; exact wr_eq
                have vv := v73.vals
                rw [e74] at vv
                rw [es] at vv
                have bw : BkW h64 8 60 := ⟨_, _, _, _, _, _, _, _, v73, k1, k2, k3, by rw [e74]; omega, by rw [e74, es]; omega, by rw [e74, es]; omega, by rw [e74]; omega⟩
                have e1Z : h64.1 = h7.1 := by rw [wh64, wh57, wh50, wh43]; exact c24
                have en := EN.fin (d := g - f) p8_0 p8_1 bw (by omega) (by omega) (by omega) e1Z
                refine to_aload_n (dat dk_X0_enter 103 rfl) rfl (to_getIv (y := (x10 + 1)) e74 g_c1_28 (dat dk_X0_enter 104 rfl) (I62.atS rfl) (to_iconst (dat dk_X0_enter 105 rfl) (to_isub (dat dk_X0_enter 106 rfl) ?_)))
                exact to_iret rfl (dat dk_X0_enter 107 rfl) (ri_mka (by omega) ⟨I62, f63, en⟩)
              · skip
                refine to_iload (dat dk_X0_enter 54 rfl) rfl ?_
                refine to_iflt 133 (dat dk_X0_enter 55 rfl) rfl ry19 (fun c75 => ?_) (fun c75 => ?_)
                · skip
                  refine to_aload_n (dat dk_X0_enter 72 rfl) rfl (to_getR nx1 g_c1_15 (dat dk_X0_enter 73 rfl) (Ih21.atS rfl) v30 (to_aload_n (dat dk_X0_enter 74 rfl) rfl (to_getIv (y := x10) c23 g_c1_28 (dat dk_X0_enter 75 rfl) (Ih21.atS rfl) (to_aload_n (dat dk_X0_enter 76 rfl) rfl (to_getR 9 g_c1_11 (dat dk_X0_enter 77 rfl) (Ih21.atS rfl) (Ih21.atE rfl) (to_iload (dat dk_X0_enter 78 rfl) rfl ?_))))))
                  obtain ⟨x76, ex76⟩ : ∃ y : Int, h21.2.2 9 (Int.toNat x11) = y := ⟨_, rfl⟩
                  have rx76 := Ih21.atR (a := 9) (j := Int.toNat x11) rfl
                  rw [ex76] at rx76
                  refine to_ialdv ex76 (dat dk_X0_enter 79 rfl) (Ih21.atS rfl) rfl (by decide) (by omega) (to_iconst (dat dk_X0_enter 80 rfl) ?_)
                  refine to_isubA (dat dk_X0_enter 81 rfl) (fun x77 rx77 => ?_)
                  refine to_iastw (dat dk_X0_enter 82 rfl) v34 rfl (Ih21.lenN v34) (by omega) ?_
                  intro h80 wh80
                  have I78 : Inv h80 := by rw [wh80]; exact Ih21.putA (j := (Int.toNat x10)) (x := x77) v34 (by decide +kernel) rfl rx77
                  have f79 : Fr [999, 8, 9, 10, 11, 13, 356, 316, 376] h h80 := by rw [wh80]; exact Fr.putA (j := (Int.toNat x10)) (x := x77) fh21 Ih21 v34 (by decide +kernel)
                  have d81 : h80.2.1 nx1 = some (.inl (460, nn1)) := by rw [wh80]; exact v34
                  have d82 : h80.2.1 st1 = some (.inl (60, ns1)) := by rw [wh80]; exact v35
                  have d83 : h80.2.1 rd1 = some (.inl (560, nr1)) := by rw [wh80]; exact v36
                  have d84 : h80.2.1 rw1 = some (.inl (661, nw1)) := by rw [wh80]; exact v37
                  refine to_aload_n (dat dk_X0_enter 83 rfl) rfl (to_getR 9 g_c1_11 (dat dk_X0_enter 84 rfl) (I78.atS rfl) (I78.atE rfl) (to_iload (dat dk_X0_enter 85 rfl) rfl (to_aload_n (dat dk_X0_enter 86 rfl) rfl (to_getIv (y := x10) (by rw [wh80]; exact (wr_ne (ne_ty (Ih21.atS rfl) v34 (by intro e; cases e))).trans c23) g_c1_28 (dat dk_X0_enter 87 rfl) (I78.atS rfl) (to_iconst (dat dk_X0_enter 88 rfl) (to_iadd (dat dk_X0_enter 89 rfl) (to_iastw (dat dk_X0_enter 90 rfl) (I78.atS rfl) rfl (by decide) (by omega) ?_)))))))
                  intro h87 wh87
                  have I85 : Inv h87 := by rw [wh87]; exact I78.put (a := 9) (j := (Int.toNat x11)) (x := (x10 + 1)) (-2147483648) (2147483647) rfl rfl (show (-2147483648 : Int) ≤ (x10 + 1) ∧ (x10 + 1) ≤ 2147483647 by omega)
                  have f86 : Fr [999, 8, 9, 10, 11, 13, 356, 316, 376] h h87 := by rw [wh87]; exact Fr.putF (a := 9) (j := (Int.toNat x11)) (x := (x10 + 1)) f79 rfl
                  have d88 : h87.2.1 nx1 = some (.inl (460, nn1)) := by rw [wh87]; exact d81
                  have d89 : h87.2.1 st1 = some (.inl (60, ns1)) := by rw [wh87]; exact d82
                  have d90 : h87.2.1 rd1 = some (.inl (560, nr1)) := by rw [wh87]; exact d83
                  have d91 : h87.2.1 rw1 = some (.inl (661, nw1)) := by rw [wh87]; exact d84
                  refine to_aload_n (dat dk_X0_enter 91 rfl) rfl (to_dup (dat dk_X0_enter 92 rfl) rfl (to_getIv (y := x10) (by rw [wh87]; exact (show h80.2.2 8 5 = x10 from (by rw [wh80]; exact (wr_ne (ne_ty (Ih21.atS rfl) v34 (by intro e; cases e))).trans c23))) g_c1_28 (dat dk_X0_enter 93 rfl) (I85.atS rfl) (to_iconst (dat dk_X0_enter 94 rfl) (to_iadd (dat dk_X0_enter 95 rfl) (to_putIw p_c1_28 (dat dk_X0_enter 96 rfl) (I85.atS rfl) ?_)))))
                  intro h94 wh94
                  have I92 : Inv h94 := by rw [wh94]; exact I85.put (a := 8) (j := 5) (x := (x10 + 1)) (0) (10000000) rfl rfl (show (0 : Int) ≤ (x10 + 1) ∧ (x10 + 1) ≤ 10000000 by omega)
                  have f93 : Fr [999, 8, 9, 10, 11, 13, 356, 316, 376] h h94 := by rw [wh94]; exact Fr.putF (a := 8) (j := 5) (x := (x10 + 1)) f86 rfl
                  have d95 : h94.2.1 nx1 = some (.inl (460, nn1)) := by rw [wh94]; exact d88
                  have d96 : h94.2.1 st1 = some (.inl (60, ns1)) := by rw [wh94]; exact d89
                  have d97 : h94.2.1 rd1 = some (.inl (560, nr1)) := by rw [wh94]; exact d90
                  have d98 : h94.2.1 rw1 = some (.inl (661, nw1)) := by rw [wh94]; exact d91
                  refine to_aload_n (dat dk_X0_enter 97 rfl) rfl (to_getR st1 g_c1_18 (dat dk_X0_enter 98 rfl) (I92.atS rfl) (by rw [wh94]; exact (show h87.2.2 8 2 = (st1 : Int) from (by rw [wh87]; exact (show h80.2.2 8 2 = (st1 : Int) from (by rw [wh80]; exact (wr_ne (ne_ty (Ih21.atS rfl) v34 (by intro e; cases e))).trans v31))))) (to_aload_n (dat dk_X0_enter 99 rfl) rfl (to_getIv (y := (x10 + 1)) (by rw [wh94]; exact wr_eq) g_c1_28 (dat dk_X0_enter 100 rfl) (I92.atS rfl) (to_iload (dat dk_X0_enter 101 rfl) rfl (to_iastw (dat dk_X0_enter 102 rfl) d96 rfl (I92.lenN d96) (by omega) ?_)))))
                  intro h101 wh101
                  have I99 : Inv h101 := by rw [wh101]; exact I92.putA (j := (Int.toNat (x10 + 1))) (x := y19) d96 (by decide +kernel) rfl ry19
                  have f100 : Fr [999, 8, 9, 10, 11, 13, 356, 316, 376] h h101 := by rw [wh101]; exact Fr.putA (j := (Int.toNat (x10 + 1))) (x := y19) f93 I92 d96 (by decide +kernel)
                  have d102 : h101.2.1 nx1 = some (.inl (460, nn1)) := by rw [wh101]; exact d95
                  have d103 : h101.2.1 st1 = some (.inl (60, ns1)) := by rw [wh101]; exact d96
                  have d104 : h101.2.1 rd1 = some (.inl (560, nr1)) := by rw [wh101]; exact d97
                  have d105 : h101.2.1 rw1 = some (.inl (661, nw1)) := by rw [wh101]; exact d98
                  have e106 : h101.2.2 8 1 = (nx1 : Int) := (by rw [wh101]; exact (wr_ne (ne_ty (I92.atS rfl) d96 (by intro e; cases e))).trans (show h94.2.2 8 1 = (nx1 : Int) from (by rw [wh94]; exact (show h87.2.2 8 1 = (nx1 : Int) from (by rw [wh87]; exact (show h80.2.2 8 1 = (nx1 : Int) from (by rw [wh80]; exact (wr_ne (ne_ty (Ih21.atS rfl) v34 (by intro e; cases e))).trans v30)))))))
                  have e107 : h101.2.2 8 2 = (st1 : Int) := (by rw [wh101]; exact (wr_ne (ne_ty (I92.atS rfl) d96 (by intro e; cases e))).trans (show h94.2.2 8 2 = (st1 : Int) from (by rw [wh94]; exact (show h87.2.2 8 2 = (st1 : Int) from (by rw [wh87]; exact (show h80.2.2 8 2 = (st1 : Int) from (by rw [wh80]; exact (wr_ne (ne_ty (Ih21.atS rfl) v34 (by intro e; cases e))).trans v31)))))))
                  have e108 : h101.2.2 8 3 = (rd1 : Int) := (by rw [wh101]; exact (wr_ne (ne_ty (I92.atS rfl) d96 (by intro e; cases e))).trans (show h94.2.2 8 3 = (rd1 : Int) from (by rw [wh94]; exact (show h87.2.2 8 3 = (rd1 : Int) from (by rw [wh87]; exact (show h80.2.2 8 3 = (rd1 : Int) from (by rw [wh80]; exact (wr_ne (ne_ty (Ih21.atS rfl) v34 (by intro e; cases e))).trans v32)))))))
                  have e109 : h101.2.2 8 4 = (rw1 : Int) := (by rw [wh101]; exact (wr_ne (ne_ty (I92.atS rfl) d96 (by intro e; cases e))).trans (show h94.2.2 8 4 = (rw1 : Int) from (by rw [wh94]; exact (show h87.2.2 8 4 = (rw1 : Int) from (by rw [wh87]; exact (show h80.2.2 8 4 = (rw1 : Int) from (by rw [wh80]; exact (wr_ne (ne_ty (Ih21.atS rfl) v34 (by intro e; cases e))).trans v33)))))))
                  have v110 : BkR h101 8 60 nx1 st1 rd1 rw1 nn1 ns1 nr1 nw1 := ⟨⟨e106, e107, e108, e109⟩, ⟨d102, d103, d104, d105⟩, w1, w2, w3, w4⟩
                  have e111 : h101.2.2 8 5 = (x10 + 1) := (by rw [wh101]; exact (wr_ne (ne_ty (I92.atS rfl) d96 (by intro e; cases e))).trans (show h94.2.2 8 5 = (x10 + 1) from (by rw [wh94]; exact wr_eq)))
                  have es : h101.2.2 st1 (Int.toNat (x10 + 1)) = y19 := by rw [wh101]; exact wr_eq
                  have vv := v110.vals
                  rw [e111] at vv
                  rw [es] at vv
                  have bw : BkW h101 8 60 := ⟨_, _, _, _, _, _, _, _, v110, k1, k2, k3, by rw [e111]; omega, by rw [e111, es]; omega, by rw [e111, es]; omega, by rw [e111]; omega⟩
                  have e1Z : h101.1 = h7.1 := by rw [wh101, wh94, wh87, wh80]; exact c24
                  have en := EN.fin (d := g - f) p8_0 p8_1 bw (by omega) (by omega) (by omega) e1Z
                  refine to_aload_n (dat dk_X0_enter 103 rfl) rfl (to_getIv (y := (x10 + 1)) e111 g_c1_28 (dat dk_X0_enter 104 rfl) (I99.atS rfl) (to_iconst (dat dk_X0_enter 105 rfl) (to_isub (dat dk_X0_enter 106 rfl) ?_)))
                  exact to_iret rfl (dat dk_X0_enter 107 rfl) (ri_mka (by omega) ⟨I99, f100, en⟩)
                · skip
                  refine to_iload (dat dk_X0_enter 56 rfl) rfl (to_aload_n (dat dk_X0_enter 57 rfl) rfl (to_getR rw1 g_c1_24 (dat dk_X0_enter 58 rfl) (Ih21.atS rfl) v33 (to_alen (dat dk_X0_enter 59 rfl) v37 (by decide) ?_)))
                  refine to_ige 133 (dat dk_X0_enter 60 rfl) rfl ry19 (by omega) (fun c112 => ?_) (fun c112 => ?_)
                  · skip
                    refine to_aload_n (dat dk_X0_enter 72 rfl) rfl (to_getR nx1 g_c1_15 (dat dk_X0_enter 73 rfl) (Ih21.atS rfl) v30 (to_aload_n (dat dk_X0_enter 74 rfl) rfl (to_getIv (y := x10) c23 g_c1_28 (dat dk_X0_enter 75 rfl) (Ih21.atS rfl) (to_aload_n (dat dk_X0_enter 76 rfl) rfl (to_getR 9 g_c1_11 (dat dk_X0_enter 77 rfl) (Ih21.atS rfl) (Ih21.atE rfl) (to_iload (dat dk_X0_enter 78 rfl) rfl ?_))))))
                    obtain ⟨x113, ex113⟩ : ∃ y : Int, h21.2.2 9 (Int.toNat x11) = y := ⟨_, rfl⟩
                    have rx113 := Ih21.atR (a := 9) (j := Int.toNat x11) rfl
                    rw [ex113] at rx113
                    refine to_ialdv ex113 (dat dk_X0_enter 79 rfl) (Ih21.atS rfl) rfl (by decide) (by omega) (to_iconst (dat dk_X0_enter 80 rfl) ?_)
                    refine to_isubA (dat dk_X0_enter 81 rfl) (fun x114 rx114 => ?_)
                    refine to_iastw (dat dk_X0_enter 82 rfl) v34 rfl (Ih21.lenN v34) (by omega) ?_
                    intro h117 wh117
                    have I115 : Inv h117 := by rw [wh117]; exact Ih21.putA (j := (Int.toNat x10)) (x := x114) v34 (by decide +kernel) rfl rx114
                    have f116 : Fr [999, 8, 9, 10, 11, 13, 356, 316, 376] h h117 := by rw [wh117]; exact Fr.putA (j := (Int.toNat x10)) (x := x114) fh21 Ih21 v34 (by decide +kernel)
                    have d118 : h117.2.1 nx1 = some (.inl (460, nn1)) := by rw [wh117]; exact v34
                    have d119 : h117.2.1 st1 = some (.inl (60, ns1)) := by rw [wh117]; exact v35
                    have d120 : h117.2.1 rd1 = some (.inl (560, nr1)) := by rw [wh117]; exact v36
                    have d121 : h117.2.1 rw1 = some (.inl (661, nw1)) := by rw [wh117]; exact v37
                    refine to_aload_n (dat dk_X0_enter 83 rfl) rfl (to_getR 9 g_c1_11 (dat dk_X0_enter 84 rfl) (I115.atS rfl) (I115.atE rfl) (to_iload (dat dk_X0_enter 85 rfl) rfl (to_aload_n (dat dk_X0_enter 86 rfl) rfl (to_getIv (y := x10) (by rw [wh117]; exact (wr_ne (ne_ty (Ih21.atS rfl) v34 (by intro e; cases e))).trans c23) g_c1_28 (dat dk_X0_enter 87 rfl) (I115.atS rfl) (to_iconst (dat dk_X0_enter 88 rfl) (to_iadd (dat dk_X0_enter 89 rfl) (to_iastw (dat dk_X0_enter 90 rfl) (I115.atS rfl) rfl (by decide) (by omega) ?_)))))))
                    intro h124 wh124
                    have I122 : Inv h124 := by rw [wh124]; exact I115.put (a := 9) (j := (Int.toNat x11)) (x := (x10 + 1)) (-2147483648) (2147483647) rfl rfl (show (-2147483648 : Int) ≤ (x10 + 1) ∧ (x10 + 1) ≤ 2147483647 by omega)
                    have f123 : Fr [999, 8, 9, 10, 11, 13, 356, 316, 376] h h124 := by rw [wh124]; exact Fr.putF (a := 9) (j := (Int.toNat x11)) (x := (x10 + 1)) f116 rfl
                    have d125 : h124.2.1 nx1 = some (.inl (460, nn1)) := by rw [wh124]; exact d118
                    have d126 : h124.2.1 st1 = some (.inl (60, ns1)) := by rw [wh124]; exact d119
                    have d127 : h124.2.1 rd1 = some (.inl (560, nr1)) := by rw [wh124]; exact d120
                    have d128 : h124.2.1 rw1 = some (.inl (661, nw1)) := by rw [wh124]; exact d121
                    refine to_aload_n (dat dk_X0_enter 91 rfl) rfl (to_dup (dat dk_X0_enter 92 rfl) rfl (to_getIv (y := x10) (by rw [wh124]; exact (show h117.2.2 8 5 = x10 from (by rw [wh117]; exact (wr_ne (ne_ty (Ih21.atS rfl) v34 (by intro e; cases e))).trans c23))) g_c1_28 (dat dk_X0_enter 93 rfl) (I122.atS rfl) (to_iconst (dat dk_X0_enter 94 rfl) (to_iadd (dat dk_X0_enter 95 rfl) (to_putIw p_c1_28 (dat dk_X0_enter 96 rfl) (I122.atS rfl) ?_)))))
                    intro h131 wh131
                    have I129 : Inv h131 := by rw [wh131]; exact I122.put (a := 8) (j := 5) (x := (x10 + 1)) (0) (10000000) rfl rfl (show (0 : Int) ≤ (x10 + 1) ∧ (x10 + 1) ≤ 10000000 by omega)
                    have f130 : Fr [999, 8, 9, 10, 11, 13, 356, 316, 376] h h131 := by rw [wh131]; exact Fr.putF (a := 8) (j := 5) (x := (x10 + 1)) f123 rfl
                    have d132 : h131.2.1 nx1 = some (.inl (460, nn1)) := by rw [wh131]; exact d125
                    have d133 : h131.2.1 st1 = some (.inl (60, ns1)) := by rw [wh131]; exact d126
                    have d134 : h131.2.1 rd1 = some (.inl (560, nr1)) := by rw [wh131]; exact d127
                    have d135 : h131.2.1 rw1 = some (.inl (661, nw1)) := by rw [wh131]; exact d128
                    refine to_aload_n (dat dk_X0_enter 97 rfl) rfl (to_getR st1 g_c1_18 (dat dk_X0_enter 98 rfl) (I129.atS rfl) (by rw [wh131]; exact (show h124.2.2 8 2 = (st1 : Int) from (by rw [wh124]; exact (show h117.2.2 8 2 = (st1 : Int) from (by rw [wh117]; exact (wr_ne (ne_ty (Ih21.atS rfl) v34 (by intro e; cases e))).trans v31))))) (to_aload_n (dat dk_X0_enter 99 rfl) rfl (to_getIv (y := (x10 + 1)) (by rw [wh131]; exact wr_eq) g_c1_28 (dat dk_X0_enter 100 rfl) (I129.atS rfl) (to_iload (dat dk_X0_enter 101 rfl) rfl (to_iastw (dat dk_X0_enter 102 rfl) d133 rfl (I129.lenN d133) (by omega) ?_)))))
                    intro h138 wh138
                    have I136 : Inv h138 := by rw [wh138]; exact I129.putA (j := (Int.toNat (x10 + 1))) (x := y19) d133 (by decide +kernel) rfl ry19
                    have f137 : Fr [999, 8, 9, 10, 11, 13, 356, 316, 376] h h138 := by rw [wh138]; exact Fr.putA (j := (Int.toNat (x10 + 1))) (x := y19) f130 I129 d133 (by decide +kernel)
                    have d139 : h138.2.1 nx1 = some (.inl (460, nn1)) := by rw [wh138]; exact d132
                    have d140 : h138.2.1 st1 = some (.inl (60, ns1)) := by rw [wh138]; exact d133
                    have d141 : h138.2.1 rd1 = some (.inl (560, nr1)) := by rw [wh138]; exact d134
                    have d142 : h138.2.1 rw1 = some (.inl (661, nw1)) := by rw [wh138]; exact d135
                    have e143 : h138.2.2 8 1 = (nx1 : Int) := (by rw [wh138]; exact (wr_ne (ne_ty (I129.atS rfl) d133 (by intro e; cases e))).trans (show h131.2.2 8 1 = (nx1 : Int) from (by rw [wh131]; exact (show h124.2.2 8 1 = (nx1 : Int) from (by rw [wh124]; exact (show h117.2.2 8 1 = (nx1 : Int) from (by rw [wh117]; exact (wr_ne (ne_ty (Ih21.atS rfl) v34 (by intro e; cases e))).trans v30)))))))
                    have e144 : h138.2.2 8 2 = (st1 : Int) := (by rw [wh138]; exact (wr_ne (ne_ty (I129.atS rfl) d133 (by intro e; cases e))).trans (show h131.2.2 8 2 = (st1 : Int) from (by rw [wh131]; exact (show h124.2.2 8 2 = (st1 : Int) from (by rw [wh124]; exact (show h117.2.2 8 2 = (st1 : Int) from (by rw [wh117]; exact (wr_ne (ne_ty (Ih21.atS rfl) v34 (by intro e; cases e))).trans v31)))))))
                    have e145 : h138.2.2 8 3 = (rd1 : Int) := (by rw [wh138]; exact (wr_ne (ne_ty (I129.atS rfl) d133 (by intro e; cases e))).trans (show h131.2.2 8 3 = (rd1 : Int) from (by rw [wh131]; exact (show h124.2.2 8 3 = (rd1 : Int) from (by rw [wh124]; exact (show h117.2.2 8 3 = (rd1 : Int) from (by rw [wh117]; exact (wr_ne (ne_ty (Ih21.atS rfl) v34 (by intro e; cases e))).trans v32)))))))
                    have e146 : h138.2.2 8 4 = (rw1 : Int) := (by rw [wh138]; exact (wr_ne (ne_ty (I129.atS rfl) d133 (by intro e; cases e))).trans (show h131.2.2 8 4 = (rw1 : Int) from (by rw [wh131]; exact (show h124.2.2 8 4 = (rw1 : Int) from (by rw [wh124]; exact (show h117.2.2 8 4 = (rw1 : Int) from (by rw [wh117]; exact (wr_ne (ne_ty (Ih21.atS rfl) v34 (by intro e; cases e))).trans v33)))))))
                    have v147 : BkR h138 8 60 nx1 st1 rd1 rw1 nn1 ns1 nr1 nw1 := ⟨⟨e143, e144, e145, e146⟩, ⟨d139, d140, d141, d142⟩, w1, w2, w3, w4⟩
                    have e148 : h138.2.2 8 5 = (x10 + 1) := (by rw [wh138]; exact (wr_ne (ne_ty (I129.atS rfl) d133 (by intro e; cases e))).trans (show h131.2.2 8 5 = (x10 + 1) from (by rw [wh131]; exact wr_eq)))
                    have es : h138.2.2 st1 (Int.toNat (x10 + 1)) = y19 := by rw [wh138]; exact wr_eq
                    have vv := v147.vals
                    rw [e148] at vv
                    rw [es] at vv
                    have bw : BkW h138 8 60 := ⟨_, _, _, _, _, _, _, _, v147, k1, k2, k3, by rw [e148]; omega, by rw [e148, es]; omega, by rw [e148, es]; omega, by rw [e148]; omega⟩
                    have e1Z : h138.1 = h7.1 := by rw [wh138, wh131, wh124, wh117]; exact c24
                    have en := EN.fin (d := g - f) p8_0 p8_1 bw (by omega) (by omega) (by omega) e1Z
                    refine to_aload_n (dat dk_X0_enter 103 rfl) rfl (to_getIv (y := (x10 + 1)) e148 g_c1_28 (dat dk_X0_enter 104 rfl) (I136.atS rfl) (to_iconst (dat dk_X0_enter 105 rfl) (to_isub (dat dk_X0_enter 106 rfl) ?_)))
                    exact to_iret rfl (dat dk_X0_enter 107 rfl) (ri_mka (by omega) ⟨I136, f137, en⟩)
                  · skip
                    refine to_aload_n (dat dk_X0_enter 61 rfl) rfl (to_getR rw1 g_c1_24 (dat dk_X0_enter 62 rfl) (Ih21.atS rfl) v33 (to_iload (dat dk_X0_enter 63 rfl) rfl (to_aload_np (dat dk_X0_enter 64 rfl) (Ih21.1.2.2.2 _ _ (Ih21.bty ht)).1 rfl (to_iload (dat dk_X0_enter 65 rfl) rfl ?_))))
                    obtain ⟨x149, ex149⟩ : ∃ y : Int, h21.2.2 t 1 = y := ⟨_, rfl⟩
                    have rx149 := Ih21.blen ht
                    rw [ex149] at rx149
                    refine to_cI ca_c1_51 (dat dk_X0_enter 66 rfl) (ct_X1_byteAt l h21 Ih21 t ht y20 ry20) rfl ⟨_, _, rfl, (Ih21.bty ht)⟩ rfl (fun x150 h151 rx150 p152 => ?_)
                    obtain ⟨rfl, p152_0⟩ := p152
                    refine to_i2b (dat dk_X0_enter 67 rfl) (to_bastw (dat dk_X0_enter 68 rfl) v37 rfl (Ih21.lenN v37) (by omega) ?_)
                    intro h155 wh155
                    have I153 : Inv h155 := by rw [wh155]; exact Ih21.putA (j := (Int.toNat y19)) (x := (b8 (b8 x150))) v37 (by decide +kernel) rfl (show -128 ≤ (b8 (b8 x150)) ∧ (b8 (b8 x150)) ≤ 127 by have := b8_in (b8 x150); omega)
                    have f154 : Fr [999, 8, 9, 10, 11, 13, 356, 316, 376] h h155 := by rw [wh155]; exact Fr.putA (j := (Int.toNat y19)) (x := (b8 (b8 x150))) fh21 Ih21 v37 (by decide +kernel)
                    have d156 : h155.2.1 nx1 = some (.inl (460, nn1)) := by rw [wh155]; exact v34
                    have d157 : h155.2.1 st1 = some (.inl (60, ns1)) := by rw [wh155]; exact v35
                    have d158 : h155.2.1 rd1 = some (.inl (560, nr1)) := by rw [wh155]; exact v36
                    have d159 : h155.2.1 rw1 = some (.inl (661, nw1)) := by rw [wh155]; exact v37
                    refine to_iinc (L' := [(0, .inr (.inr 8)), (1, .inr (.inr t)), (2, .inl f), (3, .inl g), (4, .inl x2), (5, .inl x11), (6, .inl (y19 + 1)), (7, .inl y20)]) (dat dk_X0_enter 69 rfl) rfl (by decide) rfl (to_iinc (L' := [(0, .inr (.inr 8)), (1, .inr (.inr t)), (2, .inl f), (3, .inl g), (4, .inl x2), (5, .inl x11), (6, .inl (y19 + 1)), (7, .inl (y20 + 1))]) (dat dk_X0_enter 70 rfl) rfl (by decide) rfl (to_goto (dat dk_X0_enter 71 rfl) rfl ?_))
                    have e160 : h155.2.2 8 1 = (nx1 : Int) := (by rw [wh155]; exact (wr_ne (ne_ty (Ih21.atS rfl) v37 (by intro e; cases e))).trans v30)
                    have e161 : h155.2.2 8 2 = (st1 : Int) := (by rw [wh155]; exact (wr_ne (ne_ty (Ih21.atS rfl) v37 (by intro e; cases e))).trans v31)
                    have e162 : h155.2.2 8 3 = (rd1 : Int) := (by rw [wh155]; exact (wr_ne (ne_ty (Ih21.atS rfl) v37 (by intro e; cases e))).trans v32)
                    have e163 : h155.2.2 8 4 = (rw1 : Int) := (by rw [wh155]; exact (wr_ne (ne_ty (Ih21.atS rfl) v37 (by intro e; cases e))).trans v33)
                    have e164 : h155.2.2 8 5 = x10 := (by rw [wh155]; exact (wr_ne (ne_ty (Ih21.atS rfl) v37 (by intro e; cases e))).trans c23)
                    exact ihn27 (n27 - 1) (by omega) (y19 + 1) (y20 + 1) h155 (by omega) (by omega) I153 f154 ⟨⟨e160, e161, e162, e163⟩, ⟨d156, d157, d158, d159⟩, w1, w2, w3, w4⟩ (show h155.2.2 8 5 = x10 by omega) (by rw [wh155]; exact c24) (show S0 ≤ (y19 + 1) ∧ (y19 + 1) ≤ S0 + ((y20 + 1) - f) by omega) (show f ≤ (y20 + 1) ∧ (y20 + 1) ≤ g by omega) (show g - (y20 + 1) ≤ ((n27 - 1 : Nat) : Int) by omega)
            exact lp89_n27 (g - f).toNat x18 f h7 rx18 hf Ih7 f9 ⟨⟨a1, a2, a3, a4⟩, ⟨u1, u2, u3, u4⟩, w1, w2, w3, w4⟩ (show h7.2.2 8 5 = x10 by omega) rfl (show S0 ≤ x18 ∧ x18 ≤ S0 + (f - f) by omega) (show f ≤ f ∧ f ≤ g by omega) (by omega)
          · skip
            refine to_iconst (dat dk_X0_enter 41 rfl) ?_
            exact to_iret rfl (dat dk_X0_enter 42 rfl) (ri_mka (by decide) ⟨Ih7, f9, (EN.mr p8_0 p8_1 (by omega))⟩)
  · skip
    refine to_iload (dat dk_X0_enter 9 rfl) rfl ?_
    exact to_iret rfl (dat dk_X0_enter 10 rfl) (ri_mka rx2 ⟨hI, (Fr.rf _ _), (EN.rf g1 (by omega))⟩)
abbrev Q_X0_enter_v14 (h : Hp) (t : Nat) (f : Int) (g : Int) : Option V → Hp → Nat → Nat → Prop := RIa (fun x H mc ms => Inv H ∧ Fr [999, 14, 15, 16, 17, 19, 357, 317, 377] h H ∧ (EN h H 14 70 mc ms (g - f)))
set_option maxRecDepth 100000 in
theorem ct_X0_enter_v14 (l : Launch) (h : Hp) (hI : Inv h) (t : Nat) (ht : isB t = true) (f : Int) (hf : I32 f) (g : Int) (hg : I32 g) (g0 : 0 ≤ f ∧ f ≤ g ∧ g - f ≤ 60 ∧ g ≤ 1300) (g1 : BkW h 14 70) (g2 : WB h 14 ≤ 10000000) (g3 : h.2.2 14 5 ≤ 4000000) (g4 : h.1 + 4 ≤ 900000) : Ct l D_X0_enter 3 126 [.inr (.inr 14), .inr (.inr t), .inl f, .inl g] h (Q_X0_enter_v14 h t f g) := by
  refine ct_of pn_X0_enter (Nat.le_of_ble_eq_true rfl) ?_
  show To l E_X0_enter (0, [(0, .inr (.inr 14)), (1, .inr (.inr t)), (2, .inl f), (3, .inl g)], [], h, 0, 0) _
  obtain ⟨x1, ex1⟩ : ∃ y : Int, h.2.2 14 5 = y := ⟨_, rfl⟩
  have rx1 := hI.atR (a := 14) (j := 5) rfl
  rw [ex1] at rx1
  refine to_aload_n (dat dk_X0_enter 0 rfl) rfl (to_aload_np (dat dk_X0_enter 1 rfl) (hI.1.2.2.2 _ _ (hI.bty ht)).1 rfl (to_iload_n (dat dk_X0_enter 2 rfl) rfl (to_iload_n (dat dk_X0_enter 3 rfl) rfl ?_)))
  refine to_cI ca_c1_44 (dat dk_X0_enter 4 rfl) (ct_X0_find l h hI 14 70 rfl t ht f hf g hg) rfl ⟨_, _, rfl, (hI.atS rfl)⟩ rfl (fun x2 h3 rx2 p4 => ?_)
  obtain ⟨rfl, p4_0⟩ := p4
  refine to_istore (L' := [(0, .inr (.inr 14)), (1, .inr (.inr t)), (2, .inl f), (3, .inl g), (4, .inl x2)]) (dat dk_X0_enter 5 rfl) (by decide) rfl (to_iload (dat dk_X0_enter 6 rfl) rfl (to_iconst (dat dk_X0_enter 7 rfl) ?_))
  refine to_ieq 18 (dat dk_X0_enter 8 rfl) rfl rx2 (by decide) (fun c5 => ?_) (fun c5 => ?_)
  · skip
    refine to_aload_n (dat dk_X0_enter 11 rfl) rfl (to_iload_n (dat dk_X0_enter 12 rfl) rfl (to_iload_n (dat dk_X0_enter 13 rfl) rfl ?_))
    refine to_cVa ca_c1_47 (dat dk_X0_enter 14 rfl) (ct_X0_makeRoom l h hI 14 70 rfl f hf g hg (show 0 ≤ f ∧ f ≤ g ∧ g - f ≤ 60 ∧ g ≤ 1300 by omega) g1 (show WB h 14 ≤ 10000000 by omega) (show h.2.2 14 5 ≤ 4000000 by omega) (show h.1 + 4 ≤ 900000 by omega)) rfl ⟨_, _, rfl, (hI.atS rfl)⟩ rfl (fun h7 mcx6 msx6 p8 => ?_)
    obtain ⟨Ih7, fh7, p8_0, p8_1⟩ := p8
    have f9 : Fr [999, 14, 15, 16, 17, 19, 357, 317, 377] h h7 := Fr.sub (Fr.rf _ _) fh7 rfl
    obtain ⟨kb1, mrW, mrE, mrP, mrZ⟩ := id p8_0
    obtain ⟨nx1, st1, rd1, rw1, nn1, ns1, nr1, nw1, r1, kn1⟩ := id kb1
    have v1 := r1.vals
    obtain ⟨⟨a1, a2, a3, a4⟩, ⟨u1, u2, u3, u4⟩, w1, w2, w3, w4⟩ := id r1
    obtain ⟨k1, k2, k3, k4, k5, k6, k7⟩ := id kn1
    have lu1 := Ih7.lenM u1
    have lu2 := Ih7.lenM u2
    have lu3 := Ih7.lenM u3
    have lu4 := Ih7.lenM u4
    obtain ⟨x10, ex10⟩ : ∃ y : Int, h7.2.2 14 5 = y := ⟨_, rfl⟩
    have rx10 := Ih7.atR (a := 14) (j := 5) rfl
    rw [ex10] at rx10
    rw [ex10] at k4 k5 k6 k7 v1
    obtain ⟨S0, eS0⟩ : ∃ y : Int, h7.2.2 st1 (Int.toNat x10) = y := ⟨_, rfl⟩
    have v1W := v1.2
    rw [eS0] at k5 k6 v1W
    have dd : 0 ≤ g - f := by omega
    refine to_aload_np (dat dk_X0_enter 15 rfl) (Ih7.1.2.2.2 _ _ (Ih7.bty ht)).1 rfl (to_iload_n (dat dk_X0_enter 16 rfl) rfl (to_iload_n (dat dk_X0_enter 17 rfl) rfl ?_))
    refine to_cI ca_c1_36 (dat dk_X0_enter 18 rfl) (ct_X0_slotOf l h7 Ih7 t ht f hf g hg) rfl trivial rfl (fun x11 h12 rx11 p13 => ?_)
    obtain ⟨rfl, p13_0⟩ := p13
    refine to_istore (L' := [(0, .inr (.inr 14)), (1, .inr (.inr t)), (2, .inl f), (3, .inl g), (4, .inl x2), (5, .inl x11)]) (dat dk_X0_enter 19 rfl) (by decide) rfl (to_iload (dat dk_X0_enter 20 rfl) rfl ?_)
    refine to_iflt 73 (dat dk_X0_enter 21 rfl) rfl rx11 (fun c14 => ?_) (fun c14 => ?_)
    · skip
      refine to_iconst (dat dk_X0_enter 41 rfl) ?_
      exact to_iret rfl (dat dk_X0_enter 42 rfl) (ri_mka (by decide) ⟨Ih7, f9, (EN.mr p8_0 p8_1 (by omega))⟩)
    · skip
      refine to_iload (dat dk_X0_enter 22 rfl) rfl (to_aload_n (dat dk_X0_enter 23 rfl) rfl (to_getR 15 g_c1_11 (dat dk_X0_enter 24 rfl) (Ih7.atS rfl) (Ih7.atE rfl) (to_alen (dat dk_X0_enter 25 rfl) (Ih7.atS rfl) (by decide) ?_)))
      refine to_ige 73 (dat dk_X0_enter 26 rfl) rfl rx11 (by decide) (fun c15 => ?_) (fun c15 => ?_)
      · skip
        refine to_iconst (dat dk_X0_enter 41 rfl) ?_
        exact to_iret rfl (dat dk_X0_enter 42 rfl) (ri_mka (by decide) ⟨Ih7, f9, (EN.mr p8_0 p8_1 (by omega))⟩)
      · skip
        refine to_aload_n (dat dk_X0_enter 27 rfl) rfl (to_getIv (y := x10) ex10 g_c1_28 (dat dk_X0_enter 28 rfl) (Ih7.atS rfl) (to_iconst (dat dk_X0_enter 29 rfl) (to_iadd (dat dk_X0_enter 30 rfl) (to_aload_n (dat dk_X0_enter 31 rfl) rfl (to_getR st1 g_c1_18 (dat dk_X0_enter 32 rfl) (Ih7.atS rfl) a2 (to_alen (dat dk_X0_enter 33 rfl) u2 (by decide) ?_))))))
        refine to_ige 73 (dat dk_X0_enter 34 rfl) rfl (by omega) (by omega) (fun c16 => ?_) (fun c16 => ?_)
        · skip
          refine to_iconst (dat dk_X0_enter 41 rfl) ?_
          exact to_iret rfl (dat dk_X0_enter 42 rfl) (ri_mka (by decide) ⟨Ih7, f9, (EN.mr p8_0 p8_1 (by omega))⟩)
        · skip
          refine to_aload_n (dat dk_X0_enter 35 rfl) rfl (to_getIv (y := x10) ex10 g_c1_28 (dat dk_X0_enter 36 rfl) (Ih7.atS rfl) (to_aload_n (dat dk_X0_enter 37 rfl) rfl (to_getR nx1 g_c1_15 (dat dk_X0_enter 38 rfl) (Ih7.atS rfl) a1 (to_alen (dat dk_X0_enter 39 rfl) u1 (by decide) ?_))))
          refine to_ilt 75 (dat dk_X0_enter 40 rfl) rfl (by omega) (by omega) (fun c17 => ?_) (fun c17 => ?_)
          · skip
            refine to_aload_n (dat dk_X0_enter 43 rfl) rfl (to_getR st1 g_c1_18 (dat dk_X0_enter 44 rfl) (Ih7.atS rfl) a2 (to_aload_n (dat dk_X0_enter 45 rfl) rfl (to_getIv (y := x10) ex10 g_c1_28 (dat dk_X0_enter 46 rfl) (Ih7.atS rfl) ?_)))
            obtain ⟨x18, ex18⟩ : ∃ y : Int, h7.2.2 st1 (Int.toNat x10) = y := ⟨_, rfl⟩
            have rx18 := Ih7.con0 u2 rfl (Int.toNat x10)
            rw [ex18] at rx18
            refine to_ialdv ex18 (dat dk_X0_enter 47 rfl) u2 rfl (Ih7.lenN u2) (by omega) (to_istore (L' := [(0, .inr (.inr 14)), (1, .inr (.inr t)), (2, .inl f), (3, .inl g), (4, .inl x2), (5, .inl x11), (6, .inl x18)]) (dat dk_X0_enter 48 rfl) (by decide) rfl (to_iload_n (dat dk_X0_enter 49 rfl) rfl (to_istore (L' := [(0, .inr (.inr 14)), (1, .inr (.inr t)), (2, .inl f), (3, .inl g), (4, .inl x2), (5, .inl x11), (6, .inl x18), (7, .inl f)]) (dat dk_X0_enter 50 rfl) (by decide) rfl ?_)))
            have lp89_n27 : ∀ (n27 : Nat) (y19 : Int) (y20 : Int) (h21 : Hp), (I32 y19) → (I32 y20) → (Inv h21) → (Fr [999, 14, 15, 16, 17, 19, 357, 317, 377] h h21) → (BkR h21 14 70 nx1 st1 rd1 rw1 nn1 ns1 nr1 nw1) → (h21.2.2 14 5 = x10) → (h21.1 = h7.1) → (S0 ≤ y19 ∧ y19 ≤ S0 + (y20 - f)) → (f ≤ y20 ∧ y20 ≤ g) → (g - y20 ≤ (n27 : Int)) → To l E_X0_enter (89, [(0, .inr (.inr 14)), (1, .inr (.inr t)), (2, .inl f), (3, .inl g), (4, .inl x2), (5, .inl x11), (6, .inl y19), (7, .inl y20)], [], h21, (0 + mcx6), (0 + msx6)) (Q_X0_enter_v14 h t f g) := by
              intro n27
              induction n27 using Nat.strongRecOn with
              | _ n27 ihn27 =>
              intro y19 y20 h21 ry19 ry20 Ih21 fh21 c22 c23 c24 c25 c26 c28
              obtain ⟨x29, ex29⟩ : ∃ y : Int, h21.2.2 14 5 = y := ⟨_, rfl⟩
              have rx29 := Ih21.atR (a := 14) (j := 5) rfl
              rw [ex29] at rx29
              refine to_iload (dat dk_X0_enter 51 rfl) rfl ?_
              obtain ⟨⟨v30, v31, v32, v33⟩, ⟨v34, v35, v36, v37⟩, -⟩ := id c22
              refine to_iload_n (dat dk_X0_enter 52 rfl) rfl ?_
              refine to_ige 133 (dat dk_X0_enter 53 rfl) rfl ry20 hg (fun c38 => ?_) (fun c38 => ?_)
              · skip
                refine to_aload_n (dat dk_X0_enter 72 rfl) rfl (to_getR nx1 g_c1_15 (dat dk_X0_enter 73 rfl) (Ih21.atS rfl) v30 (to_aload_n (dat dk_X0_enter 74 rfl) rfl (to_getIv (y := x10) c23 g_c1_28 (dat dk_X0_enter 75 rfl) (Ih21.atS rfl) (to_aload_n (dat dk_X0_enter 76 rfl) rfl (to_getR 15 g_c1_11 (dat dk_X0_enter 77 rfl) (Ih21.atS rfl) (Ih21.atE rfl) (to_iload (dat dk_X0_enter 78 rfl) rfl ?_))))))
                obtain ⟨x39, ex39⟩ : ∃ y : Int, h21.2.2 15 (Int.toNat x11) = y := ⟨_, rfl⟩
                have rx39 := Ih21.atR (a := 15) (j := Int.toNat x11) rfl
                rw [ex39] at rx39
                refine to_ialdv ex39 (dat dk_X0_enter 79 rfl) (Ih21.atS rfl) rfl (by decide) (by omega) (to_iconst (dat dk_X0_enter 80 rfl) ?_)
                refine to_isubA (dat dk_X0_enter 81 rfl) (fun x40 rx40 => ?_)
                refine to_iastw (dat dk_X0_enter 82 rfl) v34 rfl (Ih21.lenN v34) (by omega) ?_
                intro h43 wh43
                have I41 : Inv h43 := by rw [wh43]; exact Ih21.putA (j := (Int.toNat x10)) (x := x40) v34 (by decide +kernel) rfl rx40
                have f42 : Fr [999, 14, 15, 16, 17, 19, 357, 317, 377] h h43 := by rw [wh43]; exact Fr.putA (j := (Int.toNat x10)) (x := x40) fh21 Ih21 v34 (by decide +kernel)
                have d44 : h43.2.1 nx1 = some (.inl (470, nn1)) := by rw [wh43]; exact v34
                have d45 : h43.2.1 st1 = some (.inl (70, ns1)) := by rw [wh43]; exact v35
                have d46 : h43.2.1 rd1 = some (.inl (570, nr1)) := by rw [wh43]; exact v36
                have d47 : h43.2.1 rw1 = some (.inl (671, nw1)) := by rw [wh43]; exact v37
                refine to_aload_n (dat dk_X0_enter 83 rfl) rfl (to_getR 15 g_c1_11 (dat dk_X0_enter 84 rfl) (I41.atS rfl) (I41.atE rfl) (to_iload (dat dk_X0_enter 85 rfl) rfl (to_aload_n (dat dk_X0_enter 86 rfl) rfl (to_getIv (y := x10) (by rw [wh43]; exact (wr_ne (ne_ty (Ih21.atS rfl) v34 (by intro e; cases e))).trans c23) g_c1_28 (dat dk_X0_enter 87 rfl) (I41.atS rfl) (to_iconst (dat dk_X0_enter 88 rfl) (to_iadd (dat dk_X0_enter 89 rfl) (to_iastw (dat dk_X0_enter 90 rfl) (I41.atS rfl) rfl (by decide) (by omega) ?_)))))))
                intro h50 wh50
                have I48 : Inv h50 := by rw [wh50]; exact I41.put (a := 15) (j := (Int.toNat x11)) (x := (x10 + 1)) (-2147483648) (2147483647) rfl rfl (show (-2147483648 : Int) ≤ (x10 + 1) ∧ (x10 + 1) ≤ 2147483647 by omega)
                have f49 : Fr [999, 14, 15, 16, 17, 19, 357, 317, 377] h h50 := by rw [wh50]; exact Fr.putF (a := 15) (j := (Int.toNat x11)) (x := (x10 + 1)) f42 rfl
                have d51 : h50.2.1 nx1 = some (.inl (470, nn1)) := by rw [wh50]; exact d44
                have d52 : h50.2.1 st1 = some (.inl (70, ns1)) := by rw [wh50]; exact d45
                have d53 : h50.2.1 rd1 = some (.inl (570, nr1)) := by rw [wh50]; exact d46
                have d54 : h50.2.1 rw1 = some (.inl (671, nw1)) := by rw [wh50]; exact d47
                refine to_aload_n (dat dk_X0_enter 91 rfl) rfl (to_dup (dat dk_X0_enter 92 rfl) rfl (to_getIv (y := x10) (by rw [wh50]; exact (show h43.2.2 14 5 = x10 from (by rw [wh43]; exact (wr_ne (ne_ty (Ih21.atS rfl) v34 (by intro e; cases e))).trans c23))) g_c1_28 (dat dk_X0_enter 93 rfl) (I48.atS rfl) (to_iconst (dat dk_X0_enter 94 rfl) (to_iadd (dat dk_X0_enter 95 rfl) (to_putIw p_c1_28 (dat dk_X0_enter 96 rfl) (I48.atS rfl) ?_)))))
                intro h57 wh57
                have I55 : Inv h57 := by rw [wh57]; exact I48.put (a := 14) (j := 5) (x := (x10 + 1)) (0) (10000000) rfl rfl (show (0 : Int) ≤ (x10 + 1) ∧ (x10 + 1) ≤ 10000000 by omega)
                have f56 : Fr [999, 14, 15, 16, 17, 19, 357, 317, 377] h h57 := by rw [wh57]; exact Fr.putF (a := 14) (j := 5) (x := (x10 + 1)) f49 rfl
                have d58 : h57.2.1 nx1 = some (.inl (470, nn1)) := by rw [wh57]; exact d51
                have d59 : h57.2.1 st1 = some (.inl (70, ns1)) := by rw [wh57]; exact d52
                have d60 : h57.2.1 rd1 = some (.inl (570, nr1)) := by rw [wh57]; exact d53
                have d61 : h57.2.1 rw1 = some (.inl (671, nw1)) := by rw [wh57]; exact d54
                refine to_aload_n (dat dk_X0_enter 97 rfl) rfl (to_getR st1 g_c1_18 (dat dk_X0_enter 98 rfl) (I55.atS rfl) (by rw [wh57]; exact (show h50.2.2 14 2 = (st1 : Int) from (by rw [wh50]; exact (show h43.2.2 14 2 = (st1 : Int) from (by rw [wh43]; exact (wr_ne (ne_ty (Ih21.atS rfl) v34 (by intro e; cases e))).trans v31))))) (to_aload_n (dat dk_X0_enter 99 rfl) rfl (to_getIv (y := (x10 + 1)) (by rw [wh57]; exact wr_eq) g_c1_28 (dat dk_X0_enter 100 rfl) (I55.atS rfl) (to_iload (dat dk_X0_enter 101 rfl) rfl (to_iastw (dat dk_X0_enter 102 rfl) d59 rfl (I55.lenN d59) (by omega) ?_)))))
                intro h64 wh64
                have I62 : Inv h64 := by rw [wh64]; exact I55.putA (j := (Int.toNat (x10 + 1))) (x := y19) d59 (by decide +kernel) rfl ry19
                have f63 : Fr [999, 14, 15, 16, 17, 19, 357, 317, 377] h h64 := by rw [wh64]; exact Fr.putA (j := (Int.toNat (x10 + 1))) (x := y19) f56 I55 d59 (by decide +kernel)
                have d65 : h64.2.1 nx1 = some (.inl (470, nn1)) := by rw [wh64]; exact d58
                have d66 : h64.2.1 st1 = some (.inl (70, ns1)) := by rw [wh64]; exact d59
                have d67 : h64.2.1 rd1 = some (.inl (570, nr1)) := by rw [wh64]; exact d60
                have d68 : h64.2.1 rw1 = some (.inl (671, nw1)) := by rw [wh64]; exact d61
                have e69 : h64.2.2 14 1 = (nx1 : Int) := (by rw [wh64]; exact (wr_ne (ne_ty (I55.atS rfl) d59 (by intro e; cases e))).trans (show h57.2.2 14 1 = (nx1 : Int) from (by rw [wh57]; exact (show h50.2.2 14 1 = (nx1 : Int) from (by rw [wh50]; exact (show h43.2.2 14 1 = (nx1 : Int) from (by rw [wh43]; exact (wr_ne (ne_ty (Ih21.atS rfl) v34 (by intro e; cases e))).trans v30)))))))
                have e70 : h64.2.2 14 2 = (st1 : Int) := (by rw [wh64]; exact (wr_ne (ne_ty (I55.atS rfl) d59 (by intro e; cases e))).trans (show h57.2.2 14 2 = (st1 : Int) from (by rw [wh57]; exact (show h50.2.2 14 2 = (st1 : Int) from (by rw [wh50]; exact (show h43.2.2 14 2 = (st1 : Int) from (by rw [wh43]; exact (wr_ne (ne_ty (Ih21.atS rfl) v34 (by intro e; cases e))).trans v31)))))))
                have e71 : h64.2.2 14 3 = (rd1 : Int) := (by rw [wh64]; exact (wr_ne (ne_ty (I55.atS rfl) d59 (by intro e; cases e))).trans (show h57.2.2 14 3 = (rd1 : Int) from (by rw [wh57]; exact (show h50.2.2 14 3 = (rd1 : Int) from (by rw [wh50]; exact (show h43.2.2 14 3 = (rd1 : Int) from (by rw [wh43]; exact (wr_ne (ne_ty (Ih21.atS rfl) v34 (by intro e; cases e))).trans v32)))))))
                have e72 : h64.2.2 14 4 = (rw1 : Int) := (by rw [wh64]; exact (wr_ne (ne_ty (I55.atS rfl) d59 (by intro e; cases e))).trans (show h57.2.2 14 4 = (rw1 : Int) from (by rw [wh57]; exact (show h50.2.2 14 4 = (rw1 : Int) from (by rw [wh50]; exact (show h43.2.2 14 4 = (rw1 : Int) from (by rw [wh43]; exact (wr_ne (ne_ty (Ih21.atS rfl) v34 (by intro e; cases e))).trans v33)))))))
                have v73 : BkR h64 14 70 nx1 st1 rd1 rw1 nn1 ns1 nr1 nw1 := ⟨⟨e69, e70, e71, e72⟩, ⟨d65, d66, d67, d68⟩, w1, w2, w3, w4⟩
                have e74 : h64.2.2 14 5 = (x10 + 1) := (by rw [wh64]; exact (wr_ne (ne_ty (I55.atS rfl) d59 (by intro e; cases e))).trans (show h57.2.2 14 5 = (x10 + 1) from (by rw [wh57]; exact wr_eq)))
                have es : h64.2.2 st1 (Int.toNat (x10 + 1)) = y19 := by rw [wh64]; exact wr_eq
                have vv := v73.vals
                rw [e74] at vv
                rw [es] at vv
                have bw : BkW h64 14 70 := ⟨_, _, _, _, _, _, _, _, v73, k1, k2, k3, by rw [e74]; omega, by rw [e74, es]; omega, by rw [e74, es]; omega, by rw [e74]; omega⟩
                have e1Z : h64.1 = h7.1 := by rw [wh64, wh57, wh50, wh43]; exact c24
                have en := EN.fin (d := g - f) p8_0 p8_1 bw (by omega) (by omega) (by omega) e1Z
                refine to_aload_n (dat dk_X0_enter 103 rfl) rfl (to_getIv (y := (x10 + 1)) e74 g_c1_28 (dat dk_X0_enter 104 rfl) (I62.atS rfl) (to_iconst (dat dk_X0_enter 105 rfl) (to_isub (dat dk_X0_enter 106 rfl) ?_)))
                exact to_iret rfl (dat dk_X0_enter 107 rfl) (ri_mka (by omega) ⟨I62, f63, en⟩)
              · skip
                refine to_iload (dat dk_X0_enter 54 rfl) rfl ?_
                refine to_iflt 133 (dat dk_X0_enter 55 rfl) rfl ry19 (fun c75 => ?_) (fun c75 => ?_)
                · skip
                  refine to_aload_n (dat dk_X0_enter 72 rfl) rfl (to_getR nx1 g_c1_15 (dat dk_X0_enter 73 rfl) (Ih21.atS rfl) v30 (to_aload_n (dat dk_X0_enter 74 rfl) rfl (to_getIv (y := x10) c23 g_c1_28 (dat dk_X0_enter 75 rfl) (Ih21.atS rfl) (to_aload_n (dat dk_X0_enter 76 rfl) rfl (to_getR 15 g_c1_11 (dat dk_X0_enter 77 rfl) (Ih21.atS rfl) (Ih21.atE rfl) (to_iload (dat dk_X0_enter 78 rfl) rfl ?_))))))
                  obtain ⟨x76, ex76⟩ : ∃ y : Int, h21.2.2 15 (Int.toNat x11) = y := ⟨_, rfl⟩
                  have rx76 := Ih21.atR (a := 15) (j := Int.toNat x11) rfl
                  rw [ex76] at rx76
                  refine to_ialdv ex76 (dat dk_X0_enter 79 rfl) (Ih21.atS rfl) rfl (by decide) (by omega) (to_iconst (dat dk_X0_enter 80 rfl) ?_)
                  refine to_isubA (dat dk_X0_enter 81 rfl) (fun x77 rx77 => ?_)
                  refine to_iastw (dat dk_X0_enter 82 rfl) v34 rfl (Ih21.lenN v34) (by omega) ?_
                  intro h80 wh80
                  have I78 : Inv h80 := by rw [wh80]; exact Ih21.putA (j := (Int.toNat x10)) (x := x77) v34 (by decide +kernel) rfl rx77
                  have f79 : Fr [999, 14, 15, 16, 17, 19, 357, 317, 377] h h80 := by rw [wh80]; exact Fr.putA (j := (Int.toNat x10)) (x := x77) fh21 Ih21 v34 (by decide +kernel)
                  have d81 : h80.2.1 nx1 = some (.inl (470, nn1)) := by rw [wh80]; exact v34
                  have d82 : h80.2.1 st1 = some (.inl (70, ns1)) := by rw [wh80]; exact v35
                  have d83 : h80.2.1 rd1 = some (.inl (570, nr1)) := by rw [wh80]; exact v36
                  have d84 : h80.2.1 rw1 = some (.inl (671, nw1)) := by rw [wh80]; exact v37
                  refine to_aload_n (dat dk_X0_enter 83 rfl) rfl (to_getR 15 g_c1_11 (dat dk_X0_enter 84 rfl) (I78.atS rfl) (I78.atE rfl) (to_iload (dat dk_X0_enter 85 rfl) rfl (to_aload_n (dat dk_X0_enter 86 rfl) rfl (to_getIv (y := x10) (by rw [wh80]; exact (wr_ne (ne_ty (Ih21.atS rfl) v34 (by intro e; cases e))).trans c23) g_c1_28 (dat dk_X0_enter 87 rfl) (I78.atS rfl) (to_iconst (dat dk_X0_enter 88 rfl) (to_iadd (dat dk_X0_enter 89 rfl) (to_iastw (dat dk_X0_enter 90 rfl) (I78.atS rfl) rfl (by decide) (by omega) ?_)))))))
                  intro h87 wh87
                  have I85 : Inv h87 := by rw [wh87]; exact I78.put (a := 15) (j := (Int.toNat x11)) (x := (x10 + 1)) (-2147483648) (2147483647) rfl rfl (show (-2147483648 : Int) ≤ (x10 + 1) ∧ (x10 + 1) ≤ 2147483647 by omega)
                  have f86 : Fr [999, 14, 15, 16, 17, 19, 357, 317, 377] h h87 := by rw [wh87]; exact Fr.putF (a := 15) (j := (Int.toNat x11)) (x := (x10 + 1)) f79 rfl
                  have d88 : h87.2.1 nx1 = some (.inl (470, nn1)) := by rw [wh87]; exact d81
                  have d89 : h87.2.1 st1 = some (.inl (70, ns1)) := by rw [wh87]; exact d82
                  have d90 : h87.2.1 rd1 = some (.inl (570, nr1)) := by rw [wh87]; exact d83
                  have d91 : h87.2.1 rw1 = some (.inl (671, nw1)) := by rw [wh87]; exact d84
                  refine to_aload_n (dat dk_X0_enter 91 rfl) rfl (to_dup (dat dk_X0_enter 92 rfl) rfl (to_getIv (y := x10) (by rw [wh87]; exact (show h80.2.2 14 5 = x10 from (by rw [wh80]; exact (wr_ne (ne_ty (Ih21.atS rfl) v34 (by intro e; cases e))).trans c23))) g_c1_28 (dat dk_X0_enter 93 rfl) (I85.atS rfl) (to_iconst (dat dk_X0_enter 94 rfl) (to_iadd (dat dk_X0_enter 95 rfl) (to_putIw p_c1_28 (dat dk_X0_enter 96 rfl) (I85.atS rfl) ?_)))))
                  intro h94 wh94
                  have I92 : Inv h94 := by rw [wh94]; exact I85.put (a := 14) (j := 5) (x := (x10 + 1)) (0) (10000000) rfl rfl (show (0 : Int) ≤ (x10 + 1) ∧ (x10 + 1) ≤ 10000000 by omega)
                  have f93 : Fr [999, 14, 15, 16, 17, 19, 357, 317, 377] h h94 := by rw [wh94]; exact Fr.putF (a := 14) (j := 5) (x := (x10 + 1)) f86 rfl
                  have d95 : h94.2.1 nx1 = some (.inl (470, nn1)) := by rw [wh94]; exact d88
                  have d96 : h94.2.1 st1 = some (.inl (70, ns1)) := by rw [wh94]; exact d89
                  have d97 : h94.2.1 rd1 = some (.inl (570, nr1)) := by rw [wh94]; exact d90
                  have d98 : h94.2.1 rw1 = some (.inl (671, nw1)) := by rw [wh94]; exact d91
                  refine to_aload_n (dat dk_X0_enter 97 rfl) rfl (to_getR st1 g_c1_18 (dat dk_X0_enter 98 rfl) (I92.atS rfl) (by rw [wh94]; exact (show h87.2.2 14 2 = (st1 : Int) from (by rw [wh87]; exact (show h80.2.2 14 2 = (st1 : Int) from (by rw [wh80]; exact (wr_ne (ne_ty (Ih21.atS rfl) v34 (by intro e; cases e))).trans v31))))) (to_aload_n (dat dk_X0_enter 99 rfl) rfl (to_getIv (y := (x10 + 1)) (by rw [wh94]; exact wr_eq) g_c1_28 (dat dk_X0_enter 100 rfl) (I92.atS rfl) (to_iload (dat dk_X0_enter 101 rfl) rfl (to_iastw (dat dk_X0_enter 102 rfl) d96 rfl (I92.lenN d96) (by omega) ?_)))))
                  intro h101 wh101
                  have I99 : Inv h101 := by rw [wh101]; exact I92.putA (j := (Int.toNat (x10 + 1))) (x := y19) d96 (by decide +kernel) rfl ry19
                  have f100 : Fr [999, 14, 15, 16, 17, 19, 357, 317, 377] h h101 := by rw [wh101]; exact Fr.putA (j := (Int.toNat (x10 + 1))) (x := y19) f93 I92 d96 (by decide +kernel)
                  have d102 : h101.2.1 nx1 = some (.inl (470, nn1)) := by rw [wh101]; exact d95
                  have d103 : h101.2.1 st1 = some (.inl (70, ns1)) := by rw [wh101]; exact d96
                  have d104 : h101.2.1 rd1 = some (.inl (570, nr1)) := by rw [wh101]; exact d97
                  have d105 : h101.2.1 rw1 = some (.inl (671, nw1)) := by rw [wh101]; exact d98
                  have e106 : h101.2.2 14 1 = (nx1 : Int) := (by rw [wh101]; exact (wr_ne (ne_ty (I92.atS rfl) d96 (by intro e; cases e))).trans (show h94.2.2 14 1 = (nx1 : Int) from (by rw [wh94]; exact (show h87.2.2 14 1 = (nx1 : Int) from (by rw [wh87]; exact (show h80.2.2 14 1 = (nx1 : Int) from (by rw [wh80]; exact (wr_ne (ne_ty (Ih21.atS rfl) v34 (by intro e; cases e))).trans v30)))))))
                  have e107 : h101.2.2 14 2 = (st1 : Int) := (by rw [wh101]; exact (wr_ne (ne_ty (I92.atS rfl) d96 (by intro e; cases e))).trans (show h94.2.2 14 2 = (st1 : Int) from (by rw [wh94]; exact (show h87.2.2 14 2 = (st1 : Int) from (by rw [wh87]; exact (show h80.2.2 14 2 = (st1 : Int) from (by rw [wh80]; exact (wr_ne (ne_ty (Ih21.atS rfl) v34 (by intro e; cases e))).trans v31)))))))
                  have e108 : h101.2.2 14 3 = (rd1 : Int) := (by rw [wh101]; exact (wr_ne (ne_ty (I92.atS rfl) d96 (by intro e; cases e))).trans (show h94.2.2 14 3 = (rd1 : Int) from (by rw [wh94]; exact (show h87.2.2 14 3 = (rd1 : Int) from (by rw [wh87]; exact (show h80.2.2 14 3 = (rd1 : Int) from (by rw [wh80]; exact (wr_ne (ne_ty (Ih21.atS rfl) v34 (by intro e; cases e))).trans v32)))))))
                  have e109 : h101.2.2 14 4 = (rw1 : Int) := (by rw [wh101]; exact (wr_ne (ne_ty (I92.atS rfl) d96 (by intro e; cases e))).trans (show h94.2.2 14 4 = (rw1 : Int) from (by rw [wh94]; exact (show h87.2.2 14 4 = (rw1 : Int) from (by rw [wh87]; exact (show h80.2.2 14 4 = (rw1 : Int) from (by rw [wh80]; exact (wr_ne (ne_ty (Ih21.atS rfl) v34 (by intro e; cases e))).trans v33)))))))
                  have v110 : BkR h101 14 70 nx1 st1 rd1 rw1 nn1 ns1 nr1 nw1 := ⟨⟨e106, e107, e108, e109⟩, ⟨d102, d103, d104, d105⟩, w1, w2, w3, w4⟩
                  have e111 : h101.2.2 14 5 = (x10 + 1) := (by rw [wh101]; exact (wr_ne (ne_ty (I92.atS rfl) d96 (by intro e; cases e))).trans (show h94.2.2 14 5 = (x10 + 1) from (by rw [wh94]; exact wr_eq)))
                  have es : h101.2.2 st1 (Int.toNat (x10 + 1)) = y19 := by rw [wh101]; exact wr_eq
                  have vv := v110.vals
                  rw [e111] at vv
                  rw [es] at vv
                  have bw : BkW h101 14 70 := ⟨_, _, _, _, _, _, _, _, v110, k1, k2, k3, by rw [e111]; omega, by rw [e111, es]; omega, by rw [e111, es]; omega, by rw [e111]; omega⟩
                  have e1Z : h101.1 = h7.1 := by rw [wh101, wh94, wh87, wh80]; exact c24
                  have en := EN.fin (d := g - f) p8_0 p8_1 bw (by omega) (by omega) (by omega) e1Z
                  refine to_aload_n (dat dk_X0_enter 103 rfl) rfl (to_getIv (y := (x10 + 1)) e111 g_c1_28 (dat dk_X0_enter 104 rfl) (I99.atS rfl) (to_iconst (dat dk_X0_enter 105 rfl) (to_isub (dat dk_X0_enter 106 rfl) ?_)))
                  exact to_iret rfl (dat dk_X0_enter 107 rfl) (ri_mka (by omega) ⟨I99, f100, en⟩)
                · skip
                  refine to_iload (dat dk_X0_enter 56 rfl) rfl (to_aload_n (dat dk_X0_enter 57 rfl) rfl (to_getR rw1 g_c1_24 (dat dk_X0_enter 58 rfl) (Ih21.atS rfl) v33 (to_alen (dat dk_X0_enter 59 rfl) v37 (by decide) ?_)))
                  refine to_ige 133 (dat dk_X0_enter 60 rfl) rfl ry19 (by omega) (fun c112 => ?_) (fun c112 => ?_)
                  · skip
                    refine to_aload_n (dat dk_X0_enter 72 rfl) rfl (to_getR nx1 g_c1_15 (dat dk_X0_enter 73 rfl) (Ih21.atS rfl) v30 (to_aload_n (dat dk_X0_enter 74 rfl) rfl (to_getIv (y := x10) c23 g_c1_28 (dat dk_X0_enter 75 rfl) (Ih21.atS rfl) (to_aload_n (dat dk_X0_enter 76 rfl) rfl (to_getR 15 g_c1_11 (dat dk_X0_enter 77 rfl) (Ih21.atS rfl) (Ih21.atE rfl) (to_iload (dat dk_X0_enter 78 rfl) rfl ?_))))))
                    obtain ⟨x113, ex113⟩ : ∃ y : Int, h21.2.2 15 (Int.toNat x11) = y := ⟨_, rfl⟩
                    have rx113 := Ih21.atR (a := 15) (j := Int.toNat x11) rfl
                    rw [ex113] at rx113
                    refine to_ialdv ex113 (dat dk_X0_enter 79 rfl) (Ih21.atS rfl) rfl (by decide) (by omega) (to_iconst (dat dk_X0_enter 80 rfl) ?_)
                    refine to_isubA (dat dk_X0_enter 81 rfl) (fun x114 rx114 => ?_)
                    refine to_iastw (dat dk_X0_enter 82 rfl) v34 rfl (Ih21.lenN v34) (by omega) ?_
                    intro h117 wh117
                    have I115 : Inv h117 := by rw [wh117]; exact Ih21.putA (j := (Int.toNat x10)) (x := x114) v34 (by decide +kernel) rfl rx114
                    have f116 : Fr [999, 14, 15, 16, 17, 19, 357, 317, 377] h h117 := by rw [wh117]; exact Fr.putA (j := (Int.toNat x10)) (x := x114) fh21 Ih21 v34 (by decide +kernel)
                    have d118 : h117.2.1 nx1 = some (.inl (470, nn1)) := by rw [wh117]; exact v34
                    have d119 : h117.2.1 st1 = some (.inl (70, ns1)) := by rw [wh117]; exact v35
                    have d120 : h117.2.1 rd1 = some (.inl (570, nr1)) := by rw [wh117]; exact v36
                    have d121 : h117.2.1 rw1 = some (.inl (671, nw1)) := by rw [wh117]; exact v37
                    refine to_aload_n (dat dk_X0_enter 83 rfl) rfl (to_getR 15 g_c1_11 (dat dk_X0_enter 84 rfl) (I115.atS rfl) (I115.atE rfl) (to_iload (dat dk_X0_enter 85 rfl) rfl (to_aload_n (dat dk_X0_enter 86 rfl) rfl (to_getIv (y := x10) (by rw [wh117]; exact (wr_ne (ne_ty (Ih21.atS rfl) v34 (by intro e; cases e))).trans c23) g_c1_28 (dat dk_X0_enter 87 rfl) (I115.atS rfl) (to_iconst (dat dk_X0_enter 88 rfl) (to_iadd (dat dk_X0_enter 89 rfl) (to_iastw (dat dk_X0_enter 90 rfl) (I115.atS rfl) rfl (by decide) (by omega) ?_)))))))
                    intro h124 wh124
                    have I122 : Inv h124 := by rw [wh124]; exact I115.put (a := 15) (j := (Int.toNat x11)) (x := (x10 + 1)) (-2147483648) (2147483647) rfl rfl (show (-2147483648 : Int) ≤ (x10 + 1) ∧ (x10 + 1) ≤ 2147483647 by omega)
                    have f123 : Fr [999, 14, 15, 16, 17, 19, 357, 317, 377] h h124 := by rw [wh124]; exact Fr.putF (a := 15) (j := (Int.toNat x11)) (x := (x10 + 1)) f116 rfl
                    have d125 : h124.2.1 nx1 = some (.inl (470, nn1)) := by rw [wh124]; exact d118
                    have d126 : h124.2.1 st1 = some (.inl (70, ns1)) := by rw [wh124]; exact d119
                    have d127 : h124.2.1 rd1 = some (.inl (570, nr1)) := by rw [wh124]; exact d120
                    have d128 : h124.2.1 rw1 = some (.inl (671, nw1)) := by rw [wh124]; exact d121
                    refine to_aload_n (dat dk_X0_enter 91 rfl) rfl (to_dup (dat dk_X0_enter 92 rfl) rfl (to_getIv (y := x10) (by rw [wh124]; exact (show h117.2.2 14 5 = x10 from (by rw [wh117]; exact (wr_ne (ne_ty (Ih21.atS rfl) v34 (by intro e; cases e))).trans c23))) g_c1_28 (dat dk_X0_enter 93 rfl) (I122.atS rfl) (to_iconst (dat dk_X0_enter 94 rfl) (to_iadd (dat dk_X0_enter 95 rfl) (to_putIw p_c1_28 (dat dk_X0_enter 96 rfl) (I122.atS rfl) ?_)))))
                    intro h131 wh131
                    have I129 : Inv h131 := by rw [wh131]; exact I122.put (a := 14) (j := 5) (x := (x10 + 1)) (0) (10000000) rfl rfl (show (0 : Int) ≤ (x10 + 1) ∧ (x10 + 1) ≤ 10000000 by omega)
                    have f130 : Fr [999, 14, 15, 16, 17, 19, 357, 317, 377] h h131 := by rw [wh131]; exact Fr.putF (a := 14) (j := 5) (x := (x10 + 1)) f123 rfl
                    have d132 : h131.2.1 nx1 = some (.inl (470, nn1)) := by rw [wh131]; exact d125
                    have d133 : h131.2.1 st1 = some (.inl (70, ns1)) := by rw [wh131]; exact d126
                    have d134 : h131.2.1 rd1 = some (.inl (570, nr1)) := by rw [wh131]; exact d127
                    have d135 : h131.2.1 rw1 = some (.inl (671, nw1)) := by rw [wh131]; exact d128
                    refine to_aload_n (dat dk_X0_enter 97 rfl) rfl (to_getR st1 g_c1_18 (dat dk_X0_enter 98 rfl) (I129.atS rfl) (by rw [wh131]; exact (show h124.2.2 14 2 = (st1 : Int) from (by rw [wh124]; exact (show h117.2.2 14 2 = (st1 : Int) from (by rw [wh117]; exact (wr_ne (ne_ty (Ih21.atS rfl) v34 (by intro e; cases e))).trans v31))))) (to_aload_n (dat dk_X0_enter 99 rfl) rfl (to_getIv (y := (x10 + 1)) (by rw [wh131]; exact wr_eq) g_c1_28 (dat dk_X0_enter 100 rfl) (I129.atS rfl) (to_iload (dat dk_X0_enter 101 rfl) rfl (to_iastw (dat dk_X0_enter 102 rfl) d133 rfl (I129.lenN d133) (by omega) ?_)))))
                    intro h138 wh138
                    have I136 : Inv h138 := by rw [wh138]; exact I129.putA (j := (Int.toNat (x10 + 1))) (x := y19) d133 (by decide +kernel) rfl ry19
                    have f137 : Fr [999, 14, 15, 16, 17, 19, 357, 317, 377] h h138 := by rw [wh138]; exact Fr.putA (j := (Int.toNat (x10 + 1))) (x := y19) f130 I129 d133 (by decide +kernel)
                    have d139 : h138.2.1 nx1 = some (.inl (470, nn1)) := by rw [wh138]; exact d132
                    have d140 : h138.2.1 st1 = some (.inl (70, ns1)) := by rw [wh138]; exact d133
                    have d141 : h138.2.1 rd1 = some (.inl (570, nr1)) := by rw [wh138]; exact d134
                    have d142 : h138.2.1 rw1 = some (.inl (671, nw1)) := by rw [wh138]; exact d135
                    have e143 : h138.2.2 14 1 = (nx1 : Int) := (by rw [wh138]; exact (wr_ne (ne_ty (I129.atS rfl) d133 (by intro e; cases e))).trans (show h131.2.2 14 1 = (nx1 : Int) from (by rw [wh131]; exact (show h124.2.2 14 1 = (nx1 : Int) from (by rw [wh124]; exact (show h117.2.2 14 1 = (nx1 : Int) from (by rw [wh117]; exact (wr_ne (ne_ty (Ih21.atS rfl) v34 (by intro e; cases e))).trans v30)))))))
                    have e144 : h138.2.2 14 2 = (st1 : Int) := (by rw [wh138]; exact (wr_ne (ne_ty (I129.atS rfl) d133 (by intro e; cases e))).trans (show h131.2.2 14 2 = (st1 : Int) from (by rw [wh131]; exact (show h124.2.2 14 2 = (st1 : Int) from (by rw [wh124]; exact (show h117.2.2 14 2 = (st1 : Int) from (by rw [wh117]; exact (wr_ne (ne_ty (Ih21.atS rfl) v34 (by intro e; cases e))).trans v31)))))))
                    have e145 : h138.2.2 14 3 = (rd1 : Int) := (by rw [wh138]; exact (wr_ne (ne_ty (I129.atS rfl) d133 (by intro e; cases e))).trans (show h131.2.2 14 3 = (rd1 : Int) from (by rw [wh131]; exact (show h124.2.2 14 3 = (rd1 : Int) from (by rw [wh124]; exact (show h117.2.2 14 3 = (rd1 : Int) from (by rw [wh117]; exact (wr_ne (ne_ty (Ih21.atS rfl) v34 (by intro e; cases e))).trans v32)))))))
                    have e146 : h138.2.2 14 4 = (rw1 : Int) := (by rw [wh138]; exact (wr_ne (ne_ty (I129.atS rfl) d133 (by intro e; cases e))).trans (show h131.2.2 14 4 = (rw1 : Int) from (by rw [wh131]; exact (show h124.2.2 14 4 = (rw1 : Int) from (by rw [wh124]; exact (show h117.2.2 14 4 = (rw1 : Int) from (by rw [wh117]; exact (wr_ne (ne_ty (Ih21.atS rfl) v34 (by intro e; cases e))).trans v33)))))))
                    have v147 : BkR h138 14 70 nx1 st1 rd1 rw1 nn1 ns1 nr1 nw1 := ⟨⟨e143, e144, e145, e146⟩, ⟨d139, d140, d141, d142⟩, w1, w2, w3, w4⟩
                    have e148 : h138.2.2 14 5 = (x10 + 1) := (by rw [wh138]; exact (wr_ne (ne_ty (I129.atS rfl) d133 (by intro e; cases e))).trans (show h131.2.2 14 5 = (x10 + 1) from (by rw [wh131]; exact wr_eq)))
                    have es : h138.2.2 st1 (Int.toNat (x10 + 1)) = y19 := by rw [wh138]; exact wr_eq
                    have vv := v147.vals
                    rw [e148] at vv
                    rw [es] at vv
                    have bw : BkW h138 14 70 := ⟨_, _, _, _, _, _, _, _, v147, k1, k2, k3, by rw [e148]; omega, by rw [e148, es]; omega, by rw [e148, es]; omega, by rw [e148]; omega⟩
                    have e1Z : h138.1 = h7.1 := by rw [wh138, wh131, wh124, wh117]; exact c24
                    have en := EN.fin (d := g - f) p8_0 p8_1 bw (by omega) (by omega) (by omega) e1Z
                    refine to_aload_n (dat dk_X0_enter 103 rfl) rfl (to_getIv (y := (x10 + 1)) e148 g_c1_28 (dat dk_X0_enter 104 rfl) (I136.atS rfl) (to_iconst (dat dk_X0_enter 105 rfl) (to_isub (dat dk_X0_enter 106 rfl) ?_)))
                    exact to_iret rfl (dat dk_X0_enter 107 rfl) (ri_mka (by omega) ⟨I136, f137, en⟩)
                  · skip
                    refine to_aload_n (dat dk_X0_enter 61 rfl) rfl (to_getR rw1 g_c1_24 (dat dk_X0_enter 62 rfl) (Ih21.atS rfl) v33 (to_iload (dat dk_X0_enter 63 rfl) rfl (to_aload_np (dat dk_X0_enter 64 rfl) (Ih21.1.2.2.2 _ _ (Ih21.bty ht)).1 rfl (to_iload (dat dk_X0_enter 65 rfl) rfl ?_))))
                    obtain ⟨x149, ex149⟩ : ∃ y : Int, h21.2.2 t 1 = y := ⟨_, rfl⟩
                    have rx149 := Ih21.blen ht
                    rw [ex149] at rx149
                    refine to_cI ca_c1_51 (dat dk_X0_enter 66 rfl) (ct_X1_byteAt l h21 Ih21 t ht y20 ry20) rfl ⟨_, _, rfl, (Ih21.bty ht)⟩ rfl (fun x150 h151 rx150 p152 => ?_)
                    obtain ⟨rfl, p152_0⟩ := p152
                    refine to_i2b (dat dk_X0_enter 67 rfl) (to_bastw (dat dk_X0_enter 68 rfl) v37 rfl (Ih21.lenN v37) (by omega) ?_)
                    intro h155 wh155
                    have I153 : Inv h155 := by rw [wh155]; exact Ih21.putA (j := (Int.toNat y19)) (x := (b8 (b8 x150))) v37 (by decide +kernel) rfl (show -128 ≤ (b8 (b8 x150)) ∧ (b8 (b8 x150)) ≤ 127 by have := b8_in (b8 x150); omega)
                    have f154 : Fr [999, 14, 15, 16, 17, 19, 357, 317, 377] h h155 := by rw [wh155]; exact Fr.putA (j := (Int.toNat y19)) (x := (b8 (b8 x150))) fh21 Ih21 v37 (by decide +kernel)
                    have d156 : h155.2.1 nx1 = some (.inl (470, nn1)) := by rw [wh155]; exact v34
                    have d157 : h155.2.1 st1 = some (.inl (70, ns1)) := by rw [wh155]; exact v35
                    have d158 : h155.2.1 rd1 = some (.inl (570, nr1)) := by rw [wh155]; exact v36
                    have d159 : h155.2.1 rw1 = some (.inl (671, nw1)) := by rw [wh155]; exact v37
                    refine to_iinc (L' := [(0, .inr (.inr 14)), (1, .inr (.inr t)), (2, .inl f), (3, .inl g), (4, .inl x2), (5, .inl x11), (6, .inl (y19 + 1)), (7, .inl y20)]) (dat dk_X0_enter 69 rfl) rfl (by decide) rfl (to_iinc (L' := [(0, .inr (.inr 14)), (1, .inr (.inr t)), (2, .inl f), (3, .inl g), (4, .inl x2), (5, .inl x11), (6, .inl (y19 + 1)), (7, .inl (y20 + 1))]) (dat dk_X0_enter 70 rfl) rfl (by decide) rfl (to_goto (dat dk_X0_enter 71 rfl) rfl ?_))
                    have e160 : h155.2.2 14 1 = (nx1 : Int) := (by rw [wh155]; exact (wr_ne (ne_ty (Ih21.atS rfl) v37 (by intro e; cases e))).trans v30)
                    have e161 : h155.2.2 14 2 = (st1 : Int) := (by rw [wh155]; exact (wr_ne (ne_ty (Ih21.atS rfl) v37 (by intro e; cases e))).trans v31)
                    have e162 : h155.2.2 14 3 = (rd1 : Int) := (by rw [wh155]; exact (wr_ne (ne_ty (Ih21.atS rfl) v37 (by intro e; cases e))).trans v32)
                    have e163 : h155.2.2 14 4 = (rw1 : Int) := (by rw [wh155]; exact (wr_ne (ne_ty (Ih21.atS rfl) v37 (by intro e; cases e))).trans v33)
                    have e164 : h155.2.2 14 5 = x10 := (by rw [wh155]; exact (wr_ne (ne_ty (Ih21.atS rfl) v37 (by intro e; cases e))).trans c23)
                    exact ihn27 (n27 - 1) (by omega) (y19 + 1) (y20 + 1) h155 (by omega) (by omega) I153 f154 ⟨⟨e160, e161, e162, e163⟩, ⟨d156, d157, d158, d159⟩, w1, w2, w3, w4⟩ (show h155.2.2 14 5 = x10 by omega) (by rw [wh155]; exact c24) (show S0 ≤ (y19 + 1) ∧ (y19 + 1) ≤ S0 + ((y20 + 1) - f) by omega) (show f ≤ (y20 + 1) ∧ (y20 + 1) ≤ g by omega) (show g - (y20 + 1) ≤ ((n27 - 1 : Nat) : Int) by omega)
            exact lp89_n27 (g - f).toNat x18 f h7 rx18 hf Ih7 f9 ⟨⟨a1, a2, a3, a4⟩, ⟨u1, u2, u3, u4⟩, w1, w2, w3, w4⟩ (show h7.2.2 14 5 = x10 by omega) rfl (show S0 ≤ x18 ∧ x18 ≤ S0 + (f - f) by omega) (show f ≤ f ∧ f ≤ g by omega) (by omega)
          · skip
            refine to_iconst (dat dk_X0_enter 41 rfl) ?_
            exact to_iret rfl (dat dk_X0_enter 42 rfl) (ri_mka (by decide) ⟨Ih7, f9, (EN.mr p8_0 p8_1 (by omega))⟩)
  · skip
    refine to_iload (dat dk_X0_enter 9 rfl) rfl ?_
    exact to_iret rfl (dat dk_X0_enter 10 rfl) (ri_mka rx2 ⟨hI, (Fr.rf _ _), (EN.rf g1 (by omega))⟩)
abbrev Q_X0_enter_v20 (h : Hp) (t : Nat) (f : Int) (g : Int) : Option V → Hp → Nat → Nat → Prop := RIa (fun x H mc ms => Inv H ∧ Fr [999, 20, 21, 22, 23, 25, 358, 318, 378] h H ∧ (EN h H 20 80 mc ms (g - f)))
set_option maxRecDepth 100000 in
theorem ct_X0_enter_v20 (l : Launch) (h : Hp) (hI : Inv h) (t : Nat) (ht : isB t = true) (f : Int) (hf : I32 f) (g : Int) (hg : I32 g) (g0 : 0 ≤ f ∧ f ≤ g ∧ g - f ≤ 60 ∧ g ≤ 1300) (g1 : BkW h 20 80) (g2 : WB h 20 ≤ 10000000) (g3 : h.2.2 20 5 ≤ 4000000) (g4 : h.1 + 4 ≤ 900000) : Ct l D_X0_enter 3 126 [.inr (.inr 20), .inr (.inr t), .inl f, .inl g] h (Q_X0_enter_v20 h t f g) := by
  refine ct_of pn_X0_enter (Nat.le_of_ble_eq_true rfl) ?_
  show To l E_X0_enter (0, [(0, .inr (.inr 20)), (1, .inr (.inr t)), (2, .inl f), (3, .inl g)], [], h, 0, 0) _
  obtain ⟨x1, ex1⟩ : ∃ y : Int, h.2.2 20 5 = y := ⟨_, rfl⟩
  have rx1 := hI.atR (a := 20) (j := 5) rfl
  rw [ex1] at rx1
  refine to_aload_n (dat dk_X0_enter 0 rfl) rfl (to_aload_np (dat dk_X0_enter 1 rfl) (hI.1.2.2.2 _ _ (hI.bty ht)).1 rfl (to_iload_n (dat dk_X0_enter 2 rfl) rfl (to_iload_n (dat dk_X0_enter 3 rfl) rfl ?_)))
  refine to_cI ca_c1_44 (dat dk_X0_enter 4 rfl) (ct_X0_find l h hI 20 80 rfl t ht f hf g hg) rfl ⟨_, _, rfl, (hI.atS rfl)⟩ rfl (fun x2 h3 rx2 p4 => ?_)
  obtain ⟨rfl, p4_0⟩ := p4
  refine to_istore (L' := [(0, .inr (.inr 20)), (1, .inr (.inr t)), (2, .inl f), (3, .inl g), (4, .inl x2)]) (dat dk_X0_enter 5 rfl) (by decide) rfl (to_iload (dat dk_X0_enter 6 rfl) rfl (to_iconst (dat dk_X0_enter 7 rfl) ?_))
  refine to_ieq 18 (dat dk_X0_enter 8 rfl) rfl rx2 (by decide) (fun c5 => ?_) (fun c5 => ?_)
  · skip
    refine to_aload_n (dat dk_X0_enter 11 rfl) rfl (to_iload_n (dat dk_X0_enter 12 rfl) rfl (to_iload_n (dat dk_X0_enter 13 rfl) rfl ?_))
    refine to_cVa ca_c1_47 (dat dk_X0_enter 14 rfl) (ct_X0_makeRoom l h hI 20 80 rfl f hf g hg (show 0 ≤ f ∧ f ≤ g ∧ g - f ≤ 60 ∧ g ≤ 1300 by omega) g1 (show WB h 20 ≤ 10000000 by omega) (show h.2.2 20 5 ≤ 4000000 by omega) (show h.1 + 4 ≤ 900000 by omega)) rfl ⟨_, _, rfl, (hI.atS rfl)⟩ rfl (fun h7 mcx6 msx6 p8 => ?_)
    obtain ⟨Ih7, fh7, p8_0, p8_1⟩ := p8
    have f9 : Fr [999, 20, 21, 22, 23, 25, 358, 318, 378] h h7 := Fr.sub (Fr.rf _ _) fh7 rfl
    obtain ⟨kb1, mrW, mrE, mrP, mrZ⟩ := id p8_0
    obtain ⟨nx1, st1, rd1, rw1, nn1, ns1, nr1, nw1, r1, kn1⟩ := id kb1
    have v1 := r1.vals
    obtain ⟨⟨a1, a2, a3, a4⟩, ⟨u1, u2, u3, u4⟩, w1, w2, w3, w4⟩ := id r1
    obtain ⟨k1, k2, k3, k4, k5, k6, k7⟩ := id kn1
    have lu1 := Ih7.lenM u1
    have lu2 := Ih7.lenM u2
    have lu3 := Ih7.lenM u3
    have lu4 := Ih7.lenM u4
    obtain ⟨x10, ex10⟩ : ∃ y : Int, h7.2.2 20 5 = y := ⟨_, rfl⟩
    have rx10 := Ih7.atR (a := 20) (j := 5) rfl
    rw [ex10] at rx10
    rw [ex10] at k4 k5 k6 k7 v1
    obtain ⟨S0, eS0⟩ : ∃ y : Int, h7.2.2 st1 (Int.toNat x10) = y := ⟨_, rfl⟩
    have v1W := v1.2
    rw [eS0] at k5 k6 v1W
    have dd : 0 ≤ g - f := by omega
    refine to_aload_np (dat dk_X0_enter 15 rfl) (Ih7.1.2.2.2 _ _ (Ih7.bty ht)).1 rfl (to_iload_n (dat dk_X0_enter 16 rfl) rfl (to_iload_n (dat dk_X0_enter 17 rfl) rfl ?_))
    refine to_cI ca_c1_36 (dat dk_X0_enter 18 rfl) (ct_X0_slotOf l h7 Ih7 t ht f hf g hg) rfl trivial rfl (fun x11 h12 rx11 p13 => ?_)
    obtain ⟨rfl, p13_0⟩ := p13
    refine to_istore (L' := [(0, .inr (.inr 20)), (1, .inr (.inr t)), (2, .inl f), (3, .inl g), (4, .inl x2), (5, .inl x11)]) (dat dk_X0_enter 19 rfl) (by decide) rfl (to_iload (dat dk_X0_enter 20 rfl) rfl ?_)
    refine to_iflt 73 (dat dk_X0_enter 21 rfl) rfl rx11 (fun c14 => ?_) (fun c14 => ?_)
    · skip
      refine to_iconst (dat dk_X0_enter 41 rfl) ?_
      exact to_iret rfl (dat dk_X0_enter 42 rfl) (ri_mka (by decide) ⟨Ih7, f9, (EN.mr p8_0 p8_1 (by omega))⟩)
    · skip
      refine to_iload (dat dk_X0_enter 22 rfl) rfl (to_aload_n (dat dk_X0_enter 23 rfl) rfl (to_getR 21 g_c1_11 (dat dk_X0_enter 24 rfl) (Ih7.atS rfl) (Ih7.atE rfl) (to_alen (dat dk_X0_enter 25 rfl) (Ih7.atS rfl) (by decide) ?_)))
      refine to_ige 73 (dat dk_X0_enter 26 rfl) rfl rx11 (by decide) (fun c15 => ?_) (fun c15 => ?_)
      · skip
        refine to_iconst (dat dk_X0_enter 41 rfl) ?_
        exact to_iret rfl (dat dk_X0_enter 42 rfl) (ri_mka (by decide) ⟨Ih7, f9, (EN.mr p8_0 p8_1 (by omega))⟩)
      · skip
        refine to_aload_n (dat dk_X0_enter 27 rfl) rfl (to_getIv (y := x10) ex10 g_c1_28 (dat dk_X0_enter 28 rfl) (Ih7.atS rfl) (to_iconst (dat dk_X0_enter 29 rfl) (to_iadd (dat dk_X0_enter 30 rfl) (to_aload_n (dat dk_X0_enter 31 rfl) rfl (to_getR st1 g_c1_18 (dat dk_X0_enter 32 rfl) (Ih7.atS rfl) a2 (to_alen (dat dk_X0_enter 33 rfl) u2 (by decide) ?_))))))
        refine to_ige 73 (dat dk_X0_enter 34 rfl) rfl (by omega) (by omega) (fun c16 => ?_) (fun c16 => ?_)
        · skip
          refine to_iconst (dat dk_X0_enter 41 rfl) ?_
          exact to_iret rfl (dat dk_X0_enter 42 rfl) (ri_mka (by decide) ⟨Ih7, f9, (EN.mr p8_0 p8_1 (by omega))⟩)
        · skip
          refine to_aload_n (dat dk_X0_enter 35 rfl) rfl (to_getIv (y := x10) ex10 g_c1_28 (dat dk_X0_enter 36 rfl) (Ih7.atS rfl) (to_aload_n (dat dk_X0_enter 37 rfl) rfl (to_getR nx1 g_c1_15 (dat dk_X0_enter 38 rfl) (Ih7.atS rfl) a1 (to_alen (dat dk_X0_enter 39 rfl) u1 (by decide) ?_))))
          refine to_ilt 75 (dat dk_X0_enter 40 rfl) rfl (by omega) (by omega) (fun c17 => ?_) (fun c17 => ?_)
          · skip
            refine to_aload_n (dat dk_X0_enter 43 rfl) rfl (to_getR st1 g_c1_18 (dat dk_X0_enter 44 rfl) (Ih7.atS rfl) a2 (to_aload_n (dat dk_X0_enter 45 rfl) rfl (to_getIv (y := x10) ex10 g_c1_28 (dat dk_X0_enter 46 rfl) (Ih7.atS rfl) ?_)))
            obtain ⟨x18, ex18⟩ : ∃ y : Int, h7.2.2 st1 (Int.toNat x10) = y := ⟨_, rfl⟩
            have rx18 := Ih7.con0 u2 rfl (Int.toNat x10)
            rw [ex18] at rx18
            refine to_ialdv ex18 (dat dk_X0_enter 47 rfl) u2 rfl (Ih7.lenN u2) (by omega) (to_istore (L' := [(0, .inr (.inr 20)), (1, .inr (.inr t)), (2, .inl f), (3, .inl g), (4, .inl x2), (5, .inl x11), (6, .inl x18)]) (dat dk_X0_enter 48 rfl) (by decide) rfl (to_iload_n (dat dk_X0_enter 49 rfl) rfl (to_istore (L' := [(0, .inr (.inr 20)), (1, .inr (.inr t)), (2, .inl f), (3, .inl g), (4, .inl x2), (5, .inl x11), (6, .inl x18), (7, .inl f)]) (dat dk_X0_enter 50 rfl) (by decide) rfl ?_)))
            have lp89_n27 : ∀ (n27 : Nat) (y19 : Int) (y20 : Int) (h21 : Hp), (I32 y19) → (I32 y20) → (Inv h21) → (Fr [999, 20, 21, 22, 23, 25, 358, 318, 378] h h21) → (BkR h21 20 80 nx1 st1 rd1 rw1 nn1 ns1 nr1 nw1) → (h21.2.2 20 5 = x10) → (h21.1 = h7.1) → (S0 ≤ y19 ∧ y19 ≤ S0 + (y20 - f)) → (f ≤ y20 ∧ y20 ≤ g) → (g - y20 ≤ (n27 : Int)) → To l E_X0_enter (89, [(0, .inr (.inr 20)), (1, .inr (.inr t)), (2, .inl f), (3, .inl g), (4, .inl x2), (5, .inl x11), (6, .inl y19), (7, .inl y20)], [], h21, (0 + mcx6), (0 + msx6)) (Q_X0_enter_v20 h t f g) := by
              intro n27
              induction n27 using Nat.strongRecOn with
              | _ n27 ihn27 =>
              intro y19 y20 h21 ry19 ry20 Ih21 fh21 c22 c23 c24 c25 c26 c28
              obtain ⟨x29, ex29⟩ : ∃ y : Int, h21.2.2 20 5 = y := ⟨_, rfl⟩
              have rx29 := Ih21.atR (a := 20) (j := 5) rfl
              rw [ex29] at rx29
              refine to_iload (dat dk_X0_enter 51 rfl) rfl ?_
              obtain ⟨⟨v30, v31, v32, v33⟩, ⟨v34, v35, v36, v37⟩, -⟩ := id c22
              refine to_iload_n (dat dk_X0_enter 52 rfl) rfl ?_
              refine to_ige 133 (dat dk_X0_enter 53 rfl) rfl ry20 hg (fun c38 => ?_) (fun c38 => ?_)
              · skip
                refine to_aload_n (dat dk_X0_enter 72 rfl) rfl (to_getR nx1 g_c1_15 (dat dk_X0_enter 73 rfl) (Ih21.atS rfl) v30 (to_aload_n (dat dk_X0_enter 74 rfl) rfl (to_getIv (y := x10) c23 g_c1_28 (dat dk_X0_enter 75 rfl) (Ih21.atS rfl) (to_aload_n (dat dk_X0_enter 76 rfl) rfl (to_getR 21 g_c1_11 (dat dk_X0_enter 77 rfl) (Ih21.atS rfl) (Ih21.atE rfl) (to_iload (dat dk_X0_enter 78 rfl) rfl ?_))))))
                obtain ⟨x39, ex39⟩ : ∃ y : Int, h21.2.2 21 (Int.toNat x11) = y := ⟨_, rfl⟩
                have rx39 := Ih21.atR (a := 21) (j := Int.toNat x11) rfl
                rw [ex39] at rx39
                refine to_ialdv ex39 (dat dk_X0_enter 79 rfl) (Ih21.atS rfl) rfl (by decide) (by omega) (to_iconst (dat dk_X0_enter 80 rfl) ?_)
                refine to_isubA (dat dk_X0_enter 81 rfl) (fun x40 rx40 => ?_)
                refine to_iastw (dat dk_X0_enter 82 rfl) v34 rfl (Ih21.lenN v34) (by omega) ?_
                intro h43 wh43
                have I41 : Inv h43 := by rw [wh43]; exact Ih21.putA (j := (Int.toNat x10)) (x := x40) v34 (by decide +kernel) rfl rx40
                have f42 : Fr [999, 20, 21, 22, 23, 25, 358, 318, 378] h h43 := by rw [wh43]; exact Fr.putA (j := (Int.toNat x10)) (x := x40) fh21 Ih21 v34 (by decide +kernel)
                have d44 : h43.2.1 nx1 = some (.inl (480, nn1)) := by rw [wh43]; exact v34
                have d45 : h43.2.1 st1 = some (.inl (80, ns1)) := by rw [wh43]; exact v35
                have d46 : h43.2.1 rd1 = some (.inl (580, nr1)) := by rw [wh43]; exact v36
                have d47 : h43.2.1 rw1 = some (.inl (681, nw1)) := by rw [wh43]; exact v37
                refine to_aload_n (dat dk_X0_enter 83 rfl) rfl (to_getR 21 g_c1_11 (dat dk_X0_enter 84 rfl) (I41.atS rfl) (I41.atE rfl) (to_iload (dat dk_X0_enter 85 rfl) rfl (to_aload_n (dat dk_X0_enter 86 rfl) rfl (to_getIv (y := x10) (by rw [wh43]; exact (wr_ne (ne_ty (Ih21.atS rfl) v34 (by intro e; cases e))).trans c23) g_c1_28 (dat dk_X0_enter 87 rfl) (I41.atS rfl) (to_iconst (dat dk_X0_enter 88 rfl) (to_iadd (dat dk_X0_enter 89 rfl) (to_iastw (dat dk_X0_enter 90 rfl) (I41.atS rfl) rfl (by decide) (by omega) ?_)))))))
                intro h50 wh50
                have I48 : Inv h50 := by rw [wh50]; exact I41.put (a := 21) (j := (Int.toNat x11)) (x := (x10 + 1)) (-2147483648) (2147483647) rfl rfl (show (-2147483648 : Int) ≤ (x10 + 1) ∧ (x10 + 1) ≤ 2147483647 by omega)
                have f49 : Fr [999, 20, 21, 22, 23, 25, 358, 318, 378] h h50 := by rw [wh50]; exact Fr.putF (a := 21) (j := (Int.toNat x11)) (x := (x10 + 1)) f42 rfl
                have d51 : h50.2.1 nx1 = some (.inl (480, nn1)) := by rw [wh50]; exact d44
                have d52 : h50.2.1 st1 = some (.inl (80, ns1)) := by rw [wh50]; exact d45
                have d53 : h50.2.1 rd1 = some (.inl (580, nr1)) := by rw [wh50]; exact d46
                have d54 : h50.2.1 rw1 = some (.inl (681, nw1)) := by rw [wh50]; exact d47
                refine to_aload_n (dat dk_X0_enter 91 rfl) rfl (to_dup (dat dk_X0_enter 92 rfl) rfl (to_getIv (y := x10) (by rw [wh50]; exact (show h43.2.2 20 5 = x10 from (by rw [wh43]; exact (wr_ne (ne_ty (Ih21.atS rfl) v34 (by intro e; cases e))).trans c23))) g_c1_28 (dat dk_X0_enter 93 rfl) (I48.atS rfl) (to_iconst (dat dk_X0_enter 94 rfl) (to_iadd (dat dk_X0_enter 95 rfl) (to_putIw p_c1_28 (dat dk_X0_enter 96 rfl) (I48.atS rfl) ?_)))))
                intro h57 wh57
                have I55 : Inv h57 := by rw [wh57]; exact I48.put (a := 20) (j := 5) (x := (x10 + 1)) (0) (10000000) rfl rfl (show (0 : Int) ≤ (x10 + 1) ∧ (x10 + 1) ≤ 10000000 by omega)
                have f56 : Fr [999, 20, 21, 22, 23, 25, 358, 318, 378] h h57 := by rw [wh57]; exact Fr.putF (a := 20) (j := 5) (x := (x10 + 1)) f49 rfl
                have d58 : h57.2.1 nx1 = some (.inl (480, nn1)) := by rw [wh57]; exact d51
                have d59 : h57.2.1 st1 = some (.inl (80, ns1)) := by rw [wh57]; exact d52
                have d60 : h57.2.1 rd1 = some (.inl (580, nr1)) := by rw [wh57]; exact d53
                have d61 : h57.2.1 rw1 = some (.inl (681, nw1)) := by rw [wh57]; exact d54
                refine to_aload_n (dat dk_X0_enter 97 rfl) rfl (to_getR st1 g_c1_18 (dat dk_X0_enter 98 rfl) (I55.atS rfl) (by rw [wh57]; exact (show h50.2.2 20 2 = (st1 : Int) from (by rw [wh50]; exact (show h43.2.2 20 2 = (st1 : Int) from (by rw [wh43]; exact (wr_ne (ne_ty (Ih21.atS rfl) v34 (by intro e; cases e))).trans v31))))) (to_aload_n (dat dk_X0_enter 99 rfl) rfl (to_getIv (y := (x10 + 1)) (by rw [wh57]; exact wr_eq) g_c1_28 (dat dk_X0_enter 100 rfl) (I55.atS rfl) (to_iload (dat dk_X0_enter 101 rfl) rfl (to_iastw (dat dk_X0_enter 102 rfl) d59 rfl (I55.lenN d59) (by omega) ?_)))))
                intro h64 wh64
                have I62 : Inv h64 := by rw [wh64]; exact I55.putA (j := (Int.toNat (x10 + 1))) (x := y19) d59 (by decide +kernel) rfl ry19
                have f63 : Fr [999, 20, 21, 22, 23, 25, 358, 318, 378] h h64 := by rw [wh64]; exact Fr.putA (j := (Int.toNat (x10 + 1))) (x := y19) f56 I55 d59 (by decide +kernel)
                have d65 : h64.2.1 nx1 = some (.inl (480, nn1)) := by rw [wh64]; exact d58
                have d66 : h64.2.1 st1 = some (.inl (80, ns1)) := by rw [wh64]; exact d59
                have d67 : h64.2.1 rd1 = some (.inl (580, nr1)) := by rw [wh64]; exact d60
                have d68 : h64.2.1 rw1 = some (.inl (681, nw1)) := by rw [wh64]; exact d61
                have e69 : h64.2.2 20 1 = (nx1 : Int) := (by rw [wh64]; exact (wr_ne (ne_ty (I55.atS rfl) d59 (by intro e; cases e))).trans (show h57.2.2 20 1 = (nx1 : Int) from (by rw [wh57]; exact (show h50.2.2 20 1 = (nx1 : Int) from (by rw [wh50]; exact (show h43.2.2 20 1 = (nx1 : Int) from (by rw [wh43]; exact (wr_ne (ne_ty (Ih21.atS rfl) v34 (by intro e; cases e))).trans v30)))))))
                have e70 : h64.2.2 20 2 = (st1 : Int) := (by rw [wh64]; exact (wr_ne (ne_ty (I55.atS rfl) d59 (by intro e; cases e))).trans (show h57.2.2 20 2 = (st1 : Int) from (by rw [wh57]; exact (show h50.2.2 20 2 = (st1 : Int) from (by rw [wh50]; exact (show h43.2.2 20 2 = (st1 : Int) from (by rw [wh43]; exact (wr_ne (ne_ty (Ih21.atS rfl) v34 (by intro e; cases e))).trans v31)))))))
                have e71 : h64.2.2 20 3 = (rd1 : Int) := (by rw [wh64]; exact (wr_ne (ne_ty (I55.atS rfl) d59 (by intro e; cases e))).trans (show h57.2.2 20 3 = (rd1 : Int) from (by rw [wh57]; exact (show h50.2.2 20 3 = (rd1 : Int) from (by rw [wh50]; exact (show h43.2.2 20 3 = (rd1 : Int) from (by rw [wh43]; exact (wr_ne (ne_ty (Ih21.atS rfl) v34 (by intro e; cases e))).trans v32)))))))
                have e72 : h64.2.2 20 4 = (rw1 : Int) := (by rw [wh64]; exact (wr_ne (ne_ty (I55.atS rfl) d59 (by intro e; cases e))).trans (show h57.2.2 20 4 = (rw1 : Int) from (by rw [wh57]; exact (show h50.2.2 20 4 = (rw1 : Int) from (by rw [wh50]; exact (show h43.2.2 20 4 = (rw1 : Int) from (by rw [wh43]; exact (wr_ne (ne_ty (Ih21.atS rfl) v34 (by intro e; cases e))).trans v33)))))))
                have v73 : BkR h64 20 80 nx1 st1 rd1 rw1 nn1 ns1 nr1 nw1 := ⟨⟨e69, e70, e71, e72⟩, ⟨d65, d66, d67, d68⟩, w1, w2, w3, w4⟩
                have e74 : h64.2.2 20 5 = (x10 + 1) := (by rw [wh64]; exact (wr_ne (ne_ty (I55.atS rfl) d59 (by intro e; cases e))).trans (show h57.2.2 20 5 = (x10 + 1) from (by rw [wh57]; exact wr_eq)))
                have es : h64.2.2 st1 (Int.toNat (x10 + 1)) = y19 := by rw [wh64]; exact wr_eq
                have vv := v73.vals
                rw [e74] at vv
                rw [es] at vv
                have bw : BkW h64 20 80 := ⟨_, _, _, _, _, _, _, _, v73, k1, k2, k3, by rw [e74]; omega, by rw [e74, es]; omega, by rw [e74, es]; omega, by rw [e74]; omega⟩
                have e1Z : h64.1 = h7.1 := by rw [wh64, wh57, wh50, wh43]; exact c24
                have en := EN.fin (d := g - f) p8_0 p8_1 bw (by omega) (by omega) (by omega) e1Z
                refine to_aload_n (dat dk_X0_enter 103 rfl) rfl (to_getIv (y := (x10 + 1)) e74 g_c1_28 (dat dk_X0_enter 104 rfl) (I62.atS rfl) (to_iconst (dat dk_X0_enter 105 rfl) (to_isub (dat dk_X0_enter 106 rfl) ?_)))
                exact to_iret rfl (dat dk_X0_enter 107 rfl) (ri_mka (by omega) ⟨I62, f63, en⟩)
              · skip
                refine to_iload (dat dk_X0_enter 54 rfl) rfl ?_
                refine to_iflt 133 (dat dk_X0_enter 55 rfl) rfl ry19 (fun c75 => ?_) (fun c75 => ?_)
                · skip
                  refine to_aload_n (dat dk_X0_enter 72 rfl) rfl (to_getR nx1 g_c1_15 (dat dk_X0_enter 73 rfl) (Ih21.atS rfl) v30 (to_aload_n (dat dk_X0_enter 74 rfl) rfl (to_getIv (y := x10) c23 g_c1_28 (dat dk_X0_enter 75 rfl) (Ih21.atS rfl) (to_aload_n (dat dk_X0_enter 76 rfl) rfl (to_getR 21 g_c1_11 (dat dk_X0_enter 77 rfl) (Ih21.atS rfl) (Ih21.atE rfl) (to_iload (dat dk_X0_enter 78 rfl) rfl ?_))))))
                  obtain ⟨x76, ex76⟩ : ∃ y : Int, h21.2.2 21 (Int.toNat x11) = y := ⟨_, rfl⟩
                  have rx76 := Ih21.atR (a := 21) (j := Int.toNat x11) rfl
                  rw [ex76] at rx76
                  refine to_ialdv ex76 (dat dk_X0_enter 79 rfl) (Ih21.atS rfl) rfl (by decide) (by omega) (to_iconst (dat dk_X0_enter 80 rfl) ?_)
                  refine to_isubA (dat dk_X0_enter 81 rfl) (fun x77 rx77 => ?_)
                  refine to_iastw (dat dk_X0_enter 82 rfl) v34 rfl (Ih21.lenN v34) (by omega) ?_
                  intro h80 wh80
                  have I78 : Inv h80 := by rw [wh80]; exact Ih21.putA (j := (Int.toNat x10)) (x := x77) v34 (by decide +kernel) rfl rx77
                  have f79 : Fr [999, 20, 21, 22, 23, 25, 358, 318, 378] h h80 := by rw [wh80]; exact Fr.putA (j := (Int.toNat x10)) (x := x77) fh21 Ih21 v34 (by decide +kernel)
                  have d81 : h80.2.1 nx1 = some (.inl (480, nn1)) := by rw [wh80]; exact v34
                  have d82 : h80.2.1 st1 = some (.inl (80, ns1)) := by rw [wh80]; exact v35
                  have d83 : h80.2.1 rd1 = some (.inl (580, nr1)) := by rw [wh80]; exact v36
                  have d84 : h80.2.1 rw1 = some (.inl (681, nw1)) := by rw [wh80]; exact v37
                  refine to_aload_n (dat dk_X0_enter 83 rfl) rfl (to_getR 21 g_c1_11 (dat dk_X0_enter 84 rfl) (I78.atS rfl) (I78.atE rfl) (to_iload (dat dk_X0_enter 85 rfl) rfl (to_aload_n (dat dk_X0_enter 86 rfl) rfl (to_getIv (y := x10) (by rw [wh80]; exact (wr_ne (ne_ty (Ih21.atS rfl) v34 (by intro e; cases e))).trans c23) g_c1_28 (dat dk_X0_enter 87 rfl) (I78.atS rfl) (to_iconst (dat dk_X0_enter 88 rfl) (to_iadd (dat dk_X0_enter 89 rfl) (to_iastw (dat dk_X0_enter 90 rfl) (I78.atS rfl) rfl (by decide) (by omega) ?_)))))))
                  intro h87 wh87
                  have I85 : Inv h87 := by rw [wh87]; exact I78.put (a := 21) (j := (Int.toNat x11)) (x := (x10 + 1)) (-2147483648) (2147483647) rfl rfl (show (-2147483648 : Int) ≤ (x10 + 1) ∧ (x10 + 1) ≤ 2147483647 by omega)
                  have f86 : Fr [999, 20, 21, 22, 23, 25, 358, 318, 378] h h87 := by rw [wh87]; exact Fr.putF (a := 21) (j := (Int.toNat x11)) (x := (x10 + 1)) f79 rfl
                  have d88 : h87.2.1 nx1 = some (.inl (480, nn1)) := by rw [wh87]; exact d81
                  have d89 : h87.2.1 st1 = some (.inl (80, ns1)) := by rw [wh87]; exact d82
                  have d90 : h87.2.1 rd1 = some (.inl (580, nr1)) := by rw [wh87]; exact d83
                  have d91 : h87.2.1 rw1 = some (.inl (681, nw1)) := by rw [wh87]; exact d84
                  refine to_aload_n (dat dk_X0_enter 91 rfl) rfl (to_dup (dat dk_X0_enter 92 rfl) rfl (to_getIv (y := x10) (by rw [wh87]; exact (show h80.2.2 20 5 = x10 from (by rw [wh80]; exact (wr_ne (ne_ty (Ih21.atS rfl) v34 (by intro e; cases e))).trans c23))) g_c1_28 (dat dk_X0_enter 93 rfl) (I85.atS rfl) (to_iconst (dat dk_X0_enter 94 rfl) (to_iadd (dat dk_X0_enter 95 rfl) (to_putIw p_c1_28 (dat dk_X0_enter 96 rfl) (I85.atS rfl) ?_)))))
                  intro h94 wh94
                  have I92 : Inv h94 := by rw [wh94]; exact I85.put (a := 20) (j := 5) (x := (x10 + 1)) (0) (10000000) rfl rfl (show (0 : Int) ≤ (x10 + 1) ∧ (x10 + 1) ≤ 10000000 by omega)
                  have f93 : Fr [999, 20, 21, 22, 23, 25, 358, 318, 378] h h94 := by rw [wh94]; exact Fr.putF (a := 20) (j := 5) (x := (x10 + 1)) f86 rfl
                  have d95 : h94.2.1 nx1 = some (.inl (480, nn1)) := by rw [wh94]; exact d88
                  have d96 : h94.2.1 st1 = some (.inl (80, ns1)) := by rw [wh94]; exact d89
                  have d97 : h94.2.1 rd1 = some (.inl (580, nr1)) := by rw [wh94]; exact d90
                  have d98 : h94.2.1 rw1 = some (.inl (681, nw1)) := by rw [wh94]; exact d91
                  refine to_aload_n (dat dk_X0_enter 97 rfl) rfl (to_getR st1 g_c1_18 (dat dk_X0_enter 98 rfl) (I92.atS rfl) (by rw [wh94]; exact (show h87.2.2 20 2 = (st1 : Int) from (by rw [wh87]; exact (show h80.2.2 20 2 = (st1 : Int) from (by rw [wh80]; exact (wr_ne (ne_ty (Ih21.atS rfl) v34 (by intro e; cases e))).trans v31))))) (to_aload_n (dat dk_X0_enter 99 rfl) rfl (to_getIv (y := (x10 + 1)) (by rw [wh94]; exact wr_eq) g_c1_28 (dat dk_X0_enter 100 rfl) (I92.atS rfl) (to_iload (dat dk_X0_enter 101 rfl) rfl (to_iastw (dat dk_X0_enter 102 rfl) d96 rfl (I92.lenN d96) (by omega) ?_)))))
                  intro h101 wh101
                  have I99 : Inv h101 := by rw [wh101]; exact I92.putA (j := (Int.toNat (x10 + 1))) (x := y19) d96 (by decide +kernel) rfl ry19
                  have f100 : Fr [999, 20, 21, 22, 23, 25, 358, 318, 378] h h101 := by rw [wh101]; exact Fr.putA (j := (Int.toNat (x10 + 1))) (x := y19) f93 I92 d96 (by decide +kernel)
                  have d102 : h101.2.1 nx1 = some (.inl (480, nn1)) := by rw [wh101]; exact d95
                  have d103 : h101.2.1 st1 = some (.inl (80, ns1)) := by rw [wh101]; exact d96
                  have d104 : h101.2.1 rd1 = some (.inl (580, nr1)) := by rw [wh101]; exact d97
                  have d105 : h101.2.1 rw1 = some (.inl (681, nw1)) := by rw [wh101]; exact d98
                  have e106 : h101.2.2 20 1 = (nx1 : Int) := (by rw [wh101]; exact (wr_ne (ne_ty (I92.atS rfl) d96 (by intro e; cases e))).trans (show h94.2.2 20 1 = (nx1 : Int) from (by rw [wh94]; exact (show h87.2.2 20 1 = (nx1 : Int) from (by rw [wh87]; exact (show h80.2.2 20 1 = (nx1 : Int) from (by rw [wh80]; exact (wr_ne (ne_ty (Ih21.atS rfl) v34 (by intro e; cases e))).trans v30)))))))
                  have e107 : h101.2.2 20 2 = (st1 : Int) := (by rw [wh101]; exact (wr_ne (ne_ty (I92.atS rfl) d96 (by intro e; cases e))).trans (show h94.2.2 20 2 = (st1 : Int) from (by rw [wh94]; exact (show h87.2.2 20 2 = (st1 : Int) from (by rw [wh87]; exact (show h80.2.2 20 2 = (st1 : Int) from (by rw [wh80]; exact (wr_ne (ne_ty (Ih21.atS rfl) v34 (by intro e; cases e))).trans v31)))))))
                  have e108 : h101.2.2 20 3 = (rd1 : Int) := (by rw [wh101]; exact (wr_ne (ne_ty (I92.atS rfl) d96 (by intro e; cases e))).trans (show h94.2.2 20 3 = (rd1 : Int) from (by rw [wh94]; exact (show h87.2.2 20 3 = (rd1 : Int) from (by rw [wh87]; exact (show h80.2.2 20 3 = (rd1 : Int) from (by rw [wh80]; exact (wr_ne (ne_ty (Ih21.atS rfl) v34 (by intro e; cases e))).trans v32)))))))
                  have e109 : h101.2.2 20 4 = (rw1 : Int) := (by rw [wh101]; exact (wr_ne (ne_ty (I92.atS rfl) d96 (by intro e; cases e))).trans (show h94.2.2 20 4 = (rw1 : Int) from (by rw [wh94]; exact (show h87.2.2 20 4 = (rw1 : Int) from (by rw [wh87]; exact (show h80.2.2 20 4 = (rw1 : Int) from (by rw [wh80]; exact (wr_ne (ne_ty (Ih21.atS rfl) v34 (by intro e; cases e))).trans v33)))))))
                  have v110 : BkR h101 20 80 nx1 st1 rd1 rw1 nn1 ns1 nr1 nw1 := ⟨⟨e106, e107, e108, e109⟩, ⟨d102, d103, d104, d105⟩, w1, w2, w3, w4⟩
                  have e111 : h101.2.2 20 5 = (x10 + 1) := (by rw [wh101]; exact (wr_ne (ne_ty (I92.atS rfl) d96 (by intro e; cases e))).trans (show h94.2.2 20 5 = (x10 + 1) from (by rw [wh94]; exact wr_eq)))
                  have es : h101.2.2 st1 (Int.toNat (x10 + 1)) = y19 := by rw [wh101]; exact wr_eq
                  have vv := v110.vals
                  rw [e111] at vv
                  rw [es] at vv
                  have bw : BkW h101 20 80 := ⟨_, _, _, _, _, _, _, _, v110, k1, k2, k3, by rw [e111]; omega, by rw [e111, es]; omega, by rw [e111, es]; omega, by rw [e111]; omega⟩
                  have e1Z : h101.1 = h7.1 := by rw [wh101, wh94, wh87, wh80]; exact c24
                  have en := EN.fin (d := g - f) p8_0 p8_1 bw (by omega) (by omega) (by omega) e1Z
                  refine to_aload_n (dat dk_X0_enter 103 rfl) rfl (to_getIv (y := (x10 + 1)) e111 g_c1_28 (dat dk_X0_enter 104 rfl) (I99.atS rfl) (to_iconst (dat dk_X0_enter 105 rfl) (to_isub (dat dk_X0_enter 106 rfl) ?_)))
                  exact to_iret rfl (dat dk_X0_enter 107 rfl) (ri_mka (by omega) ⟨I99, f100, en⟩)
                · skip
                  refine to_iload (dat dk_X0_enter 56 rfl) rfl (to_aload_n (dat dk_X0_enter 57 rfl) rfl (to_getR rw1 g_c1_24 (dat dk_X0_enter 58 rfl) (Ih21.atS rfl) v33 (to_alen (dat dk_X0_enter 59 rfl) v37 (by decide) ?_)))
                  refine to_ige 133 (dat dk_X0_enter 60 rfl) rfl ry19 (by omega) (fun c112 => ?_) (fun c112 => ?_)
                  · skip
                    refine to_aload_n (dat dk_X0_enter 72 rfl) rfl (to_getR nx1 g_c1_15 (dat dk_X0_enter 73 rfl) (Ih21.atS rfl) v30 (to_aload_n (dat dk_X0_enter 74 rfl) rfl (to_getIv (y := x10) c23 g_c1_28 (dat dk_X0_enter 75 rfl) (Ih21.atS rfl) (to_aload_n (dat dk_X0_enter 76 rfl) rfl (to_getR 21 g_c1_11 (dat dk_X0_enter 77 rfl) (Ih21.atS rfl) (Ih21.atE rfl) (to_iload (dat dk_X0_enter 78 rfl) rfl ?_))))))
                    obtain ⟨x113, ex113⟩ : ∃ y : Int, h21.2.2 21 (Int.toNat x11) = y := ⟨_, rfl⟩
                    have rx113 := Ih21.atR (a := 21) (j := Int.toNat x11) rfl
                    rw [ex113] at rx113
                    refine to_ialdv ex113 (dat dk_X0_enter 79 rfl) (Ih21.atS rfl) rfl (by decide) (by omega) (to_iconst (dat dk_X0_enter 80 rfl) ?_)
                    refine to_isubA (dat dk_X0_enter 81 rfl) (fun x114 rx114 => ?_)
                    refine to_iastw (dat dk_X0_enter 82 rfl) v34 rfl (Ih21.lenN v34) (by omega) ?_
                    intro h117 wh117
                    have I115 : Inv h117 := by rw [wh117]; exact Ih21.putA (j := (Int.toNat x10)) (x := x114) v34 (by decide +kernel) rfl rx114
                    have f116 : Fr [999, 20, 21, 22, 23, 25, 358, 318, 378] h h117 := by rw [wh117]; exact Fr.putA (j := (Int.toNat x10)) (x := x114) fh21 Ih21 v34 (by decide +kernel)
                    have d118 : h117.2.1 nx1 = some (.inl (480, nn1)) := by rw [wh117]; exact v34
                    have d119 : h117.2.1 st1 = some (.inl (80, ns1)) := by rw [wh117]; exact v35
                    have d120 : h117.2.1 rd1 = some (.inl (580, nr1)) := by rw [wh117]; exact v36
                    have d121 : h117.2.1 rw1 = some (.inl (681, nw1)) := by rw [wh117]; exact v37
                    refine to_aload_n (dat dk_X0_enter 83 rfl) rfl (to_getR 21 g_c1_11 (dat dk_X0_enter 84 rfl) (I115.atS rfl) (I115.atE rfl) (to_iload (dat dk_X0_enter 85 rfl) rfl (to_aload_n (dat dk_X0_enter 86 rfl) rfl (to_getIv (y := x10) (by rw [wh117]; exact (wr_ne (ne_ty (Ih21.atS rfl) v34 (by intro e; cases e))).trans c23) g_c1_28 (dat dk_X0_enter 87 rfl) (I115.atS rfl) (to_iconst (dat dk_X0_enter 88 rfl) (to_iadd (dat dk_X0_enter 89 rfl) (to_iastw (dat dk_X0_enter 90 rfl) (I115.atS rfl) rfl (by decide) (by omega) ?_)))))))
                    intro h124 wh124
                    have I122 : Inv h124 := by rw [wh124]; exact I115.put (a := 21) (j := (Int.toNat x11)) (x := (x10 + 1)) (-2147483648) (2147483647) rfl rfl (show (-2147483648 : Int) ≤ (x10 + 1) ∧ (x10 + 1) ≤ 2147483647 by omega)
                    have f123 : Fr [999, 20, 21, 22, 23, 25, 358, 318, 378] h h124 := by rw [wh124]; exact Fr.putF (a := 21) (j := (Int.toNat x11)) (x := (x10 + 1)) f116 rfl
                    have d125 : h124.2.1 nx1 = some (.inl (480, nn1)) := by rw [wh124]; exact d118
                    have d126 : h124.2.1 st1 = some (.inl (80, ns1)) := by rw [wh124]; exact d119
                    have d127 : h124.2.1 rd1 = some (.inl (580, nr1)) := by rw [wh124]; exact d120
                    have d128 : h124.2.1 rw1 = some (.inl (681, nw1)) := by rw [wh124]; exact d121
                    refine to_aload_n (dat dk_X0_enter 91 rfl) rfl (to_dup (dat dk_X0_enter 92 rfl) rfl (to_getIv (y := x10) (by rw [wh124]; exact (show h117.2.2 20 5 = x10 from (by rw [wh117]; exact (wr_ne (ne_ty (Ih21.atS rfl) v34 (by intro e; cases e))).trans c23))) g_c1_28 (dat dk_X0_enter 93 rfl) (I122.atS rfl) (to_iconst (dat dk_X0_enter 94 rfl) (to_iadd (dat dk_X0_enter 95 rfl) (to_putIw p_c1_28 (dat dk_X0_enter 96 rfl) (I122.atS rfl) ?_)))))
                    intro h131 wh131
                    have I129 : Inv h131 := by rw [wh131]; exact I122.put (a := 20) (j := 5) (x := (x10 + 1)) (0) (10000000) rfl rfl (show (0 : Int) ≤ (x10 + 1) ∧ (x10 + 1) ≤ 10000000 by omega)
                    have f130 : Fr [999, 20, 21, 22, 23, 25, 358, 318, 378] h h131 := by rw [wh131]; exact Fr.putF (a := 20) (j := 5) (x := (x10 + 1)) f123 rfl
                    have d132 : h131.2.1 nx1 = some (.inl (480, nn1)) := by rw [wh131]; exact d125
                    have d133 : h131.2.1 st1 = some (.inl (80, ns1)) := by rw [wh131]; exact d126
                    have d134 : h131.2.1 rd1 = some (.inl (580, nr1)) := by rw [wh131]; exact d127
                    have d135 : h131.2.1 rw1 = some (.inl (681, nw1)) := by rw [wh131]; exact d128
                    refine to_aload_n (dat dk_X0_enter 97 rfl) rfl (to_getR st1 g_c1_18 (dat dk_X0_enter 98 rfl) (I129.atS rfl) (by rw [wh131]; exact (show h124.2.2 20 2 = (st1 : Int) from (by rw [wh124]; exact (show h117.2.2 20 2 = (st1 : Int) from (by rw [wh117]; exact (wr_ne (ne_ty (Ih21.atS rfl) v34 (by intro e; cases e))).trans v31))))) (to_aload_n (dat dk_X0_enter 99 rfl) rfl (to_getIv (y := (x10 + 1)) (by rw [wh131]; exact wr_eq) g_c1_28 (dat dk_X0_enter 100 rfl) (I129.atS rfl) (to_iload (dat dk_X0_enter 101 rfl) rfl (to_iastw (dat dk_X0_enter 102 rfl) d133 rfl (I129.lenN d133) (by omega) ?_)))))
                    intro h138 wh138
                    have I136 : Inv h138 := by rw [wh138]; exact I129.putA (j := (Int.toNat (x10 + 1))) (x := y19) d133 (by decide +kernel) rfl ry19
                    have f137 : Fr [999, 20, 21, 22, 23, 25, 358, 318, 378] h h138 := by rw [wh138]; exact Fr.putA (j := (Int.toNat (x10 + 1))) (x := y19) f130 I129 d133 (by decide +kernel)
                    have d139 : h138.2.1 nx1 = some (.inl (480, nn1)) := by rw [wh138]; exact d132
                    have d140 : h138.2.1 st1 = some (.inl (80, ns1)) := by rw [wh138]; exact d133
                    have d141 : h138.2.1 rd1 = some (.inl (580, nr1)) := by rw [wh138]; exact d134
                    have d142 : h138.2.1 rw1 = some (.inl (681, nw1)) := by rw [wh138]; exact d135
                    have e143 : h138.2.2 20 1 = (nx1 : Int) := (by rw [wh138]; exact (wr_ne (ne_ty (I129.atS rfl) d133 (by intro e; cases e))).trans (show h131.2.2 20 1 = (nx1 : Int) from (by rw [wh131]; exact (show h124.2.2 20 1 = (nx1 : Int) from (by rw [wh124]; exact (show h117.2.2 20 1 = (nx1 : Int) from (by rw [wh117]; exact (wr_ne (ne_ty (Ih21.atS rfl) v34 (by intro e; cases e))).trans v30)))))))
                    have e144 : h138.2.2 20 2 = (st1 : Int) := (by rw [wh138]; exact (wr_ne (ne_ty (I129.atS rfl) d133 (by intro e; cases e))).trans (show h131.2.2 20 2 = (st1 : Int) from (by rw [wh131]; exact (show h124.2.2 20 2 = (st1 : Int) from (by rw [wh124]; exact (show h117.2.2 20 2 = (st1 : Int) from (by rw [wh117]; exact (wr_ne (ne_ty (Ih21.atS rfl) v34 (by intro e; cases e))).trans v31)))))))
                    have e145 : h138.2.2 20 3 = (rd1 : Int) := (by rw [wh138]; exact (wr_ne (ne_ty (I129.atS rfl) d133 (by intro e; cases e))).trans (show h131.2.2 20 3 = (rd1 : Int) from (by rw [wh131]; exact (show h124.2.2 20 3 = (rd1 : Int) from (by rw [wh124]; exact (show h117.2.2 20 3 = (rd1 : Int) from (by rw [wh117]; exact (wr_ne (ne_ty (Ih21.atS rfl) v34 (by intro e; cases e))).trans v32)))))))
                    have e146 : h138.2.2 20 4 = (rw1 : Int) := (by rw [wh138]; exact (wr_ne (ne_ty (I129.atS rfl) d133 (by intro e; cases e))).trans (show h131.2.2 20 4 = (rw1 : Int) from (by rw [wh131]; exact (show h124.2.2 20 4 = (rw1 : Int) from (by rw [wh124]; exact (show h117.2.2 20 4 = (rw1 : Int) from (by rw [wh117]; exact (wr_ne (ne_ty (Ih21.atS rfl) v34 (by intro e; cases e))).trans v33)))))))
                    have v147 : BkR h138 20 80 nx1 st1 rd1 rw1 nn1 ns1 nr1 nw1 := ⟨⟨e143, e144, e145, e146⟩, ⟨d139, d140, d141, d142⟩, w1, w2, w3, w4⟩
                    have e148 : h138.2.2 20 5 = (x10 + 1) := (by rw [wh138]; exact (wr_ne (ne_ty (I129.atS rfl) d133 (by intro e; cases e))).trans (show h131.2.2 20 5 = (x10 + 1) from (by rw [wh131]; exact wr_eq)))
                    have es : h138.2.2 st1 (Int.toNat (x10 + 1)) = y19 := by rw [wh138]; exact wr_eq
                    have vv := v147.vals
                    rw [e148] at vv
                    rw [es] at vv
                    have bw : BkW h138 20 80 := ⟨_, _, _, _, _, _, _, _, v147, k1, k2, k3, by rw [e148]; omega, by rw [e148, es]; omega, by rw [e148, es]; omega, by rw [e148]; omega⟩
                    have e1Z : h138.1 = h7.1 := by rw [wh138, wh131, wh124, wh117]; exact c24
                    have en := EN.fin (d := g - f) p8_0 p8_1 bw (by omega) (by omega) (by omega) e1Z
                    refine to_aload_n (dat dk_X0_enter 103 rfl) rfl (to_getIv (y := (x10 + 1)) e148 g_c1_28 (dat dk_X0_enter 104 rfl) (I136.atS rfl) (to_iconst (dat dk_X0_enter 105 rfl) (to_isub (dat dk_X0_enter 106 rfl) ?_)))
                    exact to_iret rfl (dat dk_X0_enter 107 rfl) (ri_mka (by omega) ⟨I136, f137, en⟩)
                  · skip
                    refine to_aload_n (dat dk_X0_enter 61 rfl) rfl (to_getR rw1 g_c1_24 (dat dk_X0_enter 62 rfl) (Ih21.atS rfl) v33 (to_iload (dat dk_X0_enter 63 rfl) rfl (to_aload_np (dat dk_X0_enter 64 rfl) (Ih21.1.2.2.2 _ _ (Ih21.bty ht)).1 rfl (to_iload (dat dk_X0_enter 65 rfl) rfl ?_))))
                    obtain ⟨x149, ex149⟩ : ∃ y : Int, h21.2.2 t 1 = y := ⟨_, rfl⟩
                    have rx149 := Ih21.blen ht
                    rw [ex149] at rx149
                    refine to_cI ca_c1_51 (dat dk_X0_enter 66 rfl) (ct_X1_byteAt l h21 Ih21 t ht y20 ry20) rfl ⟨_, _, rfl, (Ih21.bty ht)⟩ rfl (fun x150 h151 rx150 p152 => ?_)
                    obtain ⟨rfl, p152_0⟩ := p152
                    refine to_i2b (dat dk_X0_enter 67 rfl) (to_bastw (dat dk_X0_enter 68 rfl) v37 rfl (Ih21.lenN v37) (by omega) ?_)
                    intro h155 wh155
                    have I153 : Inv h155 := by rw [wh155]; exact Ih21.putA (j := (Int.toNat y19)) (x := (b8 (b8 x150))) v37 (by decide +kernel) rfl (show -128 ≤ (b8 (b8 x150)) ∧ (b8 (b8 x150)) ≤ 127 by have := b8_in (b8 x150); omega)
                    have f154 : Fr [999, 20, 21, 22, 23, 25, 358, 318, 378] h h155 := by rw [wh155]; exact Fr.putA (j := (Int.toNat y19)) (x := (b8 (b8 x150))) fh21 Ih21 v37 (by decide +kernel)
                    have d156 : h155.2.1 nx1 = some (.inl (480, nn1)) := by rw [wh155]; exact v34
                    have d157 : h155.2.1 st1 = some (.inl (80, ns1)) := by rw [wh155]; exact v35
                    have d158 : h155.2.1 rd1 = some (.inl (580, nr1)) := by rw [wh155]; exact v36
                    have d159 : h155.2.1 rw1 = some (.inl (681, nw1)) := by rw [wh155]; exact v37
                    refine to_iinc (L' := [(0, .inr (.inr 20)), (1, .inr (.inr t)), (2, .inl f), (3, .inl g), (4, .inl x2), (5, .inl x11), (6, .inl (y19 + 1)), (7, .inl y20)]) (dat dk_X0_enter 69 rfl) rfl (by decide) rfl (to_iinc (L' := [(0, .inr (.inr 20)), (1, .inr (.inr t)), (2, .inl f), (3, .inl g), (4, .inl x2), (5, .inl x11), (6, .inl (y19 + 1)), (7, .inl (y20 + 1))]) (dat dk_X0_enter 70 rfl) rfl (by decide) rfl (to_goto (dat dk_X0_enter 71 rfl) rfl ?_))
                    have e160 : h155.2.2 20 1 = (nx1 : Int) := (by rw [wh155]; exact (wr_ne (ne_ty (Ih21.atS rfl) v37 (by intro e; cases e))).trans v30)
                    have e161 : h155.2.2 20 2 = (st1 : Int) := (by rw [wh155]; exact (wr_ne (ne_ty (Ih21.atS rfl) v37 (by intro e; cases e))).trans v31)
                    have e162 : h155.2.2 20 3 = (rd1 : Int) := (by rw [wh155]; exact (wr_ne (ne_ty (Ih21.atS rfl) v37 (by intro e; cases e))).trans v32)
                    have e163 : h155.2.2 20 4 = (rw1 : Int) := (by rw [wh155]; exact (wr_ne (ne_ty (Ih21.atS rfl) v37 (by intro e; cases e))).trans v33)
                    have e164 : h155.2.2 20 5 = x10 := (by rw [wh155]; exact (wr_ne (ne_ty (Ih21.atS rfl) v37 (by intro e; cases e))).trans c23)
                    exact ihn27 (n27 - 1) (by omega) (y19 + 1) (y20 + 1) h155 (by omega) (by omega) I153 f154 ⟨⟨e160, e161, e162, e163⟩, ⟨d156, d157, d158, d159⟩, w1, w2, w3, w4⟩ (show h155.2.2 20 5 = x10 by omega) (by rw [wh155]; exact c24) (show S0 ≤ (y19 + 1) ∧ (y19 + 1) ≤ S0 + ((y20 + 1) - f) by omega) (show f ≤ (y20 + 1) ∧ (y20 + 1) ≤ g by omega) (show g - (y20 + 1) ≤ ((n27 - 1 : Nat) : Int) by omega)
            exact lp89_n27 (g - f).toNat x18 f h7 rx18 hf Ih7 f9 ⟨⟨a1, a2, a3, a4⟩, ⟨u1, u2, u3, u4⟩, w1, w2, w3, w4⟩ (show h7.2.2 20 5 = x10 by omega) rfl (show S0 ≤ x18 ∧ x18 ≤ S0 + (f - f) by omega) (show f ≤ f ∧ f ≤ g by omega) (by omega)
          · skip
            refine to_iconst (dat dk_X0_enter 41 rfl) ?_
            exact to_iret rfl (dat dk_X0_enter 42 rfl) (ri_mka (by decide) ⟨Ih7, f9, (EN.mr p8_0 p8_1 (by omega))⟩)
  · skip
    refine to_iload (dat dk_X0_enter 9 rfl) rfl ?_
    exact to_iret rfl (dat dk_X0_enter 10 rfl) (ri_mka rx2 ⟨hI, (Fr.rf _ _), (EN.rf g1 (by omega))⟩)
