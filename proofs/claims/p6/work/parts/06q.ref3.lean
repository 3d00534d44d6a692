/-! Contracts, by program. -/
abbrev Q_X12_isContent (h : Hp) (e : Int) (w nw : Nat) (u : Int) : Option V → Hp → Nat → Nat → Prop := RI (fun x H => h = H ∧ (x = 0 ∨ x = 1))
set_option maxRecDepth 100000 in
theorem ct_X12_isContent (l : Launch) (h : Hp) (hI : Inv h) (e : Int) (he : I32 e) (w nw : Nat) (hw : (w, nw) ∈ saL) (u : Int) (hu : u = 0 ∨ u = 1) : Ct l D_X12_isContent 1 20 [.inr (.inr 60), .inl e, .inr (.inr w), .inl u] h (Q_X12_isContent h e w nw u) := by
  refine ct_of pn_X12_isContent (Nat.le_of_ble_eq_true rfl) ?_
  show To l E_X12_isContent (0, [(0, .inr (.inr 60)), (1, .inl e), (2, .inr (.inr w)), (3, .inl u)], [], h, 0, 0) _
  have lw := sa_n hw
  refine to_iload_n (dat dk_X12_isContent 0 rfl) rfl ?_
  refine to_ifeq 13 (dat dk_X12_isContent 1 rfl) rfl (by omega) (fun c1 => ?_) (fun c1 => ?_)
  · skip
    refine to_iload_n (dat dk_X12_isContent 7 rfl) rfl (to_aload_np (dat dk_X12_isContent 8 rfl) (sa_pos hw) rfl (to_saLen hw (dat dk_X12_isContent 9 rfl) ?_))
    refine to_ige 21 (dat dk_X12_isContent 10 rfl) rfl he (by omega) (fun c2 => ?_) (fun c2 => ?_)
    · skip
      refine to_iconst (dat dk_X12_isContent 13 rfl) (to_istore (L' := [(0, .inr (.inr 60)), (1, .inl e), (2, .inr (.inr w)), (3, .inl u), (4, .inl 0)]) (dat dk_X12_isContent 14 rfl) (by decide) rfl ?_)
      have lp24_n5 : ∀ (n5 : Nat) (y3 : Int), (I32 y3) → (0 ≤ y3) → ((nw : Int) - y3 ≤ (n5 : Int)) → To l E_X12_isContent (24, [(0, .inr (.inr 60)), (1, .inl e), (2, .inr (.inr w)), (3, .inl u), (4, .inl y3)], [], h, 0, 0) (Q_X12_isContent h e w nw u) := by
        intro n5
        induction n5 using Nat.strongRecOn with
        | _ n5 ihn5 =>
        intro y3 ry3 c4 c6
        refine to_iload (dat dk_X12_isContent 15 rfl) rfl (to_aload_np (dat dk_X12_isContent 16 rfl) (sa_pos hw) rfl (to_saLen hw (dat dk_X12_isContent 17 rfl) ?_))
        refine to_ige 56 (dat dk_X12_isContent 18 rfl) rfl ry3 (by omega) (fun c7 => ?_) (fun c7 => ?_)
        · skip
          refine to_iconst (dat dk_X12_isContent 32 rfl) ?_
          exact to_zret rfl (dat dk_X12_isContent 33 rfl) (by decide) (ri_mk (by decide) ⟨rfl, (by decide)⟩)
        · skip
          refine to_aload_n (dat dk_X12_isContent 19 rfl) rfl (to_getR 75 g_c13_60 (dat dk_X12_isContent 20 rfl) (hI.atS rfl) (hI.atE rfl) (to_iload (dat dk_X12_isContent 21 rfl) rfl ?_))
          obtain ⟨x8, ex8⟩ : ∃ y : Int, h.2.2 75 (Int.toNat y3) = y := ⟨_, rfl⟩
          have rx8 := hI.atR (a := 75) (j := Int.toNat y3) rfl
          rw [ex8] at rx8
          refine to_baldv (q := 1) ex8 (dat dk_X12_isContent 22 rfl) (by decide) (hI.atS rfl) rfl (by decide) (by omega) ?_
          refine to_cI ca_c13_157 (dat dk_X12_isContent 23 rfl) (ct_X12_small l h hI x8 (by omega)) rfl trivial rfl (fun x9 h10 rx9 p11 => ?_)
          subst p11
          refine to_aload_np (dat dk_X12_isContent 24 rfl) (sa_pos hw) rfl (to_iload (dat dk_X12_isContent 25 rfl) rfl ?_)
          refine to_saInt hw (dat dk_X12_isContent 26 rfl) (by omega) (fun x12 rx12 => ?_)
          refine to_ieq 50 (dat dk_X12_isContent 27 rfl) rfl rx9 (by omega) (fun c13 => ?_) (fun c13 => ?_)
          · skip
            refine to_iinc (L' := [(0, .inr (.inr 60)), (1, .inl e), (2, .inr (.inr w)), (3, .inl u), (4, .inl (y3 + 1))]) (dat dk_X12_isContent 30 rfl) rfl (by decide) rfl (to_goto (dat dk_X12_isContent 31 rfl) rfl ?_)
            exact ihn5 (n5 - 1) (by omega) (y3 + 1) (by omega) (show 0 ≤ (y3 + 1) by omega) (show (nw : Int) - (y3 + 1) ≤ ((n5 - 1 : Nat) : Int) by omega)
          · skip
            refine to_iconst (dat dk_X12_isContent 28 rfl) ?_
            exact to_zret rfl (dat dk_X12_isContent 29 rfl) (by decide) (ri_mk (by decide) ⟨rfl, (by decide)⟩)
      exact lp24_n5 ((nw : Int) - (0 : Int)).toNat 0 (by decide) (show 0 ≤ (0 : Int) by omega) (by omega)
    · skip
      refine to_iconst (dat dk_X12_isContent 11 rfl) ?_
      exact to_zret rfl (dat dk_X12_isContent 12 rfl) (by decide) (ri_mk (by decide) ⟨rfl, (by decide)⟩)
  · skip
    refine to_iload_n (dat dk_X12_isContent 2 rfl) rfl (to_aload_np (dat dk_X12_isContent 3 rfl) (sa_pos hw) rfl (to_saLen hw (dat dk_X12_isContent 4 rfl) ?_))
    refine to_ieq 21 (dat dk_X12_isContent 5 rfl) rfl he (by omega) (fun c14 => ?_) (fun c14 => ?_)
    · skip
      refine to_iconst (dat dk_X12_isContent 13 rfl) (to_istore (L' := [(0, .inr (.inr 60)), (1, .inl e), (2, .inr (.inr w)), (3, .inl u), (4, .inl 0)]) (dat dk_X12_isContent 14 rfl) (by decide) rfl ?_)
      have lp24_n17 : ∀ (n17 : Nat) (y15 : Int), (I32 y15) → (0 ≤ y15) → ((nw : Int) - y15 ≤ (n17 : Int)) → To l E_X12_isContent (24, [(0, .inr (.inr 60)), (1, .inl e), (2, .inr (.inr w)), (3, .inl u), (4, .inl y15)], [], h, 0, 0) (Q_X12_isContent h e w nw u) := by
        intro n17
        induction n17 using Nat.strongRecOn with
        | _ n17 ihn17 =>
        intro y15 ry15 c16 c18
        refine to_iload (dat dk_X12_isContent 15 rfl) rfl (to_aload_np (dat dk_X12_isContent 16 rfl) (sa_pos hw) rfl (to_saLen hw (dat dk_X12_isContent 17 rfl) ?_))
        refine to_ige 56 (dat dk_X12_isContent 18 rfl) rfl ry15 (by omega) (fun c19 => ?_) (fun c19 => ?_)
        · skip
          refine to_iconst (dat dk_X12_isContent 32 rfl) ?_
          exact to_zret rfl (dat dk_X12_isContent 33 rfl) (by decide) (ri_mk (by decide) ⟨rfl, (by decide)⟩)
        · skip
          refine to_aload_n (dat dk_X12_isContent 19 rfl) rfl (to_getR 75 g_c13_60 (dat dk_X12_isContent 20 rfl) (hI.atS rfl) (hI.atE rfl) (to_iload (dat dk_X12_isContent 21 rfl) rfl ?_))
          obtain ⟨x20, ex20⟩ : ∃ y : Int, h.2.2 75 (Int.toNat y15) = y := ⟨_, rfl⟩
          have rx20 := hI.atR (a := 75) (j := Int.toNat y15) rfl
          rw [ex20] at rx20
          refine to_baldv (q := 1) ex20 (dat dk_X12_isContent 22 rfl) (by decide) (hI.atS rfl) rfl (by decide) (by omega) ?_
          refine to_cI ca_c13_157 (dat dk_X12_isContent 23 rfl) (ct_X12_small l h hI x20 (by omega)) rfl trivial rfl (fun x21 h22 rx21 p23 => ?_)
          subst p23
          refine to_aload_np (dat dk_X12_isContent 24 rfl) (sa_pos hw) rfl (to_iload (dat dk_X12_isContent 25 rfl) rfl ?_)
          refine to_saInt hw (dat dk_X12_isContent 26 rfl) (by omega) (fun x24 rx24 => ?_)
          refine to_ieq 50 (dat dk_X12_isContent 27 rfl) rfl rx21 (by omega) (fun c25 => ?_) (fun c25 => ?_)
          · skip
            refine to_iinc (L' := [(0, .inr (.inr 60)), (1, .inl e), (2, .inr (.inr w)), (3, .inl u), (4, .inl (y15 + 1))]) (dat dk_X12_isContent 30 rfl) rfl (by decide) rfl (to_goto (dat dk_X12_isContent 31 rfl) rfl ?_)
            exact ihn17 (n17 - 1) (by omega) (y15 + 1) (by omega) (show 0 ≤ (y15 + 1) by omega) (show (nw : Int) - (y15 + 1) ≤ ((n17 - 1 : Nat) : Int) by omega)
          · skip
            refine to_iconst (dat dk_X12_isContent 28 rfl) ?_
            exact to_zret rfl (dat dk_X12_isContent 29 rfl) (by decide) (ri_mk (by decide) ⟨rfl, (by decide)⟩)
      exact lp24_n17 ((nw : Int) - (0 : Int)).toNat 0 (by decide) (show 0 ≤ (0 : Int) by omega) (by omega)
    · skip
      refine to_goto (dat dk_X12_isContent 6 rfl) rfl (to_iconst (dat dk_X12_isContent 11 rfl) ?_)
      exact to_zret rfl (dat dk_X12_isContent 12 rfl) (by decide) (ri_mk (by decide) ⟨rfl, (by decide)⟩)
abbrev Q_X12_findBoundary (h : Hp) (f : Int) : Option V → Hp → Nat → Nat → Prop := RV (fun H => Inv H ∧ Fr [77, 228] h H)
set_option maxRecDepth 100000 in
theorem ct_X12_findBoundary (l : Launch) (h : Hp) (hI : Inv h) (f : Int) (hf : I32 f) (g0 : 0 ≤ f ∧ f ≤ h.2.2 60 23) : Ct l D_X12_findBoundary 2 46 [.inr (.inr 60), .inl f] h (Q_X12_findBoundary h f) := by
  refine ct_of pn_X12_findBoundary (Nat.le_of_ble_eq_true rfl) ?_
  show To l E_X12_findBoundary (0, [(0, .inr (.inr 60)), (1, .inl f)], [], h, 0, 0) _
  obtain ⟨x1, ex1⟩ : ∃ y : Int, h.2.2 60 23 = y := ⟨_, rfl⟩
  have rx1 := hI.atR (a := 60) (j := 23) rfl
  rw [ex1] at rx1
  obtain ⟨x2, ex2⟩ : ∃ y : Int, h.2.2 60 28 = y := ⟨_, rfl⟩
  have rx2 := hI.atR (a := 60) (j := 28) rfl
  rw [ex2] at rx2
  refine to_aload_n (dat dk_X12_findBoundary 0 rfl) rfl (to_iconst (dat dk_X12_findBoundary 1 rfl) (to_putIw p_c13_234 (dat dk_X12_findBoundary 2 rfl) (hI.atS rfl) ?_))
  intro h5 wh5
  have I3 : Inv h5 := by rw [wh5]; exact hI.put (a := 60) (j := 28) (x := 0) (0) (1300) rfl rfl (show (0 : Int) ≤ 0 ∧ 0 ≤ 1300 by decide)
  have f4 : Fr [77, 228] h h5 := by rw [wh5]; exact Fr.putF (a := 60) (j := 28) (x := 0) (Fr.rf _ _) rfl
  refine to_iload_n (dat dk_X12_findBoundary 3 rfl) rfl (to_istore_n (L' := [(0, .inr (.inr 60)), (1, .inl f), (2, .inl f)]) (dat dk_X12_findBoundary 4 rfl) (by decide) rfl ?_)
  have e7 : h5.2.2 60 23 = x1 := (by rw [wh5]; exact ex1)
  have lp7_n9 : ∀ (n9 : Nat) (y6 : Int), (I32 y6) → (0 ≤ y6 ∧ y6 ≤ h5.2.2 60 23) → (h5.2.2 60 23 - y6 ≤ (n9 : Int)) → To l E_X12_findBoundary (7, [(0, .inr (.inr 60)), (1, .inl f), (2, .inl y6)], [], h5, 0, 0) (Q_X12_findBoundary h f) := by
    intro n9
    induction n9 using Nat.strongRecOn with
    | _ n9 ihn9 =>
    intro y6 ry6 c8 c10
    refine to_iload_n (dat dk_X12_findBoundary 5 rfl) rfl (to_aload_n (dat dk_X12_findBoundary 6 rfl) rfl (to_getIv (y := x1) (by rw [wh5]; exact ex1) g_c13_171 (dat dk_X12_findBoundary 7 rfl) (I3.atS rfl) ?_))
    refine to_ige 274 (dat dk_X12_findBoundary 8 rfl) rfl ry6 (by omega) (fun c11 => ?_) (fun c11 => ?_)
    · skip
      exact to_vret rfl (dat dk_X12_findBoundary 141 rfl) (rv_mk ⟨I3, f4⟩)
    · skip
      refine to_iload_n (dat dk_X12_findBoundary 9 rfl) rfl (to_iconst (dat dk_X12_findBoundary 10 rfl) (to_iadd (dat dk_X12_findBoundary 11 rfl) (to_istore_n (L' := [(0, .inr (.inr 60)), (1, .inl f), (2, .inl y6), (3, .inl (y6 + 1))]) (dat dk_X12_findBoundary 12 rfl) (by decide) rfl (to_iload_n (dat dk_X12_findBoundary 13 rfl) rfl (to_istore (L' := [(0, .inr (.inr 60)), (1, .inl f), (2, .inl y6), (3, .inl (y6 + 1)), (4, .inl (y6 + 1))]) (dat dk_X12_findBoundary 14 rfl) (by decide) rfl ?_)))))
      have e13 : h5.2.2 60 23 = x1 := (by rw [wh5]; exact ex1)
      have lp22_n15 : ∀ (n15 : Nat) (y12 : Int), (I32 y12) → ((y6 + 1) ≤ y12 ∧ y12 ≤ h5.2.2 60 23) → (h5.2.2 60 23 - y12 ≤ (n15 : Int)) → To l E_X12_findBoundary (22, [(0, .inr (.inr 60)), (1, .inl f), (2, .inl y6), (3, .inl (y6 + 1)), (4, .inl y12)], [], h5, 0, 0) (Q_X12_findBoundary h f) := by
        intro n15
        induction n15 using Nat.strongRecOn with
        | _ n15 ihn15 =>
        intro y12 ry12 c14 c16
        refine to_iload (dat dk_X12_findBoundary 15 rfl) rfl (to_aload_n (dat dk_X12_findBoundary 16 rfl) rfl (to_getIv (y := x1) (by rw [wh5]; exact ex1) g_c13_171 (dat dk_X12_findBoundary 17 rfl) (I3.atS rfl) ?_))
        refine to_ige 49 (dat dk_X12_findBoundary 18 rfl) rfl ry12 (by omega) (fun c17 => ?_) (fun c17 => ?_)
        · skip
          refine to_iload (dat dk_X12_findBoundary 27 rfl) rfl (to_istore_n (L' := [(0, .inr (.inr 60)), (1, .inl f), (2, .inl y12), (3, .inl (y6 + 1)), (4, .inl y12)]) (dat dk_X12_findBoundary 28 rfl) (by decide) rfl ?_)
          have lp52_n20 : ∀ (n20 : Nat) (y18 : Int), (I32 y18) → (0 ≤ y18 ∧ y18 ≤ y12) → (y12 - y18 ≤ (n20 : Int)) → To l E_X12_findBoundary (52, [(0, .inr (.inr 60)), (1, .inl f), (2, .inl y12), (3, .inl y18), (4, .inl y12)], [], h5, 0, 0) (Q_X12_findBoundary h f) := by
            intro n20
            induction n20 using Nat.strongRecOn with
            | _ n20 ihn20 =>
            intro y18 ry18 c19 c21
            refine to_iload_n (dat dk_X12_findBoundary 29 rfl) rfl (to_iload (dat dk_X12_findBoundary 30 rfl) rfl ?_)
            refine to_ige 76 (dat dk_X12_findBoundary 31 rfl) rfl ry18 ry12 (fun c22 => ?_) (fun c22 => ?_)
            · skip
              have e24 : h5.2.2 60 23 = x1 := (by rw [wh5]; exact ex1)
              have lp76_n26 : ∀ (n26 : Nat) (y23 : Int), (I32 y23) → (y18 ≤ y23 ∧ y23 ≤ h5.2.2 60 23) → (y23 ≤ (n26 : Int)) → To l E_X12_findBoundary (76, [(0, .inr (.inr 60)), (1, .inl f), (2, .inl y12), (3, .inl y18), (4, .inl y23)], [], h5, 0, 0) (Q_X12_findBoundary h f) := by
                intro n26
                induction n26 using Nat.strongRecOn with
                | _ n26 ihn26 =>
                intro y23 ry23 c25 c27
                refine to_iload (dat dk_X12_findBoundary 40 rfl) rfl (to_iload_n (dat dk_X12_findBoundary 41 rfl) rfl ?_)
                refine to_ile 103 (dat dk_X12_findBoundary 42 rfl) rfl ry23 ry18 (fun c28 => ?_) (fun c28 => ?_)
                · skip
                  refine to_iload_n (dat dk_X12_findBoundary 53 rfl) rfl (to_istore (L' := [(0, .inr (.inr 60)), (1, .inl f), (2, .inl y12), (3, .inl y18), (4, .inl y23), (5, .inl y18)]) (dat dk_X12_findBoundary 54 rfl) (by decide) rfl ?_)
                  have lp106_n31 : ∀ (n31 : Nat) (y29 : Int), (I32 y29) → (y18 ≤ y29 ∧ y29 ≤ y23) → (y23 - y29 ≤ (n31 : Int)) → To l E_X12_findBoundary (106, [(0, .inr (.inr 60)), (1, .inl f), (2, .inl y12), (3, .inl y18), (4, .inl y23), (5, .inl y29)], [], h5, 0, 0) (Q_X12_findBoundary h f) := by
                    intro n31
                    induction n31 using Nat.strongRecOn with
                    | _ n31 ihn31 =>
                    intro y29 ry29 c30 c32
                    refine to_iload (dat dk_X12_findBoundary 55 rfl) rfl (to_iload (dat dk_X12_findBoundary 56 rfl) rfl ?_)
                    refine to_ige 131 (dat dk_X12_findBoundary 57 rfl) rfl ry29 ry23 (fun c33 => ?_) (fun c33 => ?_)
                    · skip
                      refine to_iload (dat dk_X12_findBoundary 66 rfl) rfl (to_iload (dat dk_X12_findBoundary 67 rfl) rfl ?_)
                      refine to_ieq 7 (dat dk_X12_findBoundary 68 rfl) rfl ry29 ry23 (fun c34 => ?_) (fun c34 => ?_)
                      · skip
                        refine to_pick [0, 1, 2] rfl ?_
                        have e35 : h5.2.2 60 23 = x1 := (by rw [wh5]; exact ex1)
                        exact ihn9 (n9 - 1) (by omega) y12 ry12 (show 0 ≤ y12 ∧ y12 ≤ h5.2.2 60 23 by omega) (show h5.2.2 60 23 - y12 ≤ ((n9 - 1 : Nat) : Int) by omega)
                      · skip
                        refine to_aload_n (dat dk_X12_findBoundary 69 rfl) rfl (to_getR 75 g_c13_60 (dat dk_X12_findBoundary 70 rfl) (I3.atS rfl) (I3.atE rfl) (to_iload_n (dat dk_X12_findBoundary 71 rfl) rfl (to_iload (dat dk_X12_findBoundary 72 rfl) rfl (to_gst (C := "MailArchiveModel") (f9 := "BOUNDARY") (d9 := "[I") (List.mem_of_getElem? (i := 5) rfl) (tin 8 133 (by decide +kernel) rfl) (dat dk_X12_findBoundary 73 rfl) (to_iconst (dat dk_X12_findBoundary 74 rfl) (to_bipush (dat dk_X12_findBoundary 75 rfl) (by decide) ?_))))))
                        refine to_cI ca_c13_198 (dat dk_X12_findBoundary 76 rfl) (ct_X12_same l h5 I3 75 1300 rfl y18 ry18 y29 ry29 1000204 8 (List.mem_of_getElem? (i := 3) rfl) 0 (by decide) 8 (by decide) (show 0 ≤ y18 ∧ y18 ≤ 640000 by omega) (show -1 ≤ y29 ∧ y29 ≤ 640000 by omega) (show 0 ≤ (0 : Int) ∧ (0 : Int) ≤ 100 by omega) (show 0 ≤ (8 : Int) ∧ (8 : Int) ≤ (8 : Int) by omega) (show y29 ≤ (1300 : Int) ∨ y18 + ((8 : Int) - (0 : Int)) ≤ (1300 : Int) by omega)) rfl trivial rfl (fun x36 h37 rx36 p38 => ?_)
                        obtain ⟨rfl, zx36⟩ := p38
                        refine to_ifne 160 (dat dk_X12_findBoundary 77 rfl) rfl rx36 (fun c39 => ?_) (fun c39 => ?_)
                        · skip
                          have jn202_n42 : ∀ (y40 : Int), (y40 = 0 ∨ y40 = 1) → (y40 = 0 ∨ 2 < y23 - y29) → To l E_X12_findBoundary (202, [(0, .inr (.inr 60)), (1, .inl f), (2, .inl y12), (3, .inl y18), (4, .inl y23), (5, .inl y29)], [.inl y40], h5, 0, 0) (Q_X12_findBoundary h f) := by
                            intro y40 ry40 c41
                            refine to_istore (L' := [(0, .inr (.inr 60)), (1, .inl f), (2, .inl y12), (3, .inl y18), (4, .inl y23), (5, .inl y29), (6, .inl y40)]) (dat dk_X12_findBoundary 103 rfl) (by decide) rfl ?_
                            have jn220_n45 : ∀ (y43 : Int), (I32 y43) → (y29 + 1 ≤ y43 ∧ y43 ≤ y29 + 2) → To l E_X12_findBoundary (220, [(0, .inr (.inr 60)), (1, .inl f), (2, .inl y12), (3, .inl y18), (4, .inl y23), (5, .inl y29), (6, .inl y40)], [.inl y43], h5, 0, 0) (Q_X12_findBoundary h f) := by
                              intro y43 ry43 c44
                              refine to_istore (L' := [(0, .inr (.inr 60)), (1, .inl f), (2, .inl y12), (3, .inl y18), (4, .inl y23), (5, .inl y29), (6, .inl y40), (7, .inl y43)]) (dat dk_X12_findBoundary 113 rfl) (by decide) rfl ?_
                              have e49 : h5.2.2 60 28 = (0 : Int) := (by rw [wh5]; exact wr_eq)
                              have lp222_n51 : ∀ (n51 : Nat) (y46 : Int) (h47 : Hp), (I32 y46) → (Inv h47) → (Fr [77, 228] h h47) → (y29 < y46 ∧ y46 ≤ 1302) → (h47.2.2 60 28 ≤ y46) → (y23 - y46 ≤ (n51 : Int)) → To l E_X12_findBoundary (222, [(0, .inr (.inr 60)), (1, .inl f), (2, .inl y12), (3, .inl y18), (4, .inl y23), (5, .inl y29), (6, .inl y40), (7, .inl y46)], [], h47, 0, 0) (Q_X12_findBoundary h f) := by
                                intro n51
                                induction n51 using Nat.strongRecOn with
                                | _ n51 ihn51 =>
                                intro y46 h47 ry46 Ih47 fh47 c48 c50 c52
                                obtain ⟨x53, ex53⟩ : ∃ y : Int, h47.2.2 60 28 = y := ⟨_, rfl⟩
                                have rx53 := Ih47.atR (a := 60) (j := 28) rfl
                                rw [ex53] at rx53
                                refine to_iload (dat dk_X12_findBoundary 114 rfl) rfl (to_iload (dat dk_X12_findBoundary 115 rfl) rfl ?_)
                                refine to_ifeq 236 (dat dk_X12_findBoundary 116 rfl) rfl (by omega) (fun c54 => ?_) (fun c54 => ?_)
                                · skip
                                  refine to_iload (dat dk_X12_findBoundary 121 rfl) rfl ?_
                                  refine to_ige 273 (dat dk_X12_findBoundary 122 rfl) rfl ry46 ry23 (fun c55 => ?_) (fun c55 => ?_)
                                  · skip
                                    exact to_vret rfl (dat dk_X12_findBoundary 140 rfl) (rv_mk ⟨Ih47, fh47⟩)
                                  · skip
                                    refine to_aload_n (dat dk_X12_findBoundary 123 rfl) rfl (to_getR 77 g_c13_66 (dat dk_X12_findBoundary 124 rfl) (Ih47.atS rfl) (Ih47.atE rfl) (to_aload_n (dat dk_X12_findBoundary 125 rfl) rfl (to_getIv (y := x53) ex53 g_c13_234 (dat dk_X12_findBoundary 126 rfl) (Ih47.atS rfl) (to_aload_n (dat dk_X12_findBoundary 127 rfl) rfl (to_getR 75 g_c13_60 (dat dk_X12_findBoundary 128 rfl) (Ih47.atS rfl) (Ih47.atE rfl) (to_iload (dat dk_X12_findBoundary 129 rfl) rfl ?_))))))
                                    obtain ⟨x56, ex56⟩ : ∃ y : Int, h47.2.2 75 (Int.toNat y46) = y := ⟨_, rfl⟩
                                    have rx56 := Ih47.atR (a := 75) (j := Int.toNat y46) rfl
                                    rw [ex56] at rx56
                                    refine to_baldv (q := 1) ex56 (dat dk_X12_findBoundary 130 rfl) (by decide) (Ih47.atS rfl) rfl (by decide) (by omega) (to_bastw (dat dk_X12_findBoundary 131 rfl) (Ih47.atS rfl) rfl (by decide) (by omega) ?_)
                                    intro h59 wh59
                                    have I57 : Inv h59 := by rw [wh59]; exact Ih47.put (a := 77) (j := (Int.toNat x53)) (x := (b8 x56)) (-128) (127) rfl rfl (show (-128 : Int) ≤ (b8 x56) ∧ (b8 x56) ≤ 127 by have := b8_in x56; omega)
                                    have f58 : Fr [77, 228] h h59 := by rw [wh59]; exact Fr.putF (a := 77) (j := (Int.toNat x53)) (x := (b8 x56)) fh47 rfl
                                    refine to_aload_n (dat dk_X12_findBoundary 132 rfl) rfl (to_dup (dat dk_X12_findBoundary 133 rfl) rfl (to_getIv (y := x53) (by rw [wh59]; exact ex53) g_c13_234 (dat dk_X12_findBoundary 134 rfl) (I57.atS rfl) (to_iconst (dat dk_X12_findBoundary 135 rfl) (to_iadd (dat dk_X12_findBoundary 136 rfl) (to_putIw p_c13_234 (dat dk_X12_findBoundary 137 rfl) (I57.atS rfl) ?_)))))
                                    intro h62 wh62
                                    have I60 : Inv h62 := by rw [wh62]; exact I57.put (a := 60) (j := 28) (x := (x53 + 1)) (0) (1300) rfl rfl (show (0 : Int) ≤ (x53 + 1) ∧ (x53 + 1) ≤ 1300 by omega)
                                    have f61 : Fr [77, 228] h h62 := by rw [wh62]; exact Fr.putF (a := 60) (j := 28) (x := (x53 + 1)) f58 rfl
                                    refine to_iinc (L' := [(0, .inr (.inr 60)), (1, .inl f), (2, .inl y12), (3, .inl y18), (4, .inl y23), (5, .inl y29), (6, .inl y40), (7, .inl (y46 + 1))]) (dat dk_X12_findBoundary 138 rfl) rfl (by decide) rfl (to_goto (dat dk_X12_findBoundary 139 rfl) rfl ?_)
                                    have e63 : h62.2.2 60 28 = (x53 + 1) := (by rw [wh62]; exact wr_eq)
                                    exact ihn51 (n51 - 1) (by omega) (y46 + 1) h62 (by omega) I60 f61 (show y29 < (y46 + 1) ∧ (y46 + 1) ≤ 1302 by omega) (show h62.2.2 60 28 ≤ (y46 + 1) by omega) (show y23 - (y46 + 1) ≤ ((n51 - 1 : Nat) : Int) by omega)
                                · skip
                                  refine to_iload (dat dk_X12_findBoundary 117 rfl) rfl (to_iconst (dat dk_X12_findBoundary 118 rfl) (to_isub (dat dk_X12_findBoundary 119 rfl) (to_goto (dat dk_X12_findBoundary 120 rfl) rfl ?_)))
                                  refine to_ige 273 (dat dk_X12_findBoundary 122 rfl) rfl ry46 (by omega) (fun c64 => ?_) (fun c64 => ?_)
                                  · skip
                                    exact to_vret rfl (dat dk_X12_findBoundary 140 rfl) (rv_mk ⟨Ih47, fh47⟩)
                                  · skip
                                    refine to_aload_n (dat dk_X12_findBoundary 123 rfl) rfl (to_getR 77 g_c13_66 (dat dk_X12_findBoundary 124 rfl) (Ih47.atS rfl) (Ih47.atE rfl) (to_aload_n (dat dk_X12_findBoundary 125 rfl) rfl (to_getIv (y := x53) ex53 g_c13_234 (dat dk_X12_findBoundary 126 rfl) (Ih47.atS rfl) (to_aload_n (dat dk_X12_findBoundary 127 rfl) rfl (to_getR 75 g_c13_60 (dat dk_X12_findBoundary 128 rfl) (Ih47.atS rfl) (Ih47.atE rfl) (to_iload (dat dk_X12_findBoundary 129 rfl) rfl ?_))))))
                                    obtain ⟨x65, ex65⟩ : ∃ y : Int, h47.2.2 75 (Int.toNat y46) = y := ⟨_, rfl⟩
                                    have rx65 := Ih47.atR (a := 75) (j := Int.toNat y46) rfl
                                    rw [ex65] at rx65
                                    refine to_baldv (q := 1) ex65 (dat dk_X12_findBoundary 130 rfl) (by decide) (Ih47.atS rfl) rfl (by decide) (by omega) (to_bastw (dat dk_X12_findBoundary 131 rfl) (Ih47.atS rfl) rfl (by decide) (by omega) ?_)
                                    intro h68 wh68
                                    have I66 : Inv h68 := by rw [wh68]; exact Ih47.put (a := 77) (j := (Int.toNat x53)) (x := (b8 x65)) (-128) (127) rfl rfl (show (-128 : Int) ≤ (b8 x65) ∧ (b8 x65) ≤ 127 by have := b8_in x65; omega)
                                    have f67 : Fr [77, 228] h h68 := by rw [wh68]; exact Fr.putF (a := 77) (j := (Int.toNat x53)) (x := (b8 x65)) fh47 rfl
                                    refine to_aload_n (dat dk_X12_findBoundary 132 rfl) rfl (to_dup (dat dk_X12_findBoundary 133 rfl) rfl (to_getIv (y := x53) (by rw [wh68]; exact ex53) g_c13_234 (dat dk_X12_findBoundary 134 rfl) (I66.atS rfl) (to_iconst (dat dk_X12_findBoundary 135 rfl) (to_iadd (dat dk_X12_findBoundary 136 rfl) (to_putIw p_c13_234 (dat dk_X12_findBoundary 137 rfl) (I66.atS rfl) ?_)))))
                                    intro h71 wh71
                                    have I69 : Inv h71 := by rw [wh71]; exact I66.put (a := 60) (j := 28) (x := (x53 + 1)) (0) (1300) rfl rfl (show (0 : Int) ≤ (x53 + 1) ∧ (x53 + 1) ≤ 1300 by omega)
                                    have f70 : Fr [77, 228] h h71 := by rw [wh71]; exact Fr.putF (a := 60) (j := 28) (x := (x53 + 1)) f67 rfl
                                    refine to_iinc (L' := [(0, .inr (.inr 60)), (1, .inl f), (2, .inl y12), (3, .inl y18), (4, .inl y23), (5, .inl y29), (6, .inl y40), (7, .inl (y46 + 1))]) (dat dk_X12_findBoundary 138 rfl) rfl (by decide) rfl (to_goto (dat dk_X12_findBoundary 139 rfl) rfl ?_)
                                    have e72 : h71.2.2 60 28 = (x53 + 1) := (by rw [wh71]; exact wr_eq)
                                    exact ihn51 (n51 - 1) (by omega) (y46 + 1) h71 (by omega) I69 f70 (show y29 < (y46 + 1) ∧ (y46 + 1) ≤ 1302 by omega) (show h71.2.2 60 28 ≤ (y46 + 1) by omega) (show y23 - (y46 + 1) ≤ ((n51 - 1 : Nat) : Int) by omega)
                              exact lp222_n51 (y23 - y43).toNat y43 h5 ry43 I3 f4 (show y29 < y43 ∧ y43 ≤ 1302 by omega) (show h5.2.2 60 28 ≤ y43 by omega) (by omega)
                            refine to_iload (dat dk_X12_findBoundary 104 rfl) rfl ?_
                            refine to_ifeq 216 (dat dk_X12_findBoundary 105 rfl) rfl (by omega) (fun c73 => ?_) (fun c73 => ?_)
                            · skip
                              refine to_iload (dat dk_X12_findBoundary 110 rfl) rfl (to_iconst (dat dk_X12_findBoundary 111 rfl) (to_iadd (dat dk_X12_findBoundary 112 rfl) ?_))
                              exact jn220_n45 (y29 + 1) (by omega) (show y29 + 1 ≤ (y29 + 1) ∧ (y29 + 1) ≤ y29 + 2 by omega)
                            · skip
                              refine to_iload (dat dk_X12_findBoundary 106 rfl) rfl (to_iconst (dat dk_X12_findBoundary 107 rfl) (to_iadd (dat dk_X12_findBoundary 108 rfl) (to_goto (dat dk_X12_findBoundary 109 rfl) rfl ?_)))
                              exact jn220_n45 (y29 + 2) (by omega) (show y29 + 1 ≤ (y29 + 2) ∧ (y29 + 2) ≤ y29 + 2 by omega)
                          refine to_iload (dat dk_X12_findBoundary 79 rfl) rfl (to_iload (dat dk_X12_findBoundary 80 rfl) rfl (to_isub (dat dk_X12_findBoundary 81 rfl) (to_iconst (dat dk_X12_findBoundary 82 rfl) ?_)))
                          refine to_ile 201 (dat dk_X12_findBoundary 83 rfl) rfl (by omega) (by decide) (fun c74 => ?_) (fun c74 => ?_)
                          · skip
                            refine to_iconst (dat dk_X12_findBoundary 102 rfl) ?_
                            exact jn202_n42 0 (by decide) (show (0 : Int) = 0 ∨ 2 < y23 - y29 by omega)
                          · skip
                            refine to_aload_n (dat dk_X12_findBoundary 84 rfl) rfl (to_getR 75 g_c13_60 (dat dk_X12_findBoundary 85 rfl) (I3.atS rfl) (I3.atE rfl) (to_iload (dat dk_X12_findBoundary 86 rfl) rfl (to_iconst (dat dk_X12_findBoundary 87 rfl) (to_iadd (dat dk_X12_findBoundary 88 rfl) ?_))))
                            obtain ⟨x75, ex75⟩ : ∃ y : Int, h5.2.2 75 (Int.toNat (y29 + 1)) = y := ⟨_, rfl⟩
                            have rx75 := I3.atR (a := 75) (j := Int.toNat (y29 + 1)) rfl
                            rw [ex75] at rx75
                            refine to_baldv (q := 1) ex75 (dat dk_X12_findBoundary 89 rfl) (by decide) (I3.atS rfl) rfl (by decide) (by omega) (to_bipush (dat dk_X12_findBoundary 90 rfl) (by decide) ?_)
                            refine to_ine 201 (dat dk_X12_findBoundary 91 rfl) rfl (by omega) (by decide) (fun c76 => ?_) (fun c76 => ?_)
                            · skip
                              refine to_iconst (dat dk_X12_findBoundary 102 rfl) ?_
                              exact jn202_n42 0 (by decide) (show (0 : Int) = 0 ∨ 2 < y23 - y29 by omega)
                            · skip
                              refine to_aload_n (dat dk_X12_findBoundary 92 rfl) rfl (to_getR 75 g_c13_60 (dat dk_X12_findBoundary 93 rfl) (I3.atS rfl) (I3.atE rfl) (to_iload (dat dk_X12_findBoundary 94 rfl) rfl (to_iconst (dat dk_X12_findBoundary 95 rfl) (to_isub (dat dk_X12_findBoundary 96 rfl) ?_))))
                              obtain ⟨x77, ex77⟩ : ∃ y : Int, h5.2.2 75 (Int.toNat (y23 - 1)) = y := ⟨_, rfl⟩
                              have rx77 := I3.atR (a := 75) (j := Int.toNat (y23 - 1)) rfl
                              rw [ex77] at rx77
                              refine to_baldv (q := 1) ex77 (dat dk_X12_findBoundary 97 rfl) (by decide) (I3.atS rfl) rfl (by decide) (by omega) (to_bipush (dat dk_X12_findBoundary 98 rfl) (by decide) ?_)
                              refine to_ine 201 (dat dk_X12_findBoundary 99 rfl) rfl (by omega) (by decide) (fun c78 => ?_) (fun c78 => ?_)
                              · skip
                                refine to_iconst (dat dk_X12_findBoundary 102 rfl) ?_
                                exact jn202_n42 0 (by decide) (show (0 : Int) = 0 ∨ 2 < y23 - y29 by omega)
                              · skip
                                refine to_iconst (dat dk_X12_findBoundary 100 rfl) (to_goto (dat dk_X12_findBoundary 101 rfl) rfl ?_)
                                exact jn202_n42 1 (by decide) (show (1 : Int) = 0 ∨ 2 < y23 - y29 by omega)
                        · skip
                          refine to_goto (dat dk_X12_findBoundary 78 rfl) rfl ?_
                          refine to_pick [0, 1, 2] rfl ?_
                          have e79 : h5.2.2 60 23 = x1 := (by rw [wh5]; exact ex1)
                          exact ihn9 (n9 - 1) (by omega) y12 ry12 (show 0 ≤ y12 ∧ y12 ≤ h5.2.2 60 23 by omega) (show h5.2.2 60 23 - y12 ≤ ((n9 - 1 : Nat) : Int) by omega)
                    · skip
                      refine to_aload_n (dat dk_X12_findBoundary 58 rfl) rfl (to_getR 75 g_c13_60 (dat dk_X12_findBoundary 59 rfl) (I3.atS rfl) (I3.atE rfl) (to_iload (dat dk_X12_findBoundary 60 rfl) rfl ?_))
                      obtain ⟨x80, ex80⟩ : ∃ y : Int, h5.2.2 75 (Int.toNat y29) = y := ⟨_, rfl⟩
                      have rx80 := I3.atR (a := 75) (j := Int.toNat y29) rfl
                      rw [ex80] at rx80
                      refine to_baldv (q := 1) ex80 (dat dk_X12_findBoundary 61 rfl) (by decide) (I3.atS rfl) rfl (by decide) (by omega) (to_bipush (dat dk_X12_findBoundary 62 rfl) (by decide) ?_)
                      refine to_ieq 131 (dat dk_X12_findBoundary 63 rfl) rfl (by omega) (by decide) (fun c81 => ?_) (fun c81 => ?_)
                      · skip
                        refine to_iload (dat dk_X12_findBoundary 66 rfl) rfl (to_iload (dat dk_X12_findBoundary 67 rfl) rfl ?_)
                        refine to_ieq 7 (dat dk_X12_findBoundary 68 rfl) rfl ry29 ry23 (fun c82 => ?_) (fun c82 => ?_)
                        · skip
                          refine to_pick [0, 1, 2] rfl ?_
                          have e83 : h5.2.2 60 23 = x1 := (by rw [wh5]; exact ex1)
                          exact ihn9 (n9 - 1) (by omega) y12 ry12 (show 0 ≤ y12 ∧ y12 ≤ h5.2.2 60 23 by omega) (show h5.2.2 60 23 - y12 ≤ ((n9 - 1 : Nat) : Int) by omega)
                        · skip
                          refine to_aload_n (dat dk_X12_findBoundary 69 rfl) rfl (to_getR 75 g_c13_60 (dat dk_X12_findBoundary 70 rfl) (I3.atS rfl) (I3.atE rfl) (to_iload_n (dat dk_X12_findBoundary 71 rfl) rfl (to_iload (dat dk_X12_findBoundary 72 rfl) rfl (to_gst (C := "MailArchiveModel") (f9 := "BOUNDARY") (d9 := "[I") (List.mem_of_getElem? (i := 5) rfl) (tin 8 133 (by decide +kernel) rfl) (dat dk_X12_findBoundary 73 rfl) (to_iconst (dat dk_X12_findBoundary 74 rfl) (to_bipush (dat dk_X12_findBoundary 75 rfl) (by decide) ?_))))))
                          refine to_cI ca_c13_198 (dat dk_X12_findBoundary 76 rfl) (ct_X12_same l h5 I3 75 1300 rfl y18 ry18 y29 ry29 1000204 8 (List.mem_of_getElem? (i := 3) rfl) 0 (by decide) 8 (by decide) (show 0 ≤ y18 ∧ y18 ≤ 640000 by omega) (show -1 ≤ y29 ∧ y29 ≤ 640000 by omega) (show 0 ≤ (0 : Int) ∧ (0 : Int) ≤ 100 by omega) (show 0 ≤ (8 : Int) ∧ (8 : Int) ≤ (8 : Int) by omega) (show y29 ≤ (1300 : Int) ∨ y18 + ((8 : Int) - (0 : Int)) ≤ (1300 : Int) by omega)) rfl trivial rfl (fun x84 h85 rx84 p86 => ?_)
                          obtain ⟨rfl, zx84⟩ := p86
                          refine to_ifne 160 (dat dk_X12_findBoundary 77 rfl) rfl rx84 (fun c87 => ?_) (fun c87 => ?_)
                          · skip
                            have jn202_n90 : ∀ (y88 : Int), (y88 = 0 ∨ y88 = 1) → (y88 = 0 ∨ 2 < y23 - y29) → To l E_X12_findBoundary (202, [(0, .inr (.inr 60)), (1, .inl f), (2, .inl y12), (3, .inl y18), (4, .inl y23), (5, .inl y29)], [.inl y88], h5, 0, 0) (Q_X12_findBoundary h f) := by
                              intro y88 ry88 c89
                              refine to_istore (L' := [(0, .inr (.inr 60)), (1, .inl f), (2, .inl y12), (3, .inl y18), (4, .inl y23), (5, .inl y29), (6, .inl y88)]) (dat dk_X12_findBoundary 103 rfl) (by decide) rfl ?_
                              have jn220_n93 : ∀ (y91 : Int), (I32 y91) → (y29 + 1 ≤ y91 ∧ y91 ≤ y29 + 2) → To l E_X12_findBoundary (220, [(0, .inr (.inr 60)), (1, .inl f), (2, .inl y12), (3, .inl y18), (4, .inl y23), (5, .inl y29), (6, .inl y88)], [.inl y91], h5, 0, 0) (Q_X12_findBoundary h f) := by
                                intro y91 ry91 c92
                                refine to_istore (L' := [(0, .inr (.inr 60)), (1, .inl f), (2, .inl y12), (3, .inl y18), (4, .inl y23), (5, .inl y29), (6, .inl y88), (7, .inl y91)]) (dat dk_X12_findBoundary 113 rfl) (by decide) rfl ?_
                                have e97 : h5.2.2 60 28 = (0 : Int) := (by rw [wh5]; exact wr_eq)
                                have lp222_n99 : ∀ (n99 : Nat) (y94 : Int) (h95 : Hp), (I32 y94) → (Inv h95) → (Fr [77, 228] h h95) → (y29 < y94 ∧ y94 ≤ 1302) → (h95.2.2 60 28 ≤ y94) → (y23 - y94 ≤ (n99 : Int)) → To l E_X12_findBoundary (222, [(0, .inr (.inr 60)), (1, .inl f), (2, .inl y12), (3, .inl y18), (4, .inl y23), (5, .inl y29), (6, .inl y88), (7, .inl y94)], [], h95, 0, 0) (Q_X12_findBoundary h f) := by
                                  intro n99
                                  induction n99 using Nat.strongRecOn with
                                  | _ n99 ihn99 =>
                                  intro y94 h95 ry94 Ih95 fh95 c96 c98 c100
                                  obtain ⟨x101, ex101⟩ : ∃ y : Int, h95.2.2 60 28 = y := ⟨_, rfl⟩
                                  have rx101 := Ih95.atR (a := 60) (j := 28) rfl
                                  rw [ex101] at rx101
                                  refine to_iload (dat dk_X12_findBoundary 114 rfl) rfl (to_iload (dat dk_X12_findBoundary 115 rfl) rfl ?_)
                                  refine to_ifeq 236 (dat dk_X12_findBoundary 116 rfl) rfl (by omega) (fun c102 => ?_) (fun c102 => ?_)
                                  · skip
                                    refine to_iload (dat dk_X12_findBoundary 121 rfl) rfl ?_
                                    refine to_ige 273 (dat dk_X12_findBoundary 122 rfl) rfl ry94 ry23 (fun c103 => ?_) (fun c103 => ?_)
                                    · skip
                                      exact to_vret rfl (dat dk_X12_findBoundary 140 rfl) (rv_mk ⟨Ih95, fh95⟩)
                                    · skip
                                      refine to_aload_n (dat dk_X12_findBoundary 123 rfl) rfl (to_getR 77 g_c13_66 (dat dk_X12_findBoundary 124 rfl) (Ih95.atS rfl) (Ih95.atE rfl) (to_aload_n (dat dk_X12_findBoundary 125 rfl) rfl (to_getIv (y := x101) ex101 g_c13_234 (dat dk_X12_findBoundary 126 rfl) (Ih95.atS rfl) (to_aload_n (dat dk_X12_findBoundary 127 rfl) rfl (to_getR 75 g_c13_60 (dat dk_X12_findBoundary 128 rfl) (Ih95.atS rfl) (Ih95.atE rfl) (to_iload (dat dk_X12_findBoundary 129 rfl) rfl ?_))))))
                                      obtain ⟨x104, ex104⟩ : ∃ y : Int, h95.2.2 75 (Int.toNat y94) = y := ⟨_, rfl⟩
                                      have rx104 := Ih95.atR (a := 75) (j := Int.toNat y94) rfl
                                      rw [ex104] at rx104
                                      refine to_baldv (q := 1) ex104 (dat dk_X12_findBoundary 130 rfl) (by decide) (Ih95.atS rfl) rfl (by decide) (by omega) (to_bastw (dat dk_X12_findBoundary 131 rfl) (Ih95.atS rfl) rfl (by decide) (by omega) ?_)
                                      intro h107 wh107
                                      have I105 : Inv h107 := by rw [wh107]; exact Ih95.put (a := 77) (j := (Int.toNat x101)) (x := (b8 x104)) (-128) (127) rfl rfl (show (-128 : Int) ≤ (b8 x104) ∧ (b8 x104) ≤ 127 by have := b8_in x104; omega)
                                      have f106 : Fr [77, 228] h h107 := by rw [wh107]; exact Fr.putF (a := 77) (j := (Int.toNat x101)) (x := (b8 x104)) fh95 rfl
                                      refine to_aload_n (dat dk_X12_findBoundary 132 rfl) rfl (to_dup (dat dk_X12_findBoundary 133 rfl) rfl (to_getIv (y := x101) (by rw [wh107]; exact ex101) g_c13_234 (dat dk_X12_findBoundary 134 rfl) (I105.atS rfl) (to_iconst (dat dk_X12_findBoundary 135 rfl) (to_iadd (dat dk_X12_findBoundary 136 rfl) (to_putIw p_c13_234 (dat dk_X12_findBoundary 137 rfl) (I105.atS rfl) ?_)))))
                                      intro h110 wh110
                                      have I108 : Inv h110 := by rw [wh110]; exact I105.put (a := 60) (j := 28) (x := (x101 + 1)) (0) (1300) rfl rfl (show (0 : Int) ≤ (x101 + 1) ∧ (x101 + 1) ≤ 1300 by omega)
                                      have f109 : Fr [77, 228] h h110 := by rw [wh110]; exact Fr.putF (a := 60) (j := 28) (x := (x101 + 1)) f106 rfl
                                      refine to_iinc (L' := [(0, .inr (.inr 60)), (1, .inl f), (2, .inl y12), (3, .inl y18), (4, .inl y23), (5, .inl y29), (6, .inl y88), (7, .inl (y94 + 1))]) (dat dk_X12_findBoundary 138 rfl) rfl (by decide) rfl (to_goto (dat dk_X12_findBoundary 139 rfl) rfl ?_)
                                      have e111 : h110.2.2 60 28 = (x101 + 1) := (by rw [wh110]; exact wr_eq)
                                      exact ihn99 (n99 - 1) (by omega) (y94 + 1) h110 (by omega) I108 f109 (show y29 < (y94 + 1) ∧ (y94 + 1) ≤ 1302 by omega) (show h110.2.2 60 28 ≤ (y94 + 1) by omega) (show y23 - (y94 + 1) ≤ ((n99 - 1 : Nat) : Int) by omega)
                                  · skip
                                    refine to_iload (dat dk_X12_findBoundary 117 rfl) rfl (to_iconst (dat dk_X12_findBoundary 118 rfl) (to_isub (dat dk_X12_findBoundary 119 rfl) (to_goto (dat dk_X12_findBoundary 120 rfl) rfl ?_)))
                                    refine to_ige 273 (dat dk_X12_findBoundary 122 rfl) rfl ry94 (by omega) (fun c112 => ?_) (fun c112 => ?_)
                                    · skip
                                      exact to_vret rfl (dat dk_X12_findBoundary 140 rfl) (rv_mk ⟨Ih95, fh95⟩)
                                    · skip
                                      refine to_aload_n (dat dk_X12_findBoundary 123 rfl) rfl (to_getR 77 g_c13_66 (dat dk_X12_findBoundary 124 rfl) (Ih95.atS rfl) (Ih95.atE rfl) (to_aload_n (dat dk_X12_findBoundary 125 rfl) rfl (to_getIv (y := x101) ex101 g_c13_234 (dat dk_X12_findBoundary 126 rfl) (Ih95.atS rfl) (to_aload_n (dat dk_X12_findBoundary 127 rfl) rfl (to_getR 75 g_c13_60 (dat dk_X12_findBoundary 128 rfl) (Ih95.atS rfl) (Ih95.atE rfl) (to_iload (dat dk_X12_findBoundary 129 rfl) rfl ?_))))))
                                      obtain ⟨x113, ex113⟩ : ∃ y : Int, h95.2.2 75 (Int.toNat y94) = y := ⟨_, rfl⟩
                                      have rx113 := Ih95.atR (a := 75) (j := Int.toNat y94) rfl
                                      rw [ex113] at rx113
                                      refine to_baldv (q := 1) ex113 (dat dk_X12_findBoundary 130 rfl) (by decide) (Ih95.atS rfl) rfl (by decide) (by omega) (to_bastw (dat dk_X12_findBoundary 131 rfl) (Ih95.atS rfl) rfl (by decide) (by omega) ?_)
                                      intro h116 wh116
                                      have I114 : Inv h116 := by rw [wh116]; exact Ih95.put (a := 77) (j := (Int.toNat x101)) (x := (b8 x113)) (-128) (127) rfl rfl (show (-128 : Int) ≤ (b8 x113) ∧ (b8 x113) ≤ 127 by have := b8_in x113; omega)
                                      have f115 : Fr [77, 228] h h116 := by rw [wh116]; exact Fr.putF (a := 77) (j := (Int.toNat x101)) (x := (b8 x113)) fh95 rfl
                                      refine to_aload_n (dat dk_X12_findBoundary 132 rfl) rfl (to_dup (dat dk_X12_findBoundary 133 rfl) rfl (to_getIv (y := x101) (by rw [wh116]; exact ex101) g_c13_234 (dat dk_X12_findBoundary 134 rfl) (I114.atS rfl) (to_iconst (dat dk_X12_findBoundary 135 rfl) (to_iadd (dat dk_X12_findBoundary 136 rfl) (to_putIw p_c13_234 (dat dk_X12_findBoundary 137 rfl) (I114.atS rfl) ?_)))))
                                      intro h119 wh119
                                      have I117 : Inv h119 := by rw [wh119]; exact I114.put (a := 60) (j := 28) (x := (x101 + 1)) (0) (1300) rfl rfl (show (0 : Int) ≤ (x101 + 1) ∧ (x101 + 1) ≤ 1300 by omega)
                                      have f118 : Fr [77, 228] h h119 := by rw [wh119]; exact Fr.putF (a := 60) (j := 28) (x := (x101 + 1)) f115 rfl
                                      refine to_iinc (L' := [(0, .inr (.inr 60)), (1, .inl f), (2, .inl y12), (3, .inl y18), (4, .inl y23), (5, .inl y29), (6, .inl y88), (7, .inl (y94 + 1))]) (dat dk_X12_findBoundary 138 rfl) rfl (by decide) rfl (to_goto (dat dk_X12_findBoundary 139 rfl) rfl ?_)
                                      have e120 : h119.2.2 60 28 = (x101 + 1) := (by rw [wh119]; exact wr_eq)
                                      exact ihn99 (n99 - 1) (by omega) (y94 + 1) h119 (by omega) I117 f118 (show y29 < (y94 + 1) ∧ (y94 + 1) ≤ 1302 by omega) (show h119.2.2 60 28 ≤ (y94 + 1) by omega) (show y23 - (y94 + 1) ≤ ((n99 - 1 : Nat) : Int) by omega)
                                exact lp222_n99 (y23 - y91).toNat y91 h5 ry91 I3 f4 (show y29 < y91 ∧ y91 ≤ 1302 by omega) (show h5.2.2 60 28 ≤ y91 by omega) (by omega)
                              refine to_iload (dat dk_X12_findBoundary 104 rfl) rfl ?_
                              refine to_ifeq 216 (dat dk_X12_findBoundary 105 rfl) rfl (by omega) (fun c121 => ?_) (fun c121 => ?_)
                              · skip
                                refine to_iload (dat dk_X12_findBoundary 110 rfl) rfl (to_iconst (dat dk_X12_findBoundary 111 rfl) (to_iadd (dat dk_X12_findBoundary 112 rfl) ?_))
                                exact jn220_n93 (y29 + 1) (by omega) (show y29 + 1 ≤ (y29 + 1) ∧ (y29 + 1) ≤ y29 + 2 by omega)
                              · skip
                                refine to_iload (dat dk_X12_findBoundary 106 rfl) rfl (to_iconst (dat dk_X12_findBoundary 107 rfl) (to_iadd (dat dk_X12_findBoundary 108 rfl) (to_goto (dat dk_X12_findBoundary 109 rfl) rfl ?_)))
                                exact jn220_n93 (y29 + 2) (by omega) (show y29 + 1 ≤ (y29 + 2) ∧ (y29 + 2) ≤ y29 + 2 by omega)
                            refine to_iload (dat dk_X12_findBoundary 79 rfl) rfl (to_iload (dat dk_X12_findBoundary 80 rfl) rfl (to_isub (dat dk_X12_findBoundary 81 rfl) (to_iconst (dat dk_X12_findBoundary 82 rfl) ?_)))
                            refine to_ile 201 (dat dk_X12_findBoundary 83 rfl) rfl (by omega) (by decide) (fun c122 => ?_) (fun c122 => ?_)
                            · skip
                              refine to_iconst (dat dk_X12_findBoundary 102 rfl) ?_
                              exact jn202_n90 0 (by decide) (show (0 : Int) = 0 ∨ 2 < y23 - y29 by omega)
                            · skip
                              refine to_aload_n (dat dk_X12_findBoundary 84 rfl) rfl (to_getR 75 g_c13_60 (dat dk_X12_findBoundary 85 rfl) (I3.atS rfl) (I3.atE rfl) (to_iload (dat dk_X12_findBoundary 86 rfl) rfl (to_iconst (dat dk_X12_findBoundary 87 rfl) (to_iadd (dat dk_X12_findBoundary 88 rfl) ?_))))
                              obtain ⟨x123, ex123⟩ : ∃ y : Int, h5.2.2 75 (Int.toNat (y29 + 1)) = y := ⟨_, rfl⟩
                              have rx123 := I3.atR (a := 75) (j := Int.toNat (y29 + 1)) rfl
                              rw [ex123] at rx123
                              refine to_baldv (q := 1) ex123 (dat dk_X12_findBoundary 89 rfl) (by decide) (I3.atS rfl) rfl (by decide) (by omega) (to_bipush (dat dk_X12_findBoundary 90 rfl) (by decide) ?_)
                              refine to_ine 201 (dat dk_X12_findBoundary 91 rfl) rfl (by omega) (by decide) (fun c124 => ?_) (fun c124 => ?_)
                              · skip
                                refine to_iconst (dat dk_X12_findBoundary 102 rfl) ?_
                                exact jn202_n90 0 (by decide) (show (0 : Int) = 0 ∨ 2 < y23 - y29 by omega)
                              · skip
                                refine to_aload_n (dat dk_X12_findBoundary 92 rfl) rfl (to_getR 75 g_c13_60 (dat dk_X12_findBoundary 93 rfl) (I3.atS rfl) (I3.atE rfl) (to_iload (dat dk_X12_findBoundary 94 rfl) rfl (to_iconst (dat dk_X12_findBoundary 95 rfl) (to_isub (dat dk_X12_findBoundary 96 rfl) ?_))))
                                obtain ⟨x125, ex125⟩ : ∃ y : Int, h5.2.2 75 (Int.toNat (y23 - 1)) = y := ⟨_, rfl⟩
                                have rx125 := I3.atR (a := 75) (j := Int.toNat (y23 - 1)) rfl
                                rw [ex125] at rx125
                                refine to_baldv (q := 1) ex125 (dat dk_X12_findBoundary 97 rfl) (by decide) (I3.atS rfl) rfl (by decide) (by omega) (to_bipush (dat dk_X12_findBoundary 98 rfl) (by decide) ?_)
                                refine to_ine 201 (dat dk_X12_findBoundary 99 rfl) rfl (by omega) (by decide) (fun c126 => ?_) (fun c126 => ?_)
                                · skip
                                  refine to_iconst (dat dk_X12_findBoundary 102 rfl) ?_
                                  exact jn202_n90 0 (by decide) (show (0 : Int) = 0 ∨ 2 < y23 - y29 by omega)
                                · skip
                                  refine to_iconst (dat dk_X12_findBoundary 100 rfl) (to_goto (dat dk_X12_findBoundary 101 rfl) rfl ?_)
                                  exact jn202_n90 1 (by decide) (show (1 : Int) = 0 ∨ 2 < y23 - y29 by omega)
                          · skip
                            refine to_goto (dat dk_X12_findBoundary 78 rfl) rfl ?_
                            refine to_pick [0, 1, 2] rfl ?_
                            have e127 : h5.2.2 60 23 = x1 := (by rw [wh5]; exact ex1)
                            exact ihn9 (n9 - 1) (by omega) y12 ry12 (show 0 ≤ y12 ∧ y12 ≤ h5.2.2 60 23 by omega) (show h5.2.2 60 23 - y12 ≤ ((n9 - 1 : Nat) : Int) by omega)
                      · skip
                        refine to_iinc (L' := [(0, .inr (.inr 60)), (1, .inl f), (2, .inl y12), (3, .inl y18), (4, .inl y23), (5, .inl (y29 + 1))]) (dat dk_X12_findBoundary 64 rfl) rfl (by decide) rfl (to_goto (dat dk_X12_findBoundary 65 rfl) rfl ?_)
                        exact ihn31 (n31 - 1) (by omega) (y29 + 1) (by omega) (show y18 ≤ (y29 + 1) ∧ (y29 + 1) ≤ y23 by omega) (show y23 - (y29 + 1) ≤ ((n31 - 1 : Nat) : Int) by omega)
                  exact lp106_n31 (y23 - y18).toNat y18 ry18 (show y18 ≤ y18 ∧ y18 ≤ y23 by omega) (by omega)
                · skip
                  refine to_aload_n (dat dk_X12_findBoundary 43 rfl) rfl (to_getR 75 g_c13_60 (dat dk_X12_findBoundary 44 rfl) (I3.atS rfl) (I3.atE rfl) (to_iload (dat dk_X12_findBoundary 45 rfl) rfl (to_iconst (dat dk_X12_findBoundary 46 rfl) (to_isub (dat dk_X12_findBoundary 47 rfl) ?_))))
                  obtain ⟨x128, ex128⟩ : ∃ y : Int, h5.2.2 75 (Int.toNat (y23 - 1)) = y := ⟨_, rfl⟩
                  have rx128 := I3.atR (a := 75) (j := Int.toNat (y23 - 1)) rfl
                  rw [ex128] at rx128
                  refine to_baldv (q := 1) ex128 (dat dk_X12_findBoundary 48 rfl) (by decide) (I3.atS rfl) rfl (by decide) (by omega) ?_
                  refine to_cI ca_c13_182 (dat dk_X12_findBoundary 49 rfl) (ct_X12_isBlank l h5 I3 x128 (by omega)) rfl trivial rfl (fun x129 h130 rx129 p131 => ?_)
                  obtain ⟨rfl, zx129⟩ := p131
                  refine to_ifeq 103 (dat dk_X12_findBoundary 50 rfl) rfl rx129 (fun c132 => ?_) (fun c132 => ?_)
                  · skip
                    refine to_iload_n (dat dk_X12_findBoundary 53 rfl) rfl (to_istore (L' := [(0, .inr (.inr 60)), (1, .inl f), (2, .inl y12), (3, .inl y18), (4, .inl y23), (5, .inl y18)]) (dat dk_X12_findBoundary 54 rfl) (by decide) rfl ?_)
                    have lp106_n135 : ∀ (n135 : Nat) (y133 : Int), (I32 y133) → (y18 ≤ y133 ∧ y133 ≤ y23) → (y23 - y133 ≤ (n135 : Int)) → To l E_X12_findBoundary (106, [(0, .inr (.inr 60)), (1, .inl f), (2, .inl y12), (3, .inl y18), (4, .inl y23), (5, .inl y133)], [], h5, 0, 0) (Q_X12_findBoundary h f) := by
                      intro n135
                      induction n135 using Nat.strongRecOn with
                      | _ n135 ihn135 =>
                      intro y133 ry133 c134 c136
                      refine to_iload (dat dk_X12_findBoundary 55 rfl) rfl (to_iload (dat dk_X12_findBoundary 56 rfl) rfl ?_)
                      refine to_ige 131 (dat dk_X12_findBoundary 57 rfl) rfl ry133 ry23 (fun c137 => ?_) (fun c137 => ?_)
                      · skip
                        refine to_iload (dat dk_X12_findBoundary 66 rfl) rfl (to_iload (dat dk_X12_findBoundary 67 rfl) rfl ?_)
                        refine to_ieq 7 (dat dk_X12_findBoundary 68 rfl) rfl ry133 ry23 (fun c138 => ?_) (fun c138 => ?_)
                        · skip
                          refine to_pick [0, 1, 2] rfl ?_
                          have e139 : h5.2.2 60 23 = x1 := (by rw [wh5]; exact ex1)
                          exact ihn9 (n9 - 1) (by omega) y12 ry12 (show 0 ≤ y12 ∧ y12 ≤ h5.2.2 60 23 by omega) (show h5.2.2 60 23 - y12 ≤ ((n9 - 1 : Nat) : Int) by omega)
                        · skip
                          refine to_aload_n (dat dk_X12_findBoundary 69 rfl) rfl (to_getR 75 g_c13_60 (dat dk_X12_findBoundary 70 rfl) (I3.atS rfl) (I3.atE rfl) (to_iload_n (dat dk_X12_findBoundary 71 rfl) rfl (to_iload (dat dk_X12_findBoundary 72 rfl) rfl (to_gst (C := "MailArchiveModel") (f9 := "BOUNDARY") (d9 := "[I") (List.mem_of_getElem? (i := 5) rfl) (tin 8 133 (by decide +kernel) rfl) (dat dk_X12_findBoundary 73 rfl) (to_iconst (dat dk_X12_findBoundary 74 rfl) (to_bipush (dat dk_X12_findBoundary 75 rfl) (by decide) ?_))))))
                          refine to_cI ca_c13_198 (dat dk_X12_findBoundary 76 rfl) (ct_X12_same l h5 I3 75 1300 rfl y18 ry18 y133 ry133 1000204 8 (List.mem_of_getElem? (i := 3) rfl) 0 (by decide) 8 (by decide) (show 0 ≤ y18 ∧ y18 ≤ 640000 by omega) (show -1 ≤ y133 ∧ y133 ≤ 640000 by omega) (show 0 ≤ (0 : Int) ∧ (0 : Int) ≤ 100 by omega) (show 0 ≤ (8 : Int) ∧ (8 : Int) ≤ (8 : Int) by omega) (show y133 ≤ (1300 : Int) ∨ y18 + ((8 : Int) - (0 : Int)) ≤ (1300 : Int) by omega)) rfl trivial rfl (fun x140 h141 rx140 p142 => ?_)
                          obtain ⟨rfl, zx140⟩ := p142
                          refine to_ifne 160 (dat dk_X12_findBoundary 77 rfl) rfl rx140 (fun c143 => ?_) (fun c143 => ?_)
                          · skip
                            have jn202_n146 : ∀ (y144 : Int), (y144 = 0 ∨ y144 = 1) → (y144 = 0 ∨ 2 < y23 - y133) → To l E_X12_findBoundary (202, [(0, .inr (.inr 60)), (1, .inl f), (2, .inl y12), (3, .inl y18), (4, .inl y23), (5, .inl y133)], [.inl y144], h5, 0, 0) (Q_X12_findBoundary h f) := by
                              intro y144 ry144 c145
                              refine to_istore (L' := [(0, .inr (.inr 60)), (1, .inl f), (2, .inl y12), (3, .inl y18), (4, .inl y23), (5, .inl y133), (6, .inl y144)]) (dat dk_X12_findBoundary 103 rfl) (by decide) rfl ?_
                              have jn220_n149 : ∀ (y147 : Int), (I32 y147) → (y133 + 1 ≤ y147 ∧ y147 ≤ y133 + 2) → To l E_X12_findBoundary (220, [(0, .inr (.inr 60)), (1, .inl f), (2, .inl y12), (3, .inl y18), (4, .inl y23), (5, .inl y133), (6, .inl y144)], [.inl y147], h5, 0, 0) (Q_X12_findBoundary h f) := by
                                intro y147 ry147 c148
                                refine to_istore (L' := [(0, .inr (.inr 60)), (1, .inl f), (2, .inl y12), (3, .inl y18), (4, .inl y23), (5, .inl y133), (6, .inl y144), (7, .inl y147)]) (dat dk_X12_findBoundary 113 rfl) (by decide) rfl ?_
                                have e153 : h5.2.2 60 28 = (0 : Int) := (by rw [wh5]; exact wr_eq)
                                have lp222_n155 : ∀ (n155 : Nat) (y150 : Int) (h151 : Hp), (I32 y150) → (Inv h151) → (Fr [77, 228] h h151) → (y133 < y150 ∧ y150 ≤ 1302) → (h151.2.2 60 28 ≤ y150) → (y23 - y150 ≤ (n155 : Int)) → To l E_X12_findBoundary (222, [(0, .inr (.inr 60)), (1, .inl f), (2, .inl y12), (3, .inl y18), (4, .inl y23), (5, .inl y133), (6, .inl y144), (7, .inl y150)], [], h151, 0, 0) (Q_X12_findBoundary h f) := by
                                  intro n155
                                  induction n155 using Nat.strongRecOn with
                                  | _ n155 ihn155 =>
                                  intro y150 h151 ry150 Ih151 fh151 c152 c154 c156
                                  obtain ⟨x157, ex157⟩ : ∃ y : Int, h151.2.2 60 28 = y := ⟨_, rfl⟩
                                  have rx157 := Ih151.atR (a := 60) (j := 28) rfl
                                  rw [ex157] at rx157
                                  refine to_iload (dat dk_X12_findBoundary 114 rfl) rfl (to_iload (dat dk_X12_findBoundary 115 rfl) rfl ?_)
                                  refine to_ifeq 236 (dat dk_X12_findBoundary 116 rfl) rfl (by omega) (fun c158 => ?_) (fun c158 => ?_)
                                  · skip
                                    refine to_iload (dat dk_X12_findBoundary 121 rfl) rfl ?_
                                    refine to_ige 273 (dat dk_X12_findBoundary 122 rfl) rfl ry150 ry23 (fun c159 => ?_) (fun c159 => ?_)
                                    · skip
                                      exact to_vret rfl (dat dk_X12_findBoundary 140 rfl) (rv_mk ⟨Ih151, fh151⟩)
                                    · skip
                                      refine to_aload_n (dat dk_X12_findBoundary 123 rfl) rfl (to_getR 77 g_c13_66 (dat dk_X12_findBoundary 124 rfl) (Ih151.atS rfl) (Ih151.atE rfl) (to_aload_n (dat dk_X12_findBoundary 125 rfl) rfl (to_getIv (y := x157) ex157 g_c13_234 (dat dk_X12_findBoundary 126 rfl) (Ih151.atS rfl) (to_aload_n (dat dk_X12_findBoundary 127 rfl) rfl (to_getR 75 g_c13_60 (dat dk_X12_findBoundary 128 rfl) (Ih151.atS rfl) (Ih151.atE rfl) (to_iload (dat dk_X12_findBoundary 129 rfl) rfl ?_))))))
                                      obtain ⟨x160, ex160⟩ : ∃ y : Int, h151.2.2 75 (Int.toNat y150) = y := ⟨_, rfl⟩
                                      have rx160 := Ih151.atR (a := 75) (j := Int.toNat y150) rfl
                                      rw [ex160] at rx160
                                      refine to_baldv (q := 1) ex160 (dat dk_X12_findBoundary 130 rfl) (by decide) (Ih151.atS rfl) rfl (by decide) (by omega) (to_bastw (dat dk_X12_findBoundary 131 rfl) (Ih151.atS rfl) rfl (by decide) (by omega) ?_)
                                      intro h163 wh163
                                      have I161 : Inv h163 := by rw [wh163]; exact Ih151.put (a := 77) (j := (Int.toNat x157)) (x := (b8 x160)) (-128) (127) rfl rfl (show (-128 : Int) ≤ (b8 x160) ∧ (b8 x160) ≤ 127 by have := b8_in x160; omega)
                                      have f162 : Fr [77, 228] h h163 := by rw [wh163]; exact Fr.putF (a := 77) (j := (Int.toNat x157)) (x := (b8 x160)) fh151 rfl
                                      refine to_aload_n (dat dk_X12_findBoundary 132 rfl) rfl (to_dup (dat dk_X12_findBoundary 133 rfl) rfl (to_getIv (y := x157) (by rw [wh163]; exact ex157) g_c13_234 (dat dk_X12_findBoundary 134 rfl) (I161.atS rfl) (to_iconst (dat dk_X12_findBoundary 135 rfl) (to_iadd (dat dk_X12_findBoundary 136 rfl) (to_putIw p_c13_234 (dat dk_X12_findBoundary 137 rfl) (I161.atS rfl) ?_)))))
                                      intro h166 wh166
                                      have I164 : Inv h166 := by rw [wh166]; exact I161.put (a := 60) (j := 28) (x := (x157 + 1)) (0) (1300) rfl rfl (show (0 : Int) ≤ (x157 + 1) ∧ (x157 + 1) ≤ 1300 by omega)
                                      have f165 : Fr [77, 228] h h166 := by rw [wh166]; exact Fr.putF (a := 60) (j := 28) (x := (x157 + 1)) f162 rfl
                                      refine to_iinc (L' := [(0, .inr (.inr 60)), (1, .inl f), (2, .inl y12), (3, .inl y18), (4, .inl y23), (5, .inl y133), (6, .inl y144), (7, .inl (y150 + 1))]) (dat dk_X12_findBoundary 138 rfl) rfl (by decide) rfl (to_goto (dat dk_X12_findBoundary 139 rfl) rfl ?_)
                                      have e167 : h166.2.2 60 28 = (x157 + 1) := (by rw [wh166]; exact wr_eq)
                                      exact ihn155 (n155 - 1) (by omega) (y150 + 1) h166 (by omega) I164 f165 (show y133 < (y150 + 1) ∧ (y150 + 1) ≤ 1302 by omega) (show h166.2.2 60 28 ≤ (y150 + 1) by omega) (show y23 - (y150 + 1) ≤ ((n155 - 1 : Nat) : Int) by omega)
                                  · skip
                                    refine to_iload (dat dk_X12_findBoundary 117 rfl) rfl (to_iconst (dat dk_X12_findBoundary 118 rfl) (to_isub (dat dk_X12_findBoundary 119 rfl) (to_goto (dat dk_X12_findBoundary 120 rfl) rfl ?_)))
                                    refine to_ige 273 (dat dk_X12_findBoundary 122 rfl) rfl ry150 (by omega) (fun c168 => ?_) (fun c168 => ?_)
                                    · skip
                                      exact to_vret rfl (dat dk_X12_findBoundary 140 rfl) (rv_mk ⟨Ih151, fh151⟩)
                                    · skip
                                      refine to_aload_n (dat dk_X12_findBoundary 123 rfl) rfl (to_getR 77 g_c13_66 (dat dk_X12_findBoundary 124 rfl) (Ih151.atS rfl) (Ih151.atE rfl) (to_aload_n (dat dk_X12_findBoundary 125 rfl) rfl (to_getIv (y := x157) ex157 g_c13_234 (dat dk_X12_findBoundary 126 rfl) (Ih151.atS rfl) (to_aload_n (dat dk_X12_findBoundary 127 rfl) rfl (to_getR 75 g_c13_60 (dat dk_X12_findBoundary 128 rfl) (Ih151.atS rfl) (Ih151.atE rfl) (to_iload (dat dk_X12_findBoundary 129 rfl) rfl ?_))))))
                                      obtain ⟨x169, ex169⟩ : ∃ y : Int, h151.2.2 75 (Int.toNat y150) = y := ⟨_, rfl⟩
                                      have rx169 := Ih151.atR (a := 75) (j := Int.toNat y150) rfl
                                      rw [ex169] at rx169
                                      refine to_baldv (q := 1) ex169 (dat dk_X12_findBoundary 130 rfl) (by decide) (Ih151.atS rfl) rfl (by decide) (by omega) (to_bastw (dat dk_X12_findBoundary 131 rfl) (Ih151.atS rfl) rfl (by decide) (by omega) ?_)
                                      intro h172 wh172
                                      have I170 : Inv h172 := by rw [wh172]; exact Ih151.put (a := 77) (j := (Int.toNat x157)) (x := (b8 x169)) (-128) (127) rfl rfl (show (-128 : Int) ≤ (b8 x169) ∧ (b8 x169) ≤ 127 by have := b8_in x169; omega)
                                      have f171 : Fr [77, 228] h h172 := by rw [wh172]; exact Fr.putF (a := 77) (j := (Int.toNat x157)) (x := (b8 x169)) fh151 rfl
                                      refine to_aload_n (dat dk_X12_findBoundary 132 rfl) rfl (to_dup (dat dk_X12_findBoundary 133 rfl) rfl (to_getIv (y := x157) (by rw [wh172]; exact ex157) g_c13_234 (dat dk_X12_findBoundary 134 rfl) (I170.atS rfl) (to_iconst (dat dk_X12_findBoundary 135 rfl) (to_iadd (dat dk_X12_findBoundary 136 rfl) (to_putIw p_c13_234 (dat dk_X12_findBoundary 137 rfl) (I170.atS rfl) ?_)))))
                                      intro h175 wh175
                                      have I173 : Inv h175 := by rw [wh175]; exact I170.put (a := 60) (j := 28) (x := (x157 + 1)) (0) (1300) rfl rfl (show (0 : Int) ≤ (x157 + 1) ∧ (x157 + 1) ≤ 1300 by omega)
                                      have f174 : Fr [77, 228] h h175 := by rw [wh175]; exact Fr.putF (a := 60) (j := 28) (x := (x157 + 1)) f171 rfl
                                      refine to_iinc (L' := [(0, .inr (.inr 60)), (1, .inl f), (2, .inl y12), (3, .inl y18), (4, .inl y23), (5, .inl y133), (6, .inl y144), (7, .inl (y150 + 1))]) (dat dk_X12_findBoundary 138 rfl) rfl (by decide) rfl (to_goto (dat dk_X12_findBoundary 139 rfl) rfl ?_)
                                      have e176 : h175.2.2 60 28 = (x157 + 1) := (by rw [wh175]; exact wr_eq)
                                      exact ihn155 (n155 - 1) (by omega) (y150 + 1) h175 (by omega) I173 f174 (show y133 < (y150 + 1) ∧ (y150 + 1) ≤ 1302 by omega) (show h175.2.2 60 28 ≤ (y150 + 1) by omega) (show y23 - (y150 + 1) ≤ ((n155 - 1 : Nat) : Int) by omega)
                                exact lp222_n155 (y23 - y147).toNat y147 h5 ry147 I3 f4 (show y133 < y147 ∧ y147 ≤ 1302 by omega) (show h5.2.2 60 28 ≤ y147 by omega) (by omega)
                              refine to_iload (dat dk_X12_findBoundary 104 rfl) rfl ?_
                              refine to_ifeq 216 (dat dk_X12_findBoundary 105 rfl) rfl (by omega) (fun c177 => ?_) (fun c177 => ?_)
                              · skip
                                refine to_iload (dat dk_X12_findBoundary 110 rfl) rfl (to_iconst (dat dk_X12_findBoundary 111 rfl) (to_iadd (dat dk_X12_findBoundary 112 rfl) ?_))
                                exact jn220_n149 (y133 + 1) (by omega) (show y133 + 1 ≤ (y133 + 1) ∧ (y133 + 1) ≤ y133 + 2 by omega)
                              · skip
                                refine to_iload (dat dk_X12_findBoundary 106 rfl) rfl (to_iconst (dat dk_X12_findBoundary 107 rfl) (to_iadd (dat dk_X12_findBoundary 108 rfl) (to_goto (dat dk_X12_findBoundary 109 rfl) rfl ?_)))
                                exact jn220_n149 (y133 + 2) (by omega) (show y133 + 1 ≤ (y133 + 2) ∧ (y133 + 2) ≤ y133 + 2 by omega)
                            refine to_iload (dat dk_X12_findBoundary 79 rfl) rfl (to_iload (dat dk_X12_findBoundary 80 rfl) rfl (to_isub (dat dk_X12_findBoundary 81 rfl) (to_iconst (dat dk_X12_findBoundary 82 rfl) ?_)))
                            refine to_ile 201 (dat dk_X12_findBoundary 83 rfl) rfl (by omega) (by decide) (fun c178 => ?_) (fun c178 => ?_)
                            · skip
                              refine to_iconst (dat dk_X12_findBoundary 102 rfl) ?_
                              exact jn202_n146 0 (by decide) (show (0 : Int) = 0 ∨ 2 < y23 - y133 by omega)
                            · skip
                              refine to_aload_n (dat dk_X12_findBoundary 84 rfl) rfl (to_getR 75 g_c13_60 (dat dk_X12_findBoundary 85 rfl) (I3.atS rfl) (I3.atE rfl) (to_iload (dat dk_X12_findBoundary 86 rfl) rfl (to_iconst (dat dk_X12_findBoundary 87 rfl) (to_iadd (dat dk_X12_findBoundary 88 rfl) ?_))))
                              obtain ⟨x179, ex179⟩ : ∃ y : Int, h5.2.2 75 (Int.toNat (y133 + 1)) = y := ⟨_, rfl⟩
                              have rx179 := I3.atR (a := 75) (j := Int.toNat (y133 + 1)) rfl
                              rw [ex179] at rx179
                              refine to_baldv (q := 1) ex179 (dat dk_X12_findBoundary 89 rfl) (by decide) (I3.atS rfl) rfl (by decide) (by omega) (to_bipush (dat dk_X12_findBoundary 90 rfl) (by decide) ?_)
                              refine to_ine 201 (dat dk_X12_findBoundary 91 rfl) rfl (by omega) (by decide) (fun c180 => ?_) (fun c180 => ?_)
                              · skip
                                refine to_iconst (dat dk_X12_findBoundary 102 rfl) ?_
                                exact jn202_n146 0 (by decide) (show (0 : Int) = 0 ∨ 2 < y23 - y133 by omega)
                              · skip
                                refine to_aload_n (dat dk_X12_findBoundary 92 rfl) rfl (to_getR 75 g_c13_60 (dat dk_X12_findBoundary 93 rfl) (I3.atS rfl) (I3.atE rfl) (to_iload (dat dk_X12_findBoundary 94 rfl) rfl (to_iconst (dat dk_X12_findBoundary 95 rfl) (to_isub (dat dk_X12_findBoundary 96 rfl) ?_))))
                                obtain ⟨x181, ex181⟩ : ∃ y : Int, h5.2.2 75 (Int.toNat (y23 - 1)) = y := ⟨_, rfl⟩
                                have rx181 := I3.atR (a := 75) (j := Int.toNat (y23 - 1)) rfl
                                rw [ex181] at rx181
                                refine to_baldv (q := 1) ex181 (dat dk_X12_findBoundary 97 rfl) (by decide) (I3.atS rfl) rfl (by decide) (by omega) (to_bipush (dat dk_X12_findBoundary 98 rfl) (by decide) ?_)
                                refine to_ine 201 (dat dk_X12_findBoundary 99 rfl) rfl (by omega) (by decide) (fun c182 => ?_) (fun c182 => ?_)
                                · skip
                                  refine to_iconst (dat dk_X12_findBoundary 102 rfl) ?_
                                  exact jn202_n146 0 (by decide) (show (0 : Int) = 0 ∨ 2 < y23 - y133 by omega)
                                · skip
                                  refine to_iconst (dat dk_X12_findBoundary 100 rfl) (to_goto (dat dk_X12_findBoundary 101 rfl) rfl ?_)
                                  exact jn202_n146 1 (by decide) (show (1 : Int) = 0 ∨ 2 < y23 - y133 by omega)
                          · skip
                            refine to_goto (dat dk_X12_findBoundary 78 rfl) rfl ?_
                            refine to_pick [0, 1, 2] rfl ?_
                            have e183 : h5.2.2 60 23 = x1 := (by rw [wh5]; exact ex1)
                            exact ihn9 (n9 - 1) (by omega) y12 ry12 (show 0 ≤ y12 ∧ y12 ≤ h5.2.2 60 23 by omega) (show h5.2.2 60 23 - y12 ≤ ((n9 - 1 : Nat) : Int) by omega)
                      · skip
                        refine to_aload_n (dat dk_X12_findBoundary 58 rfl) rfl (to_getR 75 g_c13_60 (dat dk_X12_findBoundary 59 rfl) (I3.atS rfl) (I3.atE rfl) (to_iload (dat dk_X12_findBoundary 60 rfl) rfl ?_))
                        obtain ⟨x184, ex184⟩ : ∃ y : Int, h5.2.2 75 (Int.toNat y133) = y := ⟨_, rfl⟩
                        have rx184 := I3.atR (a := 75) (j := Int.toNat y133) rfl
                        rw [ex184] at rx184
                        refine to_baldv (q := 1) ex184 (dat dk_X12_findBoundary 61 rfl) (by decide) (I3.atS rfl) rfl (by decide) (by omega) (to_bipush (dat dk_X12_findBoundary 62 rfl) (by decide) ?_)
                        refine to_ieq 131 (dat dk_X12_findBoundary 63 rfl) rfl (by omega) (by decide) (fun c185 => ?_) (fun c185 => ?_)
                        · skip
                          refine to_iload (dat dk_X12_findBoundary 66 rfl) rfl (to_iload (dat dk_X12_findBoundary 67 rfl) rfl ?_)
                          refine to_ieq 7 (dat dk_X12_findBoundary 68 rfl) rfl ry133 ry23 (fun c186 => ?_) (fun c186 => ?_)
                          · skip
                            refine to_pick [0, 1, 2] rfl ?_
                            have e187 : h5.2.2 60 23 = x1 := (by rw [wh5]; exact ex1)
                            exact ihn9 (n9 - 1) (by omega) y12 ry12 (show 0 ≤ y12 ∧ y12 ≤ h5.2.2 60 23 by omega) (show h5.2.2 60 23 - y12 ≤ ((n9 - 1 : Nat) : Int) by omega)
                          · skip
                            refine to_aload_n (dat dk_X12_findBoundary 69 rfl) rfl (to_getR 75 g_c13_60 (dat dk_X12_findBoundary 70 rfl) (I3.atS rfl) (I3.atE rfl) (to_iload_n (dat dk_X12_findBoundary 71 rfl) rfl (to_iload (dat dk_X12_findBoundary 72 rfl) rfl (to_gst (C := "MailArchiveModel") (f9 := "BOUNDARY") (d9 := "[I") (List.mem_of_getElem? (i := 5) rfl) (tin 8 133 (by decide +kernel) rfl) (dat dk_X12_findBoundary 73 rfl) (to_iconst (dat dk_X12_findBoundary 74 rfl) (to_bipush (dat dk_X12_findBoundary 75 rfl) (by decide) ?_))))))
                            refine to_cI ca_c13_198 (dat dk_X12_findBoundary 76 rfl) (ct_X12_same l h5 I3 75 1300 rfl y18 ry18 y133 ry133 1000204 8 (List.mem_of_getElem? (i := 3) rfl) 0 (by decide) 8 (by decide) (show 0 ≤ y18 ∧ y18 ≤ 640000 by omega) (show -1 ≤ y133 ∧ y133 ≤ 640000 by omega) (show 0 ≤ (0 : Int) ∧ (0 : Int) ≤ 100 by omega) (show 0 ≤ (8 : Int) ∧ (8 : Int) ≤ (8 : Int) by omega) (show y133 ≤ (1300 : Int) ∨ y18 + ((8 : Int) - (0 : Int)) ≤ (1300 : Int) by omega)) rfl trivial rfl (fun x188 h189 rx188 p190 => ?_)
                            obtain ⟨rfl, zx188⟩ := p190
                            refine to_ifne 160 (dat dk_X12_findBoundary 77 rfl) rfl rx188 (fun c191 => ?_) (fun c191 => ?_)
                            · skip
                              have jn202_n194 : ∀ (y192 : Int), (y192 = 0 ∨ y192 = 1) → (y192 = 0 ∨ 2 < y23 - y133) → To l E_X12_findBoundary (202, [(0, .inr (.inr 60)), (1, .inl f), (2, .inl y12), (3, .inl y18), (4, .inl y23), (5, .inl y133)], [.inl y192], h5, 0, 0) (Q_X12_findBoundary h f) := by
                                intro y192 ry192 c193
                                refine to_istore (L' := [(0, .inr (.inr 60)), (1, .inl f), (2, .inl y12), (3, .inl y18), (4, .inl y23), (5, .inl y133), (6, .inl y192)]) (dat dk_X12_findBoundary 103 rfl) (by decide) rfl ?_
                                have jn220_n197 : ∀ (y195 : Int), (I32 y195) → (y133 + 1 ≤ y195 ∧ y195 ≤ y133 + 2) → To l E_X12_findBoundary (220, [(0, .inr (.inr 60)), (1, .inl f), (2, .inl y12), (3, .inl y18), (4, .inl y23), (5, .inl y133), (6, .inl y192)], [.inl y195], h5, 0, 0) (Q_X12_findBoundary h f) := by
                                  intro y195 ry195 c196
                                  refine to_istore (L' := [(0, .inr (.inr 60)), (1, .inl f), (2, .inl y12), (3, .inl y18), (4, .inl y23), (5, .inl y133), (6, .inl y192), (7, .inl y195)]) (dat dk_X12_findBoundary 113 rfl) (by decide) rfl ?_
                                  have e201 : h5.2.2 60 28 = (0 : Int) := (by rw [wh5]; exact wr_eq)
                                  have lp222_n203 : ∀ (n203 : Nat) (y198 : Int) (h199 : Hp), (I32 y198) → (Inv h199) → (Fr [77, 228] h h199) → (y133 < y198 ∧ y198 ≤ 1302) → (h199.2.2 60 28 ≤ y198) → (y23 - y198 ≤ (n203 : Int)) → To l E_X12_findBoundary (222, [(0, .inr (.inr 60)), (1, .inl f), (2, .inl y12), (3, .inl y18), (4, .inl y23), (5, .inl y133), (6, .inl y192), (7, .inl y198)], [], h199, 0, 0) (Q_X12_findBoundary h f) := by
                                    intro n203
                                    induction n203 using Nat.strongRecOn with
                                    | _ n203 ihn203 =>
                                    intro y198 h199 ry198 Ih199 fh199 c200 c202 c204
                                    obtain ⟨x205, ex205⟩ : ∃ y : Int, h199.2.2 60 28 = y := ⟨_, rfl⟩
                                    have rx205 := Ih199.atR (a := 60) (j := 28) rfl
                                    rw [ex205] at rx205
                                    refine to_iload (dat dk_X12_findBoundary 114 rfl) rfl (to_iload (dat dk_X12_findBoundary 115 rfl) rfl ?_)
                                    refine to_ifeq 236 (dat dk_X12_findBoundary 116 rfl) rfl (by omega) (fun c206 => ?_) (fun c206 => ?_)
                                    · skip
                                      refine to_iload (dat dk_X12_findBoundary 121 rfl) rfl ?_
                                      refine to_ige 273 (dat dk_X12_findBoundary 122 rfl) rfl ry198 ry23 (fun c207 => ?_) (fun c207 => ?_)
                                      · skip
                                        exact to_vret rfl (dat dk_X12_findBoundary 140 rfl) (rv_mk ⟨Ih199, fh199⟩)
                                      · skip
                                        refine to_aload_n (dat dk_X12_findBoundary 123 rfl) rfl (to_getR 77 g_c13_66 (dat dk_X12_findBoundary 124 rfl) (Ih199.atS rfl) (Ih199.atE rfl) (to_aload_n (dat dk_X12_findBoundary 125 rfl) rfl (to_getIv (y := x205) ex205 g_c13_234 (dat dk_X12_findBoundary 126 rfl) (Ih199.atS rfl) (to_aload_n (dat dk_X12_findBoundary 127 rfl) rfl (to_getR 75 g_c13_60 (dat dk_X12_findBoundary 128 rfl) (Ih199.atS rfl) (Ih199.atE rfl) (to_iload (dat dk_X12_findBoundary 129 rfl) rfl ?_))))))
                                        obtain ⟨x208, ex208⟩ : ∃ y : Int, h199.2.2 75 (Int.toNat y198) = y := ⟨_, rfl⟩
                                        have rx208 := Ih199.atR (a := 75) (j := Int.toNat y198) rfl
                                        rw [ex208] at rx208
                                        refine to_baldv (q := 1) ex208 (dat dk_X12_findBoundary 130 rfl) (by decide) (Ih199.atS rfl) rfl (by decide) (by omega) (to_bastw (dat dk_X12_findBoundary 131 rfl) (Ih199.atS rfl) rfl (by decide) (by omega) ?_)
                                        intro h211 wh211
                                        have I209 : Inv h211 := by rw [wh211]; exact Ih199.put (a := 77) (j := (Int.toNat x205)) (x := (b8 x208)) (-128) (127) rfl rfl (show (-128 : Int) ≤ (b8 x208) ∧ (b8 x208) ≤ 127 by have := b8_in x208; omega)
                                        have f210 : Fr [77, 228] h h211 := by rw [wh211]; exact Fr.putF (a := 77) (j := (Int.toNat x205)) (x := (b8 x208)) fh199 rfl
                                        refine to_aload_n (dat dk_X12_findBoundary 132 rfl) rfl (to_dup (dat dk_X12_findBoundary 133 rfl) rfl (to_getIv (y := x205) (by rw [wh211]; exact ex205) g_c13_234 (dat dk_X12_findBoundary 134 rfl) (I209.atS rfl) (to_iconst (dat dk_X12_findBoundary 135 rfl) (to_iadd (dat dk_X12_findBoundary 136 rfl) (to_putIw p_c13_234 (dat dk_X12_findBoundary 137 rfl) (I209.atS rfl) ?_)))))
                                        intro h214 wh214
                                        have I212 : Inv h214 := by rw [wh214]; exact I209.put (a := 60) (j := 28) (x := (x205 + 1)) (0) (1300) rfl rfl (show (0 : Int) ≤ (x205 + 1) ∧ (x205 + 1) ≤ 1300 by omega)
                                        have f213 : Fr [77, 228] h h214 := by rw [wh214]; exact Fr.putF (a := 60) (j := 28) (x := (x205 + 1)) f210 rfl
                                        refine to_iinc (L' := [(0, .inr (.inr 60)), (1, .inl f), (2, .inl y12), (3, .inl y18), (4, .inl y23), (5, .inl y133), (6, .inl y192), (7, .inl (y198 + 1))]) (dat dk_X12_findBoundary 138 rfl) rfl (by decide) rfl (to_goto (dat dk_X12_findBoundary 139 rfl) rfl ?_)
                                        have e215 : h214.2.2 60 28 = (x205 + 1) := (by rw [wh214]; exact wr_eq)
                                        exact ihn203 (n203 - 1) (by omega) (y198 + 1) h214 (by omega) I212 f213 (show y133 < (y198 + 1) ∧ (y198 + 1) ≤ 1302 by omega) (show h214.2.2 60 28 ≤ (y198 + 1) by omega) (show y23 - (y198 + 1) ≤ ((n203 - 1 : Nat) : Int) by omega)
                                    · skip
                                      refine to_iload (dat dk_X12_findBoundary 117 rfl) rfl (to_iconst (dat dk_X12_findBoundary 118 rfl) (to_isub (dat dk_X12_findBoundary 119 rfl) (to_goto (dat dk_X12_findBoundary 120 rfl) rfl ?_)))
                                      refine to_ige 273 (dat dk_X12_findBoundary 122 rfl) rfl ry198 (by omega) (fun c216 => ?_) (fun c216 => ?_)
                                      · skip
                                        exact to_vret rfl (dat dk_X12_findBoundary 140 rfl) (rv_mk ⟨Ih199, fh199⟩)
                                      · skip
                                        refine to_aload_n (dat dk_X12_findBoundary 123 rfl) rfl (to_getR 77 g_c13_66 (dat dk_X12_findBoundary 124 rfl) (Ih199.atS rfl) (Ih199.atE rfl) (to_aload_n (dat dk_X12_findBoundary 125 rfl) rfl (to_getIv (y := x205) ex205 g_c13_234 (dat dk_X12_findBoundary 126 rfl) (Ih199.atS rfl) (to_aload_n (dat dk_X12_findBoundary 127 rfl) rfl (to_getR 75 g_c13_60 (dat dk_X12_findBoundary 128 rfl) (Ih199.atS rfl) (Ih199.atE rfl) (to_iload (dat dk_X12_findBoundary 129 rfl) rfl ?_))))))
                                        obtain ⟨x217, ex217⟩ : ∃ y : Int, h199.2.2 75 (Int.toNat y198) = y := ⟨_, rfl⟩
                                        have rx217 := Ih199.atR (a := 75) (j := Int.toNat y198) rfl
                                        rw [ex217] at rx217
                                        refine to_baldv (q := 1) ex217 (dat dk_X12_findBoundary 130 rfl) (by decide) (Ih199.atS rfl) rfl (by decide) (by omega) (to_bastw (dat dk_X12_findBoundary 131 rfl) (Ih199.atS rfl) rfl (by decide) (by omega) ?_)
                                        intro h220 wh220
                                        have I218 : Inv h220 := by rw [wh220]; exact Ih199.put (a := 77) (j := (Int.toNat x205)) (x := (b8 x217)) (-128) (127) rfl rfl (show (-128 : Int) ≤ (b8 x217) ∧ (b8 x217) ≤ 127 by have := b8_in x217; omega)
                                        have f219 : Fr [77, 228] h h220 := by rw [wh220]; exact Fr.putF (a := 77) (j := (Int.toNat x205)) (x := (b8 x217)) fh199 rfl
                                        refine to_aload_n (dat dk_X12_findBoundary 132 rfl) rfl (to_dup (dat dk_X12_findBoundary 133 rfl) rfl (to_getIv (y := x205) (by rw [wh220]; exact ex205) g_c13_234 (dat dk_X12_findBoundary 134 rfl) (I218.atS rfl) (to_iconst (dat dk_X12_findBoundary 135 rfl) (to_iadd (dat dk_X12_findBoundary 136 rfl) (to_putIw p_c13_234 (dat dk_X12_findBoundary 137 rfl) (I218.atS rfl) ?_)))))
                                        intro h223 wh223
                                        have I221 : Inv h223 := by rw [wh223]; exact I218.put (a := 60) (j := 28) (x := (x205 + 1)) (0) (1300) rfl rfl (show (0 : Int) ≤ (x205 + 1) ∧ (x205 + 1) ≤ 1300 by omega)
                                        have f222 : Fr [77, 228] h h223 := by rw [wh223]; exact Fr.putF (a := 60) (j := 28) (x := (x205 + 1)) f219 rfl
                                        refine to_iinc (L' := [(0, .inr (.inr 60)), (1, .inl f), (2, .inl y12), (3, .inl y18), (4, .inl y23), (5, .inl y133), (6, .inl y192), (7, .inl (y198 + 1))]) (dat dk_X12_findBoundary 138 rfl) rfl (by decide) rfl (to_goto (dat dk_X12_findBoundary 139 rfl) rfl ?_)
                                        have e224 : h223.2.2 60 28 = (x205 + 1) := (by rw [wh223]; exact wr_eq)
                                        exact ihn203 (n203 - 1) (by omega) (y198 + 1) h223 (by omega) I221 f222 (show y133 < (y198 + 1) ∧ (y198 + 1) ≤ 1302 by omega) (show h223.2.2 60 28 ≤ (y198 + 1) by omega) (show y23 - (y198 + 1) ≤ ((n203 - 1 : Nat) : Int) by omega)
                                  exact lp222_n203 (y23 - y195).toNat y195 h5 ry195 I3 f4 (show y133 < y195 ∧ y195 ≤ 1302 by omega) (show h5.2.2 60 28 ≤ y195 by omega) (by omega)
                                refine to_iload (dat dk_X12_findBoundary 104 rfl) rfl ?_
                                refine to_ifeq 216 (dat dk_X12_findBoundary 105 rfl) rfl (by omega) (fun c225 => ?_) (fun c225 => ?_)
                                · skip
                                  refine to_iload (dat dk_X12_findBoundary 110 rfl) rfl (to_iconst (dat dk_X12_findBoundary 111 rfl) (to_iadd (dat dk_X12_findBoundary 112 rfl) ?_))
                                  exact jn220_n197 (y133 + 1) (by omega) (show y133 + 1 ≤ (y133 + 1) ∧ (y133 + 1) ≤ y133 + 2 by omega)
                                · skip
                                  refine to_iload (dat dk_X12_findBoundary 106 rfl) rfl (to_iconst (dat dk_X12_findBoundary 107 rfl) (to_iadd (dat dk_X12_findBoundary 108 rfl) (to_goto (dat dk_X12_findBoundary 109 rfl) rfl ?_)))
                                  exact jn220_n197 (y133 + 2) (by omega) (show y133 + 1 ≤ (y133 + 2) ∧ (y133 + 2) ≤ y133 + 2 by omega)
                              refine to_iload (dat dk_X12_findBoundary 79 rfl) rfl (to_iload (dat dk_X12_findBoundary 80 rfl) rfl (to_isub (dat dk_X12_findBoundary 81 rfl) (to_iconst (dat dk_X12_findBoundary 82 rfl) ?_)))
                              refine to_ile 201 (dat dk_X12_findBoundary 83 rfl) rfl (by omega) (by decide) (fun c226 => ?_) (fun c226 => ?_)
                              · skip
                                refine to_iconst (dat dk_X12_findBoundary 102 rfl) ?_
                                exact jn202_n194 0 (by decide) (show (0 : Int) = 0 ∨ 2 < y23 - y133 by omega)
                              · skip
                                refine to_aload_n (dat dk_X12_findBoundary 84 rfl) rfl (to_getR 75 g_c13_60 (dat dk_X12_findBoundary 85 rfl) (I3.atS rfl) (I3.atE rfl) (to_iload (dat dk_X12_findBoundary 86 rfl) rfl (to_iconst (dat dk_X12_findBoundary 87 rfl) (to_iadd (dat dk_X12_findBoundary 88 rfl) ?_))))
                                obtain ⟨x227, ex227⟩ : ∃ y : Int, h5.2.2 75 (Int.toNat (y133 + 1)) = y := ⟨_, rfl⟩
                                have rx227 := I3.atR (a := 75) (j := Int.toNat (y133 + 1)) rfl
                                rw [ex227] at rx227
                                refine to_baldv (q := 1) ex227 (dat dk_X12_findBoundary 89 rfl) (by decide) (I3.atS rfl) rfl (by decide) (by omega) (to_bipush (dat dk_X12_findBoundary 90 rfl) (by decide) ?_)
                                refine to_ine 201 (dat dk_X12_findBoundary 91 rfl) rfl (by omega) (by decide) (fun c228 => ?_) (fun c228 => ?_)
                                · skip
                                  refine to_iconst (dat dk_X12_findBoundary 102 rfl) ?_
                                  exact jn202_n194 0 (by decide) (show (0 : Int) = 0 ∨ 2 < y23 - y133 by omega)
                                · skip
                                  refine to_aload_n (dat dk_X12_findBoundary 92 rfl) rfl (to_getR 75 g_c13_60 (dat dk_X12_findBoundary 93 rfl) (I3.atS rfl) (I3.atE rfl) (to_iload (dat dk_X12_findBoundary 94 rfl) rfl (to_iconst (dat dk_X12_findBoundary 95 rfl) (to_isub (dat dk_X12_findBoundary 96 rfl) ?_))))
                                  obtain ⟨x229, ex229⟩ : ∃ y : Int, h5.2.2 75 (Int.toNat (y23 - 1)) = y := ⟨_, rfl⟩
                                  have rx229 := I3.atR (a := 75) (j := Int.toNat (y23 - 1)) rfl
                                  rw [ex229] at rx229
                                  refine to_baldv (q := 1) ex229 (dat dk_X12_findBoundary 97 rfl) (by decide) (I3.atS rfl) rfl (by decide) (by omega) (to_bipush (dat dk_X12_findBoundary 98 rfl) (by decide) ?_)
                                  refine to_ine 201 (dat dk_X12_findBoundary 99 rfl) rfl (by omega) (by decide) (fun c230 => ?_) (fun c230 => ?_)
                                  · skip
                                    refine to_iconst (dat dk_X12_findBoundary 102 rfl) ?_
                                    exact jn202_n194 0 (by decide) (show (0 : Int) = 0 ∨ 2 < y23 - y133 by omega)
                                  · skip
                                    refine to_iconst (dat dk_X12_findBoundary 100 rfl) (to_goto (dat dk_X12_findBoundary 101 rfl) rfl ?_)
                                    exact jn202_n194 1 (by decide) (show (1 : Int) = 0 ∨ 2 < y23 - y133 by omega)
                            · skip
                              refine to_goto (dat dk_X12_findBoundary 78 rfl) rfl ?_
                              refine to_pick [0, 1, 2] rfl ?_
                              have e231 : h5.2.2 60 23 = x1 := (by rw [wh5]; exact ex1)
                              exact ihn9 (n9 - 1) (by omega) y12 ry12 (show 0 ≤ y12 ∧ y12 ≤ h5.2.2 60 23 by omega) (show h5.2.2 60 23 - y12 ≤ ((n9 - 1 : Nat) : Int) by omega)
                        · skip
                          refine to_iinc (L' := [(0, .inr (.inr 60)), (1, .inl f), (2, .inl y12), (3, .inl y18), (4, .inl y23), (5, .inl (y133 + 1))]) (dat dk_X12_findBoundary 64 rfl) rfl (by decide) rfl (to_goto (dat dk_X12_findBoundary 65 rfl) rfl ?_)
                          exact ihn135 (n135 - 1) (by omega) (y133 + 1) (by omega) (show y18 ≤ (y133 + 1) ∧ (y133 + 1) ≤ y23 by omega) (show y23 - (y133 + 1) ≤ ((n135 - 1 : Nat) : Int) by omega)
                    exact lp106_n135 (y23 - y18).toNat y18 ry18 (show y18 ≤ y18 ∧ y18 ≤ y23 by omega) (by omega)
                  · skip
                    refine to_iinc (L' := [(0, .inr (.inr 60)), (1, .inl f), (2, .inl y12), (3, .inl y18), (4, .inl (y23 + (-1)))]) (dat dk_X12_findBoundary 51 rfl) rfl (by decide) rfl (to_goto (dat dk_X12_findBoundary 52 rfl) rfl ?_)
                    have e232 : h5.2.2 60 23 = x1 := (by rw [wh5]; exact ex1)
                    exact ihn26 (n26 - 1) (by omega) (y23 + (-1)) (by omega) (show y18 ≤ (y23 + (-1)) ∧ (y23 + (-1)) ≤ h5.2.2 60 23 by omega) (show (y23 + (-1)) ≤ ((n26 - 1 : Nat) : Int) by omega)
              exact lp76_n26 (y12).toNat y12 ry12 (show y18 ≤ y12 ∧ y12 ≤ h5.2.2 60 23 by omega) (by omega)
            · skip
              refine to_aload_n (dat dk_X12_findBoundary 32 rfl) rfl (to_getR 75 g_c13_60 (dat dk_X12_findBoundary 33 rfl) (I3.atS rfl) (I3.atE rfl) (to_iload_n (dat dk_X12_findBoundary 34 rfl) rfl ?_))
              obtain ⟨x233, ex233⟩ : ∃ y : Int, h5.2.2 75 (Int.toNat y18) = y := ⟨_, rfl⟩
              have rx233 := I3.atR (a := 75) (j := Int.toNat y18) rfl
              rw [ex233] at rx233
              refine to_baldv (q := 1) ex233 (dat dk_X12_findBoundary 35 rfl) (by decide) (I3.atS rfl) rfl (by decide) (by omega) ?_
              refine to_cI ca_c13_182 (dat dk_X12_findBoundary 36 rfl) (ct_X12_isBlank l h5 I3 x233 (by omega)) rfl trivial rfl (fun x234 h235 rx234 p236 => ?_)
              obtain ⟨rfl, zx234⟩ := p236
              refine to_ifeq 76 (dat dk_X12_findBoundary 37 rfl) rfl rx234 (fun c237 => ?_) (fun c237 => ?_)
              · skip
                have e239 : h5.2.2 60 23 = x1 := (by rw [wh5]; exact ex1)
                have lp76_n241 : ∀ (n241 : Nat) (y238 : Int), (I32 y238) → (y18 ≤ y238 ∧ y238 ≤ h5.2.2 60 23) → (y238 ≤ (n241 : Int)) → To l E_X12_findBoundary (76, [(0, .inr (.inr 60)), (1, .inl f), (2, .inl y12), (3, .inl y18), (4, .inl y238)], [], h5, 0, 0) (Q_X12_findBoundary h f) := by
                  intro n241
                  induction n241 using Nat.strongRecOn with
                  | _ n241 ihn241 =>
                  intro y238 ry238 c240 c242
                  refine to_iload (dat dk_X12_findBoundary 40 rfl) rfl (to_iload_n (dat dk_X12_findBoundary 41 rfl) rfl ?_)
                  refine to_ile 103 (dat dk_X12_findBoundary 42 rfl) rfl ry238 ry18 (fun c243 => ?_) (fun c243 => ?_)
                  · skip
                    refine to_iload_n (dat dk_X12_findBoundary 53 rfl) rfl (to_istore (L' := [(0, .inr (.inr 60)), (1, .inl f), (2, .inl y12), (3, .inl y18), (4, .inl y238), (5, .inl y18)]) (dat dk_X12_findBoundary 54 rfl) (by decide) rfl ?_)
                    have lp106_n246 : ∀ (n246 : Nat) (y244 : Int), (I32 y244) → (y18 ≤ y244 ∧ y244 ≤ y238) → (y238 - y244 ≤ (n246 : Int)) → To l E_X12_findBoundary (106, [(0, .inr (.inr 60)), (1, .inl f), (2, .inl y12), (3, .inl y18), (4, .inl y238), (5, .inl y244)], [], h5, 0, 0) (Q_X12_findBoundary h f) := by
                      intro n246
                      induction n246 using Nat.strongRecOn with
                      | _ n246 ihn246 =>
                      intro y244 ry244 c245 c247
                      refine to_iload (dat dk_X12_findBoundary 55 rfl) rfl (to_iload (dat dk_X12_findBoundary 56 rfl) rfl ?_)
                      refine to_ige 131 (dat dk_X12_findBoundary 57 rfl) rfl ry244 ry238 (fun c248 => ?_) (fun c248 => ?_)
                      · skip
                        refine to_iload (dat dk_X12_findBoundary 66 rfl) rfl (to_iload (dat dk_X12_findBoundary 67 rfl) rfl ?_)
                        refine to_ieq 7 (dat dk_X12_findBoundary 68 rfl) rfl ry244 ry238 (fun c249 => ?_) (fun c249 => ?_)
                        · skip
                          refine to_pick [0, 1, 2] rfl ?_
                          have e250 : h5.2.2 60 23 = x1 := (by rw [wh5]; exact ex1)
                          exact ihn9 (n9 - 1) (by omega) y12 ry12 (show 0 ≤ y12 ∧ y12 ≤ h5.2.2 60 23 by omega) (show h5.2.2 60 23 - y12 ≤ ((n9 - 1 : Nat) : Int) by omega)
                        · skip
                          refine to_aload_n (dat dk_X12_findBoundary 69 rfl) rfl (to_getR 75 g_c13_60 (dat dk_X12_findBoundary 70 rfl) (I3.atS rfl) (I3.atE rfl) (to_iload_n (dat dk_X12_findBoundary 71 rfl) rfl (to_iload (dat dk_X12_findBoundary 72 rfl) rfl (to_gst (C := "MailArchiveModel") (f9 := "BOUNDARY") (d9 := "[I") (List.mem_of_getElem? (i := 5) rfl) (tin 8 133 (by decide +kernel) rfl) (dat dk_X12_findBoundary 73 rfl) (to_iconst (dat dk_X12_findBoundary 74 rfl) (to_bipush (dat dk_X12_findBoundary 75 rfl) (by decide) ?_))))))
                          refine to_cI ca_c13_198 (dat dk_X12_findBoundary 76 rfl) (ct_X12_same l h5 I3 75 1300 rfl y18 ry18 y244 ry244 1000204 8 (List.mem_of_getElem? (i := 3) rfl) 0 (by decide) 8 (by decide) (show 0 ≤ y18 ∧ y18 ≤ 640000 by omega) (show -1 ≤ y244 ∧ y244 ≤ 640000 by omega) (show 0 ≤ (0 : Int) ∧ (0 : Int) ≤ 100 by omega) (show 0 ≤ (8 : Int) ∧ (8 : Int) ≤ (8 : Int) by omega) (show y244 ≤ (1300 : Int) ∨ y18 + ((8 : Int) - (0 : Int)) ≤ (1300 : Int) by omega)) rfl trivial rfl (fun x251 h252 rx251 p253 => ?_)
                          obtain ⟨rfl, zx251⟩ := p253
                          refine to_ifne 160 (dat dk_X12_findBoundary 77 rfl) rfl rx251 (fun c254 => ?_) (fun c254 => ?_)
                          · skip
                            have jn202_n257 : ∀ (y255 : Int), (y255 = 0 ∨ y255 = 1) → (y255 = 0 ∨ 2 < y238 - y244) → To l E_X12_findBoundary (202, [(0, .inr (.inr 60)), (1, .inl f), (2, .inl y12), (3, .inl y18), (4, .inl y238), (5, .inl y244)], [.inl y255], h5, 0, 0) (Q_X12_findBoundary h f) := by
                              intro y255 ry255 c256
                              refine to_istore (L' := [(0, .inr (.inr 60)), (1, .inl f), (2, .inl y12), (3, .inl y18), (4, .inl y238), (5, .inl y244), (6, .inl y255)]) (dat dk_X12_findBoundary 103 rfl) (by decide) rfl ?_
                              have jn220_n260 : ∀ (y258 : Int), (I32 y258) → (y244 + 1 ≤ y258 ∧ y258 ≤ y244 + 2) → To l E_X12_findBoundary (220, [(0, .inr (.inr 60)), (1, .inl f), (2, .inl y12), (3, .inl y18), (4, .inl y238), (5, .inl y244), (6, .inl y255)], [.inl y258], h5, 0, 0) (Q_X12_findBoundary h f) := by
                                intro y258 ry258 c259
                                refine to_istore (L' := [(0, .inr (.inr 60)), (1, .inl f), (2, .inl y12), (3, .inl y18), (4, .inl y238), (5, .inl y244), (6, .inl y255), (7, .inl y258)]) (dat dk_X12_findBoundary 113 rfl) (by decide) rfl ?_
                                have e264 : h5.2.2 60 28 = (0 : Int) := (by rw [wh5]; exact wr_eq)
                                have lp222_n266 : ∀ (n266 : Nat) (y261 : Int) (h262 : Hp), (I32 y261) → (Inv h262) → (Fr [77, 228] h h262) → (y244 < y261 ∧ y261 ≤ 1302) → (h262.2.2 60 28 ≤ y261) → (y238 - y261 ≤ (n266 : Int)) → To l E_X12_findBoundary (222, [(0, .inr (.inr 60)), (1, .inl f), (2, .inl y12), (3, .inl y18), (4, .inl y238), (5, .inl y244), (6, .inl y255), (7, .inl y261)], [], h262, 0, 0) (Q_X12_findBoundary h f) := by
                                  intro n266
                                  induction n266 using Nat.strongRecOn with
                                  | _ n266 ihn266 =>
                                  intro y261 h262 ry261 Ih262 fh262 c263 c265 c267
                                  obtain ⟨x268, ex268⟩ : ∃ y : Int, h262.2.2 60 28 = y := ⟨_, rfl⟩
                                  have rx268 := Ih262.atR (a := 60) (j := 28) rfl
                                  rw [ex268] at rx268
                                  refine to_iload (dat dk_X12_findBoundary 114 rfl) rfl (to_iload (dat dk_X12_findBoundary 115 rfl) rfl ?_)
                                  refine to_ifeq 236 (dat dk_X12_findBoundary 116 rfl) rfl (by omega) (fun c269 => ?_) (fun c269 => ?_)
                                  · skip
                                    refine to_iload (dat dk_X12_findBoundary 121 rfl) rfl ?_
                                    refine to_ige 273 (dat dk_X12_findBoundary 122 rfl) rfl ry261 ry238 (fun c270 => ?_) (fun c270 => ?_)
                                    · skip
                                      exact to_vret rfl (dat dk_X12_findBoundary 140 rfl) (rv_mk ⟨Ih262, fh262⟩)
                                    · skip
                                      refine to_aload_n (dat dk_X12_findBoundary 123 rfl) rfl (to_getR 77 g_c13_66 (dat dk_X12_findBoundary 124 rfl) (Ih262.atS rfl) (Ih262.atE rfl) (to_aload_n (dat dk_X12_findBoundary 125 rfl) rfl (to_getIv (y := x268) ex268 g_c13_234 (dat dk_X12_findBoundary 126 rfl) (Ih262.atS rfl) (to_aload_n (dat dk_X12_findBoundary 127 rfl) rfl (to_getR 75 g_c13_60 (dat dk_X12_findBoundary 128 rfl) (Ih262.atS rfl) (Ih262.atE rfl) (to_iload (dat dk_X12_findBoundary 129 rfl) rfl ?_))))))
                                      obtain ⟨x271, ex271⟩ : ∃ y : Int, h262.2.2 75 (Int.toNat y261) = y := ⟨_, rfl⟩
                                      have rx271 := Ih262.atR (a := 75) (j := Int.toNat y261) rfl
                                      rw [ex271] at rx271
                                      refine to_baldv (q := 1) ex271 (dat dk_X12_findBoundary 130 rfl) (by decide) (Ih262.atS rfl) rfl (by decide) (by omega) (to_bastw (dat dk_X12_findBoundary 131 rfl) (Ih262.atS rfl) rfl (by decide) (by omega) ?_)
                                      intro h274 wh274
                                      have I272 : Inv h274 := by rw [wh274]; exact Ih262.put (a := 77) (j := (Int.toNat x268)) (x := (b8 x271)) (-128) (127) rfl rfl (show (-128 : Int) ≤ (b8 x271) ∧ (b8 x271) ≤ 127 by have := b8_in x271; omega)
                                      have f273 : Fr [77, 228] h h274 := by rw [wh274]; exact Fr.putF (a := 77) (j := (Int.toNat x268)) (x := (b8 x271)) fh262 rfl
                                      refine to_aload_n (dat dk_X12_findBoundary 132 rfl) rfl (to_dup (dat dk_X12_findBoundary 133 rfl) rfl (to_getIv (y := x268) (by rw [wh274]; exact ex268) g_c13_234 (dat dk_X12_findBoundary 134 rfl) (I272.atS rfl) (to_iconst (dat dk_X12_findBoundary 135 rfl) (to_iadd (dat dk_X12_findBoundary 136 rfl) (to_putIw p_c13_234 (dat dk_X12_findBoundary 137 rfl) (I272.atS rfl) ?_)))))
                                      intro h277 wh277
                                      have I275 : Inv h277 := by rw [wh277]; exact I272.put (a := 60) (j := 28) (x := (x268 + 1)) (0) (1300) rfl rfl (show (0 : Int) ≤ (x268 + 1) ∧ (x268 + 1) ≤ 1300 by omega)
                                      have f276 : Fr [77, 228] h h277 := by rw [wh277]; exact Fr.putF (a := 60) (j := 28) (x := (x268 + 1)) f273 rfl
                                      refine to_iinc (L' := [(0, .inr (.inr 60)), (1, .inl f), (2, .inl y12), (3, .inl y18), (4, .inl y238), (5, .inl y244), (6, .inl y255), (7, .inl (y261 + 1))]) (dat dk_X12_findBoundary 138 rfl) rfl (by decide) rfl (to_goto (dat dk_X12_findBoundary 139 rfl) rfl ?_)
                                      have e278 : h277.2.2 60 28 = (x268 + 1) := (by rw [wh277]; exact wr_eq)
                                      exact ihn266 (n266 - 1) (by omega) (y261 + 1) h277 (by omega) I275 f276 (show y244 < (y261 + 1) ∧ (y261 + 1) ≤ 1302 by omega) (show h277.2.2 60 28 ≤ (y261 + 1) by omega) (show y238 - (y261 + 1) ≤ ((n266 - 1 : Nat) : Int) by omega)
                                  · skip
                                    refine to_iload (dat dk_X12_findBoundary 117 rfl) rfl (to_iconst (dat dk_X12_findBoundary 118 rfl) (to_isub (dat dk_X12_findBoundary 119 rfl) (to_goto (dat dk_X12_findBoundary 120 rfl) rfl ?_)))
                                    refine to_ige 273 (dat dk_X12_findBoundary 122 rfl) rfl ry261 (by omega) (fun c279 => ?_) (fun c279 => ?_)
                                    · skip
                                      exact to_vret rfl (dat dk_X12_findBoundary 140 rfl) (rv_mk ⟨Ih262, fh262⟩)
                                    · skip
                                      refine to_aload_n (dat dk_X12_findBoundary 123 rfl) rfl (to_getR 77 g_c13_66 (dat dk_X12_findBoundary 124 rfl) (Ih262.atS rfl) (Ih262.atE rfl) (to_aload_n (dat dk_X12_findBoundary 125 rfl) rfl (to_getIv (y := x268) ex268 g_c13_234 (dat dk_X12_findBoundary 126 rfl) (Ih262.atS rfl) (to_aload_n (dat dk_X12_findBoundary 127 rfl) rfl (to_getR 75 g_c13_60 (dat dk_X12_findBoundary 128 rfl) (Ih262.atS rfl) (Ih262.atE rfl) (to_iload (dat dk_X12_findBoundary 129 rfl) rfl ?_))))))
                                      obtain ⟨x280, ex280⟩ : ∃ y : Int, h262.2.2 75 (Int.toNat y261) = y := ⟨_, rfl⟩
                                      have rx280 := Ih262.atR (a := 75) (j := Int.toNat y261) rfl
                                      rw [ex280] at rx280
                                      refine to_baldv (q := 1) ex280 (dat dk_X12_findBoundary 130 rfl) (by decide) (Ih262.atS rfl) rfl (by decide) (by omega) (to_bastw (dat dk_X12_findBoundary 131 rfl) (Ih262.atS rfl) rfl (by decide) (by omega) ?_)
                                      intro h283 wh283
                                      have I281 : Inv h283 := by rw [wh283]; exact Ih262.put (a := 77) (j := (Int.toNat x268)) (x := (b8 x280)) (-128) (127) rfl rfl (show (-128 : Int) ≤ (b8 x280) ∧ (b8 x280) ≤ 127 by have := b8_in x280; omega)
                                      have f282 : Fr [77, 228] h h283 := by rw [wh283]; exact Fr.putF (a := 77) (j := (Int.toNat x268)) (x := (b8 x280)) fh262 rfl
                                      refine to_aload_n (dat dk_X12_findBoundary 132 rfl) rfl (to_dup (dat dk_X12_findBoundary 133 rfl) rfl (to_getIv (y := x268) (by rw [wh283]; exact ex268) g_c13_234 (dat dk_X12_findBoundary 134 rfl) (I281.atS rfl) (to_iconst (dat dk_X12_findBoundary 135 rfl) (to_iadd (dat dk_X12_findBoundary 136 rfl) (to_putIw p_c13_234 (dat dk_X12_findBoundary 137 rfl) (I281.atS rfl) ?_)))))
                                      intro h286 wh286
                                      have I284 : Inv h286 := by rw [wh286]; exact I281.put (a := 60) (j := 28) (x := (x268 + 1)) (0) (1300) rfl rfl (show (0 : Int) ≤ (x268 + 1) ∧ (x268 + 1) ≤ 1300 by omega)
                                      have f285 : Fr [77, 228] h h286 := by rw [wh286]; exact Fr.putF (a := 60) (j := 28) (x := (x268 + 1)) f282 rfl
                                      refine to_iinc (L' := [(0, .inr (.inr 60)), (1, .inl f), (2, .inl y12), (3, .inl y18), (4, .inl y238), (5, .inl y244), (6, .inl y255), (7, .inl (y261 + 1))]) (dat dk_X12_findBoundary 138 rfl) rfl (by decide) rfl (to_goto (dat dk_X12_findBoundary 139 rfl) rfl ?_)
                                      have e287 : h286.2.2 60 28 = (x268 + 1) := (by rw [wh286]; exact wr_eq)
                                      exact ihn266 (n266 - 1) (by omega) (y261 + 1) h286 (by omega) I284 f285 (show y244 < (y261 + 1) ∧ (y261 + 1) ≤ 1302 by omega) (show h286.2.2 60 28 ≤ (y261 + 1) by omega) (show y238 - (y261 + 1) ≤ ((n266 - 1 : Nat) : Int) by omega)
                                exact lp222_n266 (y238 - y258).toNat y258 h5 ry258 I3 f4 (show y244 < y258 ∧ y258 ≤ 1302 by omega) (show h5.2.2 60 28 ≤ y258 by omega) (by omega)
                              refine to_iload (dat dk_X12_findBoundary 104 rfl) rfl ?_
                              refine to_ifeq 216 (dat dk_X12_findBoundary 105 rfl) rfl (by omega) (fun c288 => ?_) (fun c288 => ?_)
                              · skip
                                refine to_iload (dat dk_X12_findBoundary 110 rfl) rfl (to_iconst (dat dk_X12_findBoundary 111 rfl) (to_iadd (dat dk_X12_findBoundary 112 rfl) ?_))
                                exact jn220_n260 (y244 + 1) (by omega) (show y244 + 1 ≤ (y244 + 1) ∧ (y244 + 1) ≤ y244 + 2 by omega)
                              · skip
                                refine to_iload (dat dk_X12_findBoundary 106 rfl) rfl (to_iconst (dat dk_X12_findBoundary 107 rfl) (to_iadd (dat dk_X12_findBoundary 108 rfl) (to_goto (dat dk_X12_findBoundary 109 rfl) rfl ?_)))
                                exact jn220_n260 (y244 + 2) (by omega) (show y244 + 1 ≤ (y244 + 2) ∧ (y244 + 2) ≤ y244 + 2 by omega)
                            refine to_iload (dat dk_X12_findBoundary 79 rfl) rfl (to_iload (dat dk_X12_findBoundary 80 rfl) rfl (to_isub (dat dk_X12_findBoundary 81 rfl) (to_iconst (dat dk_X12_findBoundary 82 rfl) ?_)))
                            refine to_ile 201 (dat dk_X12_findBoundary 83 rfl) rfl (by omega) (by decide) (fun c289 => ?_) (fun c289 => ?_)
                            · skip
                              refine to_iconst (dat dk_X12_findBoundary 102 rfl) ?_
                              exact jn202_n257 0 (by decide) (show (0 : Int) = 0 ∨ 2 < y238 - y244 by omega)
                            · skip
                              refine to_aload_n (dat dk_X12_findBoundary 84 rfl) rfl (to_getR 75 g_c13_60 (dat dk_X12_findBoundary 85 rfl) (I3.atS rfl) (I3.atE rfl) (to_iload (dat dk_X12_findBoundary 86 rfl) rfl (to_iconst (dat dk_X12_findBoundary 87 rfl) (to_iadd (dat dk_X12_findBoundary 88 rfl) ?_))))
                              obtain ⟨x290, ex290⟩ : ∃ y : Int, h5.2.2 75 (Int.toNat (y244 + 1)) = y := ⟨_, rfl⟩
                              have rx290 := I3.atR (a := 75) (j := Int.toNat (y244 + 1)) rfl
                              rw [ex290] at rx290
                              refine to_baldv (q := 1) ex290 (dat dk_X12_findBoundary 89 rfl) (by decide) (I3.atS rfl) rfl (by decide) (by omega) (to_bipush (dat dk_X12_findBoundary 90 rfl) (by decide) ?_)
                              refine to_ine 201 (dat dk_X12_findBoundary 91 rfl) rfl (by omega) (by decide) (fun c291 => ?_) (fun c291 => ?_)
                              · skip
                                refine to_iconst (dat dk_X12_findBoundary 102 rfl) ?_
                                exact jn202_n257 0 (by decide) (show (0 : Int) = 0 ∨ 2 < y238 - y244 by omega)
                              · skip
                                refine to_aload_n (dat dk_X12_findBoundary 92 rfl) rfl (to_getR 75 g_c13_60 (dat dk_X12_findBoundary 93 rfl) (I3.atS rfl) (I3.atE rfl) (to_iload (dat dk_X12_findBoundary 94 rfl) rfl (to_iconst (dat dk_X12_findBoundary 95 rfl) (to_isub (dat dk_X12_findBoundary 96 rfl) ?_))))
                                obtain ⟨x292, ex292⟩ : ∃ y : Int, h5.2.2 75 (Int.toNat (y238 - 1)) = y := ⟨_, rfl⟩
                                have rx292 := I3.atR (a := 75) (j := Int.toNat (y238 - 1)) rfl
                                rw [ex292] at rx292
                                refine to_baldv (q := 1) ex292 (dat dk_X12_findBoundary 97 rfl) (by decide) (I3.atS rfl) rfl (by decide) (by omega) (to_bipush (dat dk_X12_findBoundary 98 rfl) (by decide) ?_)
                                refine to_ine 201 (dat dk_X12_findBoundary 99 rfl) rfl (by omega) (by decide) (fun c293 => ?_) (fun c293 => ?_)
                                · skip
                                  refine to_iconst (dat dk_X12_findBoundary 102 rfl) ?_
                                  exact jn202_n257 0 (by decide) (show (0 : Int) = 0 ∨ 2 < y238 - y244 by omega)
                                · skip
                                  refine to_iconst (dat dk_X12_findBoundary 100 rfl) (to_goto (dat dk_X12_findBoundary 101 rfl) rfl ?_)
                                  exact jn202_n257 1 (by decide) (show (1 : Int) = 0 ∨ 2 < y238 - y244 by omega)
                          · skip
                            refine to_goto (dat dk_X12_findBoundary 78 rfl) rfl ?_
                            refine to_pick [0, 1, 2] rfl ?_
                            have e294 : h5.2.2 60 23 = x1 := (by rw [wh5]; exact ex1)
                            exact ihn9 (n9 - 1) (by omega) y12 ry12 (show 0 ≤ y12 ∧ y12 ≤ h5.2.2 60 23 by omega) (show h5.2.2 60 23 - y12 ≤ ((n9 - 1 : Nat) : Int) by omega)
                      · skip
                        refine to_aload_n (dat dk_X12_findBoundary 58 rfl) rfl (to_getR 75 g_c13_60 (dat dk_X12_findBoundary 59 rfl) (I3.atS rfl) (I3.atE rfl) (to_iload (dat dk_X12_findBoundary 60 rfl) rfl ?_))
                        obtain ⟨x295, ex295⟩ : ∃ y : Int, h5.2.2 75 (Int.toNat y244) = y := ⟨_, rfl⟩
                        have rx295 := I3.atR (a := 75) (j := Int.toNat y244) rfl
                        rw [ex295] at rx295
                        refine to_baldv (q := 1) ex295 (dat dk_X12_findBoundary 61 rfl) (by decide) (I3.atS rfl) rfl (by decide) (by omega) (to_bipush (dat dk_X12_findBoundary 62 rfl) (by decide) ?_)
                        refine to_ieq 131 (dat dk_X12_findBoundary 63 rfl) rfl (by omega) (by decide) (fun c296 => ?_) (fun c296 => ?_)
                        · skip
                          refine to_iload (dat dk_X12_findBoundary 66 rfl) rfl (to_iload (dat dk_X12_findBoundary 67 rfl) rfl ?_)
                          refine to_ieq 7 (dat dk_X12_findBoundary 68 rfl) rfl ry244 ry238 (fun c297 => ?_) (fun c297 => ?_)
                          · skip
                            refine to_pick [0, 1, 2] rfl ?_
                            have e298 : h5.2.2 60 23 = x1 := (by rw [wh5]; exact ex1)
                            exact ihn9 (n9 - 1) (by omega) y12 ry12 (show 0 ≤ y12 ∧ y12 ≤ h5.2.2 60 23 by omega) (show h5.2.2 60 23 - y12 ≤ ((n9 - 1 : Nat) : Int) by omega)
                          · skip
                            refine to_aload_n (dat dk_X12_findBoundary 69 rfl) rfl (to_getR 75 g_c13_60 (dat dk_X12_findBoundary 70 rfl) (I3.atS rfl) (I3.atE rfl) (to_iload_n (dat dk_X12_findBoundary 71 rfl) rfl (to_iload (dat dk_X12_findBoundary 72 rfl) rfl (to_gst (C := "MailArchiveModel") (f9 := "BOUNDARY") (d9 := "[I") (List.mem_of_getElem? (i := 5) rfl) (tin 8 133 (by decide +kernel) rfl) (dat dk_X12_findBoundary 73 rfl) (to_iconst (dat dk_X12_findBoundary 74 rfl) (to_bipush (dat dk_X12_findBoundary 75 rfl) (by decide) ?_))))))
                            refine to_cI ca_c13_198 (dat dk_X12_findBoundary 76 rfl) (ct_X12_same l h5 I3 75 1300 rfl y18 ry18 y244 ry244 1000204 8 (List.mem_of_getElem? (i := 3) rfl) 0 (by decide) 8 (by decide) (show 0 ≤ y18 ∧ y18 ≤ 640000 by omega) (show -1 ≤ y244 ∧ y244 ≤ 640000 by omega) (show 0 ≤ (0 : Int) ∧ (0 : Int) ≤ 100 by omega) (show 0 ≤ (8 : Int) ∧ (8 : Int) ≤ (8 : Int) by omega) (show y244 ≤ (1300 : Int) ∨ y18 + ((8 : Int) - (0 : Int)) ≤ (1300 : Int) by omega)) rfl trivial rfl (fun x299 h300 rx299 p301 => ?_)
                            obtain ⟨rfl, zx299⟩ := p301
                            refine to_ifne 160 (dat dk_X12_findBoundary 77 rfl) rfl rx299 (fun c302 => ?_) (fun c302 => ?_)
                            · skip
                              have jn202_n305 : ∀ (y303 : Int), (y303 = 0 ∨ y303 = 1) → (y303 = 0 ∨ 2 < y238 - y244) → To l E_X12_findBoundary (202, [(0, .inr (.inr 60)), (1, .inl f), (2, .inl y12), (3, .inl y18), (4, .inl y238), (5, .inl y244)], [.inl y303], h5, 0, 0) (Q_X12_findBoundary h f) := by
                                intro y303 ry303 c304
                                refine to_istore (L' := [(0, .inr (.inr 60)), (1, .inl f), (2, .inl y12), (3, .inl y18), (4, .inl y238), (5, .inl y244), (6, .inl y303)]) (dat dk_X12_findBoundary 103 rfl) (by decide) rfl ?_
                                have jn220_n308 : ∀ (y306 : Int), (I32 y306) → (y244 + 1 ≤ y306 ∧ y306 ≤ y244 + 2) → To l E_X12_findBoundary (220, [(0, .inr (.inr 60)), (1, .inl f), (2, .inl y12), (3, .inl y18), (4, .inl y238), (5, .inl y244), (6, .inl y303)], [.inl y306], h5, 0, 0) (Q_X12_findBoundary h f) := by
                                  intro y306 ry306 c307
                                  refine to_istore (L' := [(0, .inr (.inr 60)), (1, .inl f), (2, .inl y12), (3, .inl y18), (4, .inl y238), (5, .inl y244), (6, .inl y303), (7, .inl y306)]) (dat dk_X12_findBoundary 113 rfl) (by decide) rfl ?_
                                  have e312 : h5.2.2 60 28 = (0 : Int) := (by rw [wh5]; exact wr_eq)
                                  have lp222_n314 : ∀ (n314 : Nat) (y309 : Int) (h310 : Hp), (I32 y309) → (Inv h310) → (Fr [77, 228] h h310) → (y244 < y309 ∧ y309 ≤ 1302) → (h310.2.2 60 28 ≤ y309) → (y238 - y309 ≤ (n314 : Int)) → To l E_X12_findBoundary (222, [(0, .inr (.inr 60)), (1, .inl f), (2, .inl y12), (3, .inl y18), (4, .inl y238), (5, .inl y244), (6, .inl y303), (7, .inl y309)], [], h310, 0, 0) (Q_X12_findBoundary h f) := by
                                    intro n314
                                    induction n314 using Nat.strongRecOn with
                                    | _ n314 ihn314 =>
                                    intro y309 h310 ry309 Ih310 fh310 c311 c313 c315
                                    obtain ⟨x316, ex316⟩ : ∃ y : Int, h310.2.2 60 28 = y := ⟨_, rfl⟩
                                    have rx316 := Ih310.atR (a := 60) (j := 28) rfl
                                    rw [ex316] at rx316
                                    refine to_iload (dat dk_X12_findBoundary 114 rfl) rfl (to_iload (dat dk_X12_findBoundary 115 rfl) rfl ?_)
                                    refine to_ifeq 236 (dat dk_X12_findBoundary 116 rfl) rfl (by omega) (fun c317 => ?_) (fun c317 => ?_)
                                    · skip
                                      refine to_iload (dat dk_X12_findBoundary 121 rfl) rfl ?_
                                      refine to_ige 273 (dat dk_X12_findBoundary 122 rfl) rfl ry309 ry238 (fun c318 => ?_) (fun c318 => ?_)
                                      · skip
                                        exact to_vret rfl (dat dk_X12_findBoundary 140 rfl) (rv_mk ⟨Ih310, fh310⟩)
                                      · skip
                                        refine to_aload_n (dat dk_X12_findBoundary 123 rfl) rfl (to_getR 77 g_c13_66 (dat dk_X12_findBoundary 124 rfl) (Ih310.atS rfl) (Ih310.atE rfl) (to_aload_n (dat dk_X12_findBoundary 125 rfl) rfl (to_getIv (y := x316) ex316 g_c13_234 (dat dk_X12_findBoundary 126 rfl) (Ih310.atS rfl) (to_aload_n (dat dk_X12_findBoundary 127 rfl) rfl (to_getR 75 g_c13_60 (dat dk_X12_findBoundary 128 rfl) (Ih310.atS rfl) (Ih310.atE rfl) (to_iload (dat dk_X12_findBoundary 129 rfl) rfl ?_))))))
                                        obtain ⟨x319, ex319⟩ : ∃ y : Int, h310.2.2 75 (Int.toNat y309) = y := ⟨_, rfl⟩
                                        have rx319 := Ih310.atR (a := 75) (j := Int.toNat y309) rfl
                                        rw [ex319] at rx319
                                        refine to_baldv (q := 1) ex319 (dat dk_X12_findBoundary 130 rfl) (by decide) (Ih310.atS rfl) rfl (by decide) (by omega) (to_bastw (dat dk_X12_findBoundary 131 rfl) (Ih310.atS rfl) rfl (by decide) (by omega) ?_)
                                        intro h322 wh322
                                        have I320 : Inv h322 := by rw [wh322]; exact Ih310.put (a := 77) (j := (Int.toNat x316)) (x := (b8 x319)) (-128) (127) rfl rfl (show (-128 : Int) ≤ (b8 x319) ∧ (b8 x319) ≤ 127 by have := b8_in x319; omega)
                                        have f321 : Fr [77, 228] h h322 := by rw [wh322]; exact Fr.putF (a := 77) (j := (Int.toNat x316)) (x := (b8 x319)) fh310 rfl
                                        refine to_aload_n (dat dk_X12_findBoundary 132 rfl) rfl (to_dup (dat dk_X12_findBoundary 133 rfl) rfl (to_getIv (y := x316) (by rw [wh322]; exact ex316) g_c13_234 (dat dk_X12_findBoundary 134 rfl) (I320.atS rfl) (to_iconst (dat dk_X12_findBoundary 135 rfl) (to_iadd (dat dk_X12_findBoundary 136 rfl) (to_putIw p_c13_234 (dat dk_X12_findBoundary 137 rfl) (I320.atS rfl) ?_)))))
                                        intro h325 wh325
                                        have I323 : Inv h325 := by rw [wh325]; exact I320.put (a := 60) (j := 28) (x := (x316 + 1)) (0) (1300) rfl rfl (show (0 : Int) ≤ (x316 + 1) ∧ (x316 + 1) ≤ 1300 by omega)
                                        have f324 : Fr [77, 228] h h325 := by rw [wh325]; exact Fr.putF (a := 60) (j := 28) (x := (x316 + 1)) f321 rfl
                                        refine to_iinc (L' := [(0, .inr (.inr 60)), (1, .inl f), (2, .inl y12), (3, .inl y18), (4, .inl y238), (5, .inl y244), (6, .inl y303), (7, .inl (y309 + 1))]) (dat dk_X12_findBoundary 138 rfl) rfl (by decide) rfl (to_goto (dat dk_X12_findBoundary 139 rfl) rfl ?_)
                                        have e326 : h325.2.2 60 28 = (x316 + 1) := (by rw [wh325]; exact wr_eq)
                                        exact ihn314 (n314 - 1) (by omega) (y309 + 1) h325 (by omega) I323 f324 (show y244 < (y309 + 1) ∧ (y309 + 1) ≤ 1302 by omega) (show h325.2.2 60 28 ≤ (y309 + 1) by omega) (show y238 - (y309 + 1) ≤ ((n314 - 1 : Nat) : Int) by omega)
                                    · skip
                                      refine to_iload (dat dk_X12_findBoundary 117 rfl) rfl (to_iconst (dat dk_X12_findBoundary 118 rfl) (to_isub (dat dk_X12_findBoundary 119 rfl) (to_goto (dat dk_X12_findBoundary 120 rfl) rfl ?_)))
                                      refine to_ige 273 (dat dk_X12_findBoundary 122 rfl) rfl ry309 (by omega) (fun c327 => ?_) (fun c327 => ?_)
                                      · skip
                                        exact to_vret rfl (dat dk_X12_findBoundary 140 rfl) (rv_mk ⟨Ih310, fh310⟩)
                                      · skip
                                        refine to_aload_n (dat dk_X12_findBoundary 123 rfl) rfl (to_getR 77 g_c13_66 (dat dk_X12_findBoundary 124 rfl) (Ih310.atS rfl) (Ih310.atE rfl) (to_aload_n (dat dk_X12_findBoundary 125 rfl) rfl (to_getIv (y := x316) ex316 g_c13_234 (dat dk_X12_findBoundary 126 rfl) (Ih310.atS rfl) (to_aload_n (dat dk_X12_findBoundary 127 rfl) rfl (to_getR 75 g_c13_60 (dat dk_X12_findBoundary 128 rfl) (Ih310.atS rfl) (Ih310.atE rfl) (to_iload (dat dk_X12_findBoundary 129 rfl) rfl ?_))))))
                                        obtain ⟨x328, ex328⟩ : ∃ y : Int, h310.2.2 75 (Int.toNat y309) = y := ⟨_, rfl⟩
                                        have rx328 := Ih310.atR (a := 75) (j := Int.toNat y309) rfl
                                        rw [ex328] at rx328
                                        refine to_baldv (q := 1) ex328 (dat dk_X12_findBoundary 130 rfl) (by decide) (Ih310.atS rfl) rfl (by decide) (by omega) (to_bastw (dat dk_X12_findBoundary 131 rfl) (Ih310.atS rfl) rfl (by decide) (by omega) ?_)
                                        intro h331 wh331
                                        have I329 : Inv h331 := by rw [wh331]; exact Ih310.put (a := 77) (j := (Int.toNat x316)) (x := (b8 x328)) (-128) (127) rfl rfl (show (-128 : Int) ≤ (b8 x328) ∧ (b8 x328) ≤ 127 by have := b8_in x328; omega)
                                        have f330 : Fr [77, 228] h h331 := by rw [wh331]; exact Fr.putF (a := 77) (j := (Int.toNat x316)) (x := (b8 x328)) fh310 rfl
                                        refine to_aload_n (dat dk_X12_findBoundary 132 rfl) rfl (to_dup (dat dk_X12_findBoundary 133 rfl) rfl (to_getIv (y := x316) (by rw [wh331]; exact ex316) g_c13_234 (dat dk_X12_findBoundary 134 rfl) (I329.atS rfl) (to_iconst (dat dk_X12_findBoundary 135 rfl) (to_iadd (dat dk_X12_findBoundary 136 rfl) (to_putIw p_c13_234 (dat dk_X12_findBoundary 137 rfl) (I329.atS rfl) ?_)))))
                                        intro h334 wh334
                                        have I332 : Inv h334 := by rw [wh334]; exact I329.put (a := 60) (j := 28) (x := (x316 + 1)) (0) (1300) rfl rfl (show (0 : Int) ≤ (x316 + 1) ∧ (x316 + 1) ≤ 1300 by omega)
                                        have f333 : Fr [77, 228] h h334 := by rw [wh334]; exact Fr.putF (a := 60) (j := 28) (x := (x316 + 1)) f330 rfl
                                        refine to_iinc (L' := [(0, .inr (.inr 60)), (1, .inl f), (2, .inl y12), (3, .inl y18), (4, .inl y238), (5, .inl y244), (6, .inl y303), (7, .inl (y309 + 1))]) (dat dk_X12_findBoundary 138 rfl) rfl (by decide) rfl (to_goto (dat dk_X12_findBoundary 139 rfl) rfl ?_)
                                        have e335 : h334.2.2 60 28 = (x316 + 1) := (by rw [wh334]; exact wr_eq)
                                        exact ihn314 (n314 - 1) (by omega) (y309 + 1) h334 (by omega) I332 f333 (show y244 < (y309 + 1) ∧ (y309 + 1) ≤ 1302 by omega) (show h334.2.2 60 28 ≤ (y309 + 1) by omega) (show y238 - (y309 + 1) ≤ ((n314 - 1 : Nat) : Int) by omega)
                                  exact lp222_n314 (y238 - y306).toNat y306 h5 ry306 I3 f4 (show y244 < y306 ∧ y306 ≤ 1302 by omega) (show h5.2.2 60 28 ≤ y306 by omega) (by omega)
                                refine to_iload (dat dk_X12_findBoundary 104 rfl) rfl ?_
                                refine to_ifeq 216 (dat dk_X12_findBoundary 105 rfl) rfl (by omega) (fun c336 => ?_) (fun c336 => ?_)
                                · skip
                                  refine to_iload (dat dk_X12_findBoundary 110 rfl) rfl (to_iconst (dat dk_X12_findBoundary 111 rfl) (to_iadd (dat dk_X12_findBoundary 112 rfl) ?_))
                                  exact jn220_n308 (y244 + 1) (by omega) (show y244 + 1 ≤ (y244 + 1) ∧ (y244 + 1) ≤ y244 + 2 by omega)
                                · skip
                                  refine to_iload (dat dk_X12_findBoundary 106 rfl) rfl (to_iconst (dat dk_X12_findBoundary 107 rfl) (to_iadd (dat dk_X12_findBoundary 108 rfl) (to_goto (dat dk_X12_findBoundary 109 rfl) rfl ?_)))
                                  exact jn220_n308 (y244 + 2) (by omega) (show y244 + 1 ≤ (y244 + 2) ∧ (y244 + 2) ≤ y244 + 2 by omega)
                              refine to_iload (dat dk_X12_findBoundary 79 rfl) rfl (to_iload (dat dk_X12_findBoundary 80 rfl) rfl (to_isub (dat dk_X12_findBoundary 81 rfl) (to_iconst (dat dk_X12_findBoundary 82 rfl) ?_)))
                              refine to_ile 201 (dat dk_X12_findBoundary 83 rfl) rfl (by omega) (by decide) (fun c337 => ?_) (fun c337 => ?_)
                              · skip
                                refine to_iconst (dat dk_X12_findBoundary 102 rfl) ?_
                                exact jn202_n305 0 (by decide) (show (0 : Int) = 0 ∨ 2 < y238 - y244 by omega)
                              · skip
                                refine to_aload_n (dat dk_X12_findBoundary 84 rfl) rfl (to_getR 75 g_c13_60 (dat dk_X12_findBoundary 85 rfl) (I3.atS rfl) (I3.atE rfl) (to_iload (dat dk_X12_findBoundary 86 rfl) rfl (to_iconst (dat dk_X12_findBoundary 87 rfl) (to_iadd (dat dk_X12_findBoundary 88 rfl) ?_))))
                                obtain ⟨x338, ex338⟩ : ∃ y : Int, h5.2.2 75 (Int.toNat (y244 + 1)) = y := ⟨_, rfl⟩
                                have rx338 := I3.atR (a := 75) (j := Int.toNat (y244 + 1)) rfl
                                rw [ex338] at rx338
                                refine to_baldv (q := 1) ex338 (dat dk_X12_findBoundary 89 rfl) (by decide) (I3.atS rfl) rfl (by decide) (by omega) (to_bipush (dat dk_X12_findBoundary 90 rfl) (by decide) ?_)
                                refine to_ine 201 (dat dk_X12_findBoundary 91 rfl) rfl (by omega) (by decide) (fun c339 => ?_) (fun c339 => ?_)
                                · skip
                                  refine to_iconst (dat dk_X12_findBoundary 102 rfl) ?_
                                  exact jn202_n305 0 (by decide) (show (0 : Int) = 0 ∨ 2 < y238 - y244 by omega)
                                · skip
                                  refine to_aload_n (dat dk_X12_findBoundary 92 rfl) rfl (to_getR 75 g_c13_60 (dat dk_X12_findBoundary 93 rfl) (I3.atS rfl) (I3.atE rfl) (to_iload (dat dk_X12_findBoundary 94 rfl) rfl (to_iconst (dat dk_X12_findBoundary 95 rfl) (to_isub (dat dk_X12_findBoundary 96 rfl) ?_))))
                                  obtain ⟨x340, ex340⟩ : ∃ y : Int, h5.2.2 75 (Int.toNat (y238 - 1)) = y := ⟨_, rfl⟩
                                  have rx340 := I3.atR (a := 75) (j := Int.toNat (y238 - 1)) rfl
                                  rw [ex340] at rx340
                                  refine to_baldv (q := 1) ex340 (dat dk_X12_findBoundary 97 rfl) (by decide) (I3.atS rfl) rfl (by decide) (by omega) (to_bipush (dat dk_X12_findBoundary 98 rfl) (by decide) ?_)
                                  refine to_ine 201 (dat dk_X12_findBoundary 99 rfl) rfl (by omega) (by decide) (fun c341 => ?_) (fun c341 => ?_)
                                  · skip
                                    refine to_iconst (dat dk_X12_findBoundary 102 rfl) ?_
                                    exact jn202_n305 0 (by decide) (show (0 : Int) = 0 ∨ 2 < y238 - y244 by omega)
                                  · skip
                                    refine to_iconst (dat dk_X12_findBoundary 100 rfl) (to_goto (dat dk_X12_findBoundary 101 rfl) rfl ?_)
                                    exact jn202_n305 1 (by decide) (show (1 : Int) = 0 ∨ 2 < y238 - y244 by omega)
                            · skip
                              refine to_goto (dat dk_X12_findBoundary 78 rfl) rfl ?_
                              refine to_pick [0, 1, 2] rfl ?_
                              have e342 : h5.2.2 60 23 = x1 := (by rw [wh5]; exact ex1)
                              exact ihn9 (n9 - 1) (by omega) y12 ry12 (show 0 ≤ y12 ∧ y12 ≤ h5.2.2 60 23 by omega) (show h5.2.2 60 23 - y12 ≤ ((n9 - 1 : Nat) : Int) by omega)
                        · skip
                          refine to_iinc (L' := [(0, .inr (.inr 60)), (1, .inl f), (2, .inl y12), (3, .inl y18), (4, .inl y238), (5, .inl (y244 + 1))]) (dat dk_X12_findBoundary 64 rfl) rfl (by decide) rfl (to_goto (dat dk_X12_findBoundary 65 rfl) rfl ?_)
                          exact ihn246 (n246 - 1) (by omega) (y244 + 1) (by omega) (show y18 ≤ (y244 + 1) ∧ (y244 + 1) ≤ y238 by omega) (show y238 - (y244 + 1) ≤ ((n246 - 1 : Nat) : Int) by omega)
                    exact lp106_n246 (y238 - y18).toNat y18 ry18 (show y18 ≤ y18 ∧ y18 ≤ y238 by omega) (by omega)
                  · skip
                    refine to_aload_n (dat dk_X12_findBoundary 43 rfl) rfl (to_getR 75 g_c13_60 (dat dk_X12_findBoundary 44 rfl) (I3.atS rfl) (I3.atE rfl) (to_iload (dat dk_X12_findBoundary 45 rfl) rfl (to_iconst (dat dk_X12_findBoundary 46 rfl) (to_isub (dat dk_X12_findBoundary 47 rfl) ?_))))
                    obtain ⟨x343, ex343⟩ : ∃ y : Int, h5.2.2 75 (Int.toNat (y238 - 1)) = y := ⟨_, rfl⟩
                    have rx343 := I3.atR (a := 75) (j := Int.toNat (y238 - 1)) rfl
                    rw [ex343] at rx343
                    refine to_baldv (q := 1) ex343 (dat dk_X12_findBoundary 48 rfl) (by decide) (I3.atS rfl) rfl (by decide) (by omega) ?_
                    refine to_cI ca_c13_182 (dat dk_X12_findBoundary 49 rfl) (ct_X12_isBlank l h5 I3 x343 (by omega)) rfl trivial rfl (fun x344 h345 rx344 p346 => ?_)
                    obtain ⟨rfl, zx344⟩ := p346
                    refine to_ifeq 103 (dat dk_X12_findBoundary 50 rfl) rfl rx344 (fun c347 => ?_) (fun c347 => ?_)
                    · skip
                      refine to_iload_n (dat dk_X12_findBoundary 53 rfl) rfl (to_istore (L' := [(0, .inr (.inr 60)), (1, .inl f), (2, .inl y12), (3, .inl y18), (4, .inl y238), (5, .inl y18)]) (dat dk_X12_findBoundary 54 rfl) (by decide) rfl ?_)
                      have lp106_n350 : ∀ (n350 : Nat) (y348 : Int), (I32 y348) → (y18 ≤ y348 ∧ y348 ≤ y238) → (y238 - y348 ≤ (n350 : Int)) → To l E_X12_findBoundary (106, [(0, .inr (.inr 60)), (1, .inl f), (2, .inl y12), (3, .inl y18), (4, .inl y238), (5, .inl y348)], [], h5, 0, 0) (Q_X12_findBoundary h f) := by
                        intro n350
                        induction n350 using Nat.strongRecOn with
                        | _ n350 ihn350 =>
                        intro y348 ry348 c349 c351
                        refine to_iload (dat dk_X12_findBoundary 55 rfl) rfl (to_iload (dat dk_X12_findBoundary 56 rfl) rfl ?_)
                        refine to_ige 131 (dat dk_X12_findBoundary 57 rfl) rfl ry348 ry238 (fun c352 => ?_) (fun c352 => ?_)
                        · skip
                          refine to_iload (dat dk_X12_findBoundary 66 rfl) rfl (to_iload (dat dk_X12_findBoundary 67 rfl) rfl ?_)
                          refine to_ieq 7 (dat dk_X12_findBoundary 68 rfl) rfl ry348 ry238 (fun c353 => ?_) (fun c353 => ?_)
                          · skip
                            refine to_pick [0, 1, 2] rfl ?_
                            have e354 : h5.2.2 60 23 = x1 := (by rw [wh5]; exact ex1)
                            exact ihn9 (n9 - 1) (by omega) y12 ry12 (show 0 ≤ y12 ∧ y12 ≤ h5.2.2 60 23 by omega) (show h5.2.2 60 23 - y12 ≤ ((n9 - 1 : Nat) : Int) by omega)
                          · skip
                            refine to_aload_n (dat dk_X12_findBoundary 69 rfl) rfl (to_getR 75 g_c13_60 (dat dk_X12_findBoundary 70 rfl) (I3.atS rfl) (I3.atE rfl) (to_iload_n (dat dk_X12_findBoundary 71 rfl) rfl (to_iload (dat dk_X12_findBoundary 72 rfl) rfl (to_gst (C := "MailArchiveModel") (f9 := "BOUNDARY") (d9 := "[I") (List.mem_of_getElem? (i := 5) rfl) (tin 8 133 (by decide +kernel) rfl) (dat dk_X12_findBoundary 73 rfl) (to_iconst (dat dk_X12_findBoundary 74 rfl) (to_bipush (dat dk_X12_findBoundary 75 rfl) (by decide) ?_))))))
                            refine to_cI ca_c13_198 (dat dk_X12_findBoundary 76 rfl) (ct_X12_same l h5 I3 75 1300 rfl y18 ry18 y348 ry348 1000204 8 (List.mem_of_getElem? (i := 3) rfl) 0 (by decide) 8 (by decide) (show 0 ≤ y18 ∧ y18 ≤ 640000 by omega) (show -1 ≤ y348 ∧ y348 ≤ 640000 by omega) (show 0 ≤ (0 : Int) ∧ (0 : Int) ≤ 100 by omega) (show 0 ≤ (8 : Int) ∧ (8 : Int) ≤ (8 : Int) by omega) (show y348 ≤ (1300 : Int) ∨ y18 + ((8 : Int) - (0 : Int)) ≤ (1300 : Int) by omega)) rfl trivial rfl (fun x355 h356 rx355 p357 => ?_)
                            obtain ⟨rfl, zx355⟩ := p357
                            refine to_ifne 160 (dat dk_X12_findBoundary 77 rfl) rfl rx355 (fun c358 => ?_) (fun c358 => ?_)
                            · skip
                              have jn202_n361 : ∀ (y359 : Int), (y359 = 0 ∨ y359 = 1) → (y359 = 0 ∨ 2 < y238 - y348) → To l E_X12_findBoundary (202, [(0, .inr (.inr 60)), (1, .inl f), (2, .inl y12), (3, .inl y18), (4, .inl y238), (5, .inl y348)], [.inl y359], h5, 0, 0) (Q_X12_findBoundary h f) := by
                                intro y359 ry359 c360
                                refine to_istore (L' := [(0, .inr (.inr 60)), (1, .inl f), (2, .inl y12), (3, .inl y18), (4, .inl y238), (5, .inl y348), (6, .inl y359)]) (dat dk_X12_findBoundary 103 rfl) (by decide) rfl ?_
                                have jn220_n364 : ∀ (y362 : Int), (I32 y362) → (y348 + 1 ≤ y362 ∧ y362 ≤ y348 + 2) → To l E_X12_findBoundary (220, [(0, .inr (.inr 60)), (1, .inl f), (2, .inl y12), (3, .inl y18), (4, .inl y238), (5, .inl y348), (6, .inl y359)], [.inl y362], h5, 0, 0) (Q_X12_findBoundary h f) := by
                                  intro y362 ry362 c363
                                  refine to_istore (L' := [(0, .inr (.inr 60)), (1, .inl f), (2, .inl y12), (3, .inl y18), (4, .inl y238), (5, .inl y348), (6, .inl y359), (7, .inl y362)]) (dat dk_X12_findBoundary 113 rfl) (by decide) rfl ?_
                                  have e368 : h5.2.2 60 28 = (0 : Int) := (by rw [wh5]; exact wr_eq)
                                  have lp222_n370 : ∀ (n370 : Nat) (y365 : Int) (h366 : Hp), (I32 y365) → (Inv h366) → (Fr [77, 228] h h366) → (y348 < y365 ∧ y365 ≤ 1302) → (h366.2.2 60 28 ≤ y365) → (y238 - y365 ≤ (n370 : Int)) → To l E_X12_findBoundary (222, [(0, .inr (.inr 60)), (1, .inl f), (2, .inl y12), (3, .inl y18), (4, .inl y238), (5, .inl y348), (6, .inl y359), (7, .inl y365)], [], h366, 0, 0) (Q_X12_findBoundary h f) := by
                                    intro n370
                                    induction n370 using Nat.strongRecOn with
                                    | _ n370 ihn370 =>
                                    intro y365 h366 ry365 Ih366 fh366 c367 c369 c371
                                    obtain ⟨x372, ex372⟩ : ∃ y : Int, h366.2.2 60 28 = y := ⟨_, rfl⟩
                                    have rx372 := Ih366.atR (a := 60) (j := 28) rfl
                                    rw [ex372] at rx372
                                    refine to_iload (dat dk_X12_findBoundary 114 rfl) rfl (to_iload (dat dk_X12_findBoundary 115 rfl) rfl ?_)
                                    refine to_ifeq 236 (dat dk_X12_findBoundary 116 rfl) rfl (by omega) (fun c373 => ?_) (fun c373 => ?_)
                                    · skip
                                      refine to_iload (dat dk_X12_findBoundary 121 rfl) rfl ?_
                                      refine to_ige 273 (dat dk_X12_findBoundary 122 rfl) rfl ry365 ry238 (fun c374 => ?_) (fun c374 => ?_)
                                      · skip
                                        exact to_vret rfl (dat dk_X12_findBoundary 140 rfl) (rv_mk ⟨Ih366, fh366⟩)
                                      · skip
                                        refine to_aload_n (dat dk_X12_findBoundary 123 rfl) rfl (to_getR 77 g_c13_66 (dat dk_X12_findBoundary 124 rfl) (Ih366.atS rfl) (Ih366.atE rfl) (to_aload_n (dat dk_X12_findBoundary 125 rfl) rfl (to_getIv (y := x372) ex372 g_c13_234 (dat dk_X12_findBoundary 126 rfl) (Ih366.atS rfl) (to_aload_n (dat dk_X12_findBoundary 127 rfl) rfl (to_getR 75 g_c13_60 (dat dk_X12_findBoundary 128 rfl) (Ih366.atS rfl) (Ih366.atE rfl) (to_iload (dat dk_X12_findBoundary 129 rfl) rfl ?_))))))
                                        obtain ⟨x375, ex375⟩ : ∃ y : Int, h366.2.2 75 (Int.toNat y365) = y := ⟨_, rfl⟩
                                        have rx375 := Ih366.atR (a := 75) (j := Int.toNat y365) rfl
                                        rw [ex375] at rx375
                                        refine to_baldv (q := 1) ex375 (dat dk_X12_findBoundary 130 rfl) (by decide) (Ih366.atS rfl) rfl (by decide) (by omega) (to_bastw (dat dk_X12_findBoundary 131 rfl) (Ih366.atS rfl) rfl (by decide) (by omega) ?_)
                                        intro h378 wh378
                                        have I376 : Inv h378 := by rw [wh378]; exact Ih366.put (a := 77) (j := (Int.toNat x372)) (x := (b8 x375)) (-128) (127) rfl rfl (show (-128 : Int) ≤ (b8 x375) ∧ (b8 x375) ≤ 127 by have := b8_in x375; omega)
                                        have f377 : Fr [77, 228] h h378 := by rw [wh378]; exact Fr.putF (a := 77) (j := (Int.toNat x372)) (x := (b8 x375)) fh366 rfl
                                        refine to_aload_n (dat dk_X12_findBoundary 132 rfl) rfl (to_dup (dat dk_X12_findBoundary 133 rfl) rfl (to_getIv (y := x372) (by rw [wh378]; exact ex372) g_c13_234 (dat dk_X12_findBoundary 134 rfl) (I376.atS rfl) (to_iconst (dat dk_X12_findBoundary 135 rfl) (to_iadd (dat dk_X12_findBoundary 136 rfl) (to_putIw p_c13_234 (dat dk_X12_findBoundary 137 rfl) (I376.atS rfl) ?_)))))
                                        intro h381 wh381
                                        have I379 : Inv h381 := by rw [wh381]; exact I376.put (a := 60) (j := 28) (x := (x372 + 1)) (0) (1300) rfl rfl (show (0 : Int) ≤ (x372 + 1) ∧ (x372 + 1) ≤ 1300 by omega)
                                        have f380 : Fr [77, 228] h h381 := by rw [wh381]; exact Fr.putF (a := 60) (j := 28) (x := (x372 + 1)) f377 rfl
                                        refine to_iinc (L' := [(0, .inr (.inr 60)), (1, .inl f), (2, .inl y12), (3, .inl y18), (4, .inl y238), (5, .inl y348), (6, .inl y359), (7, .inl (y365 + 1))]) (dat dk_X12_findBoundary 138 rfl) rfl (by decide) rfl (to_goto (dat dk_X12_findBoundary 139 rfl) rfl ?_)
                                        have e382 : h381.2.2 60 28 = (x372 + 1) := (by rw [wh381]; exact wr_eq)
                                        exact ihn370 (n370 - 1) (by omega) (y365 + 1) h381 (by omega) I379 f380 (show y348 < (y365 + 1) ∧ (y365 + 1) ≤ 1302 by omega) (show h381.2.2 60 28 ≤ (y365 + 1) by omega) (show y238 - (y365 + 1) ≤ ((n370 - 1 : Nat) : Int) by omega)
                                    · skip
                                      refine to_iload (dat dk_X12_findBoundary 117 rfl) rfl (to_iconst (dat dk_X12_findBoundary 118 rfl) (to_isub (dat dk_X12_findBoundary 119 rfl) (to_goto (dat dk_X12_findBoundary 120 rfl) rfl ?_)))
                                      refine to_ige 273 (dat dk_X12_findBoundary 122 rfl) rfl ry365 (by omega) (fun c383 => ?_) (fun c383 => ?_)
                                      · skip
                                        exact to_vret rfl (dat dk_X12_findBoundary 140 rfl) (rv_mk ⟨Ih366, fh366⟩)
                                      · skip
                                        refine to_aload_n (dat dk_X12_findBoundary 123 rfl) rfl (to_getR 77 g_c13_66 (dat dk_X12_findBoundary 124 rfl) (Ih366.atS rfl) (Ih366.atE rfl) (to_aload_n (dat dk_X12_findBoundary 125 rfl) rfl (to_getIv (y := x372) ex372 g_c13_234 (dat dk_X12_findBoundary 126 rfl) (Ih366.atS rfl) (to_aload_n (dat dk_X12_findBoundary 127 rfl) rfl (to_getR 75 g_c13_60 (dat dk_X12_findBoundary 128 rfl) (Ih366.atS rfl) (Ih366.atE rfl) (to_iload (dat dk_X12_findBoundary 129 rfl) rfl ?_))))))
                                        obtain ⟨x384, ex384⟩ : ∃ y : Int, h366.2.2 75 (Int.toNat y365) = y := ⟨_, rfl⟩
                                        have rx384 := Ih366.atR (a := 75) (j := Int.toNat y365) rfl
                                        rw [ex384] at rx384
                                        refine to_baldv (q := 1) ex384 (dat dk_X12_findBoundary 130 rfl) (by decide) (Ih366.atS rfl) rfl (by decide) (by omega) (to_bastw (dat dk_X12_findBoundary 131 rfl) (Ih366.atS rfl) rfl (by decide) (by omega) ?_)
                                        intro h387 wh387
                                        have I385 : Inv h387 := by rw [wh387]; exact Ih366.put (a := 77) (j := (Int.toNat x372)) (x := (b8 x384)) (-128) (127) rfl rfl (show (-128 : Int) ≤ (b8 x384) ∧ (b8 x384) ≤ 127 by have := b8_in x384; omega)
                                        have f386 : Fr [77, 228] h h387 := by rw [wh387]; exact Fr.putF (a := 77) (j := (Int.toNat x372)) (x := (b8 x384)) fh366 rfl
                                        refine to_aload_n (dat dk_X12_findBoundary 132 rfl) rfl (to_dup (dat dk_X12_findBoundary 133 rfl) rfl (to_getIv (y := x372) (by rw [wh387]; exact ex372) g_c13_234 (dat dk_X12_findBoundary 134 rfl) (I385.atS rfl) (to_iconst (dat dk_X12_findBoundary 135 rfl) (to_iadd (dat dk_X12_findBoundary 136 rfl) (to_putIw p_c13_234 (dat dk_X12_findBoundary 137 rfl) (I385.atS rfl) ?_)))))
                                        intro h390 wh390
                                        have I388 : Inv h390 := by rw [wh390]; exact I385.put (a := 60) (j := 28) (x := (x372 + 1)) (0) (1300) rfl rfl (show (0 : Int) ≤ (x372 + 1) ∧ (x372 + 1) ≤ 1300 by omega)
                                        have f389 : Fr [77, 228] h h390 := by rw [wh390]; exact Fr.putF (a := 60) (j := 28) (x := (x372 + 1)) f386 rfl
                                        refine to_iinc (L' := [(0, .inr (.inr 60)), (1, .inl f), (2, .inl y12), (3, .inl y18), (4, .inl y238), (5, .inl y348), (6, .inl y359), (7, .inl (y365 + 1))]) (dat dk_X12_findBoundary 138 rfl) rfl (by decide) rfl (to_goto (dat dk_X12_findBoundary 139 rfl) rfl ?_)
                                        have e391 : h390.2.2 60 28 = (x372 + 1) := (by rw [wh390]; exact wr_eq)
                                        exact ihn370 (n370 - 1) (by omega) (y365 + 1) h390 (by omega) I388 f389 (show y348 < (y365 + 1) ∧ (y365 + 1) ≤ 1302 by omega) (show h390.2.2 60 28 ≤ (y365 + 1) by omega) (show y238 - (y365 + 1) ≤ ((n370 - 1 : Nat) : Int) by omega)
                                  exact lp222_n370 (y238 - y362).toNat y362 h5 ry362 I3 f4 (show y348 < y362 ∧ y362 ≤ 1302 by omega) (show h5.2.2 60 28 ≤ y362 by omega) (by omega)
                                refine to_iload (dat dk_X12_findBoundary 104 rfl) rfl ?_
                                refine to_ifeq 216 (dat dk_X12_findBoundary 105 rfl) rfl (by omega) (fun c392 => ?_) (fun c392 => ?_)
                                · skip
                                  refine to_iload (dat dk_X12_findBoundary 110 rfl) rfl (to_iconst (dat dk_X12_findBoundary 111 rfl) (to_iadd (dat dk_X12_findBoundary 112 rfl) ?_))
                                  exact jn220_n364 (y348 + 1) (by omega) (show y348 + 1 ≤ (y348 + 1) ∧ (y348 + 1) ≤ y348 + 2 by omega)
                                · skip
                                  refine to_iload (dat dk_X12_findBoundary 106 rfl) rfl (to_iconst (dat dk_X12_findBoundary 107 rfl) (to_iadd (dat dk_X12_findBoundary 108 rfl) (to_goto (dat dk_X12_findBoundary 109 rfl) rfl ?_)))
                                  exact jn220_n364 (y348 + 2) (by omega) (show y348 + 1 ≤ (y348 + 2) ∧ (y348 + 2) ≤ y348 + 2 by omega)
                              refine to_iload (dat dk_X12_findBoundary 79 rfl) rfl (to_iload (dat dk_X12_findBoundary 80 rfl) rfl (to_isub (dat dk_X12_findBoundary 81 rfl) (to_iconst (dat dk_X12_findBoundary 82 rfl) ?_)))
                              refine to_ile 201 (dat dk_X12_findBoundary 83 rfl) rfl (by omega) (by decide) (fun c393 => ?_) (fun c393 => ?_)
                              · skip
                                refine to_iconst (dat dk_X12_findBoundary 102 rfl) ?_
                                exact jn202_n361 0 (by decide) (show (0 : Int) = 0 ∨ 2 < y238 - y348 by omega)
                              · skip
                                refine to_aload_n (dat dk_X12_findBoundary 84 rfl) rfl (to_getR 75 g_c13_60 (dat dk_X12_findBoundary 85 rfl) (I3.atS rfl) (I3.atE rfl) (to_iload (dat dk_X12_findBoundary 86 rfl) rfl (to_iconst (dat dk_X12_findBoundary 87 rfl) (to_iadd (dat dk_X12_findBoundary 88 rfl) ?_))))
                                obtain ⟨x394, ex394⟩ : ∃ y : Int, h5.2.2 75 (Int.toNat (y348 + 1)) = y := ⟨_, rfl⟩
                                have rx394 := I3.atR (a := 75) (j := Int.toNat (y348 + 1)) rfl
                                rw [ex394] at rx394
                                refine to_baldv (q := 1) ex394 (dat dk_X12_findBoundary 89 rfl) (by decide) (I3.atS rfl) rfl (by decide) (by omega) (to_bipush (dat dk_X12_findBoundary 90 rfl) (by decide) ?_)
                                refine to_ine 201 (dat dk_X12_findBoundary 91 rfl) rfl (by omega) (by decide) (fun c395 => ?_) (fun c395 => ?_)
                                · skip
                                  refine to_iconst (dat dk_X12_findBoundary 102 rfl) ?_
                                  exact jn202_n361 0 (by decide) (show (0 : Int) = 0 ∨ 2 < y238 - y348 by omega)
                                · skip
                                  refine to_aload_n (dat dk_X12_findBoundary 92 rfl) rfl (to_getR 75 g_c13_60 (dat dk_X12_findBoundary 93 rfl) (I3.atS rfl) (I3.atE rfl) (to_iload (dat dk_X12_findBoundary 94 rfl) rfl (to_iconst (dat dk_X12_findBoundary 95 rfl) (to_isub (dat dk_X12_findBoundary 96 rfl) ?_))))
                                  obtain ⟨x396, ex396⟩ : ∃ y : Int, h5.2.2 75 (Int.toNat (y238 - 1)) = y := ⟨_, rfl⟩
                                  have rx396 := I3.atR (a := 75) (j := Int.toNat (y238 - 1)) rfl
                                  rw [ex396] at rx396
                                  refine to_baldv (q := 1) ex396 (dat dk_X12_findBoundary 97 rfl) (by decide) (I3.atS rfl) rfl (by decide) (by omega) (to_bipush (dat dk_X12_findBoundary 98 rfl) (by decide) ?_)
                                  refine to_ine 201 (dat dk_X12_findBoundary 99 rfl) rfl (by omega) (by decide) (fun c397 => ?_) (fun c397 => ?_)
                                  · skip
                                    refine to_iconst (dat dk_X12_findBoundary 102 rfl) ?_
                                    exact jn202_n361 0 (by decide) (show (0 : Int) = 0 ∨ 2 < y238 - y348 by omega)
                                  · skip
                                    refine to_iconst (dat dk_X12_findBoundary 100 rfl) (to_goto (dat dk_X12_findBoundary 101 rfl) rfl ?_)
                                    exact jn202_n361 1 (by decide) (show (1 : Int) = 0 ∨ 2 < y238 - y348 by omega)
                            · skip
                              refine to_goto (dat dk_X12_findBoundary 78 rfl) rfl ?_
                              refine to_pick [0, 1, 2] rfl ?_
                              have e398 : h5.2.2 60 23 = x1 := (by rw [wh5]; exact ex1)
                              exact ihn9 (n9 - 1) (by omega) y12 ry12 (show 0 ≤ y12 ∧ y12 ≤ h5.2.2 60 23 by omega) (show h5.2.2 60 23 - y12 ≤ ((n9 - 1 : Nat) : Int) by omega)
                        · skip
                          refine to_aload_n (dat dk_X12_findBoundary 58 rfl) rfl (to_getR 75 g_c13_60 (dat dk_X12_findBoundary 59 rfl) (I3.atS rfl) (I3.atE rfl) (to_iload (dat dk_X12_findBoundary 60 rfl) rfl ?_))
                          obtain ⟨x399, ex399⟩ : ∃ y : Int, h5.2.2 75 (Int.toNat y348) = y := ⟨_, rfl⟩
                          have rx399 := I3.atR (a := 75) (j := Int.toNat y348) rfl
                          rw [ex399] at rx399
                          refine to_baldv (q := 1) ex399 (dat dk_X12_findBoundary 61 rfl) (by decide) (I3.atS rfl) rfl (by decide) (by omega) (to_bipush (dat dk_X12_findBoundary 62 rfl) (by decide) ?_)
                          refine to_ieq 131 (dat dk_X12_findBoundary 63 rfl) rfl (by omega) (by decide) (fun c400 => ?_) (fun c400 => ?_)
                          · skip
                            refine to_iload (dat dk_X12_findBoundary 66 rfl) rfl (to_iload (dat dk_X12_findBoundary 67 rfl) rfl ?_)
                            refine to_ieq 7 (dat dk_X12_findBoundary 68 rfl) rfl ry348 ry238 (fun c401 => ?_) (fun c401 => ?_)
                            · skip
                              refine to_pick [0, 1, 2] rfl ?_
                              have e402 : h5.2.2 60 23 = x1 := (by rw [wh5]; exact ex1)
                              exact ihn9 (n9 - 1) (by omega) y12 ry12 (show 0 ≤ y12 ∧ y12 ≤ h5.2.2 60 23 by omega) (show h5.2.2 60 23 - y12 ≤ ((n9 - 1 : Nat) : Int) by omega)
                            · skip
                              refine to_aload_n (dat dk_X12_findBoundary 69 rfl) rfl (to_getR 75 g_c13_60 (dat dk_X12_findBoundary 70 rfl) (I3.atS rfl) (I3.atE rfl) (to_iload_n (dat dk_X12_findBoundary 71 rfl) rfl (to_iload (dat dk_X12_findBoundary 72 rfl) rfl (to_gst (C := "MailArchiveModel") (f9 := "BOUNDARY") (d9 := "[I") (List.mem_of_getElem? (i := 5) rfl) (tin 8 133 (by decide +kernel) rfl) (dat dk_X12_findBoundary 73 rfl) (to_iconst (dat dk_X12_findBoundary 74 rfl) (to_bipush (dat dk_X12_findBoundary 75 rfl) (by decide) ?_))))))
                              refine to_cI ca_c13_198 (dat dk_X12_findBoundary 76 rfl) (ct_X12_same l h5 I3 75 1300 rfl y18 ry18 y348 ry348 1000204 8 (List.mem_of_getElem? (i := 3) rfl) 0 (by decide) 8 (by decide) (show 0 ≤ y18 ∧ y18 ≤ 640000 by omega) (show -1 ≤ y348 ∧ y348 ≤ 640000 by omega) (show 0 ≤ (0 : Int) ∧ (0 : Int) ≤ 100 by omega) (show 0 ≤ (8 : Int) ∧ (8 : Int) ≤ (8 : Int) by omega) (show y348 ≤ (1300 : Int) ∨ y18 + ((8 : Int) - (0 : Int)) ≤ (1300 : Int) by omega)) rfl trivial rfl (fun x403 h404 rx403 p405 => ?_)
                              obtain ⟨rfl, zx403⟩ := p405
                              refine to_ifne 160 (dat dk_X12_findBoundary 77 rfl) rfl rx403 (fun c406 => ?_) (fun c406 => ?_)
                              · skip
                                have jn202_n409 : ∀ (y407 : Int), (y407 = 0 ∨ y407 = 1) → (y407 = 0 ∨ 2 < y238 - y348) → To l E_X12_findBoundary (202, [(0, .inr (.inr 60)), (1, .inl f), (2, .inl y12), (3, .inl y18), (4, .inl y238), (5, .inl y348)], [.inl y407], h5, 0, 0) (Q_X12_findBoundary h f) := by
                                  intro y407 ry407 c408
                                  refine to_istore (L' := [(0, .inr (.inr 60)), (1, .inl f), (2, .inl y12), (3, .inl y18), (4, .inl y238), (5, .inl y348), (6, .inl y407)]) (dat dk_X12_findBoundary 103 rfl) (by decide) rfl ?_
                                  have jn220_n412 : ∀ (y410 : Int), (I32 y410) → (y348 + 1 ≤ y410 ∧ y410 ≤ y348 + 2) → To l E_X12_findBoundary (220, [(0, .inr (.inr 60)), (1, .inl f), (2, .inl y12), (3, .inl y18), (4, .inl y238), (5, .inl y348), (6, .inl y407)], [.inl y410], h5, 0, 0) (Q_X12_findBoundary h f) := by
                                    intro y410 ry410 c411
                                    refine to_istore (L' := [(0, .inr (.inr 60)), (1, .inl f), (2, .inl y12), (3, .inl y18), (4, .inl y238), (5, .inl y348), (6, .inl y407), (7, .inl y410)]) (dat dk_X12_findBoundary 113 rfl) (by decide) rfl ?_
                                    have e416 : h5.2.2 60 28 = (0 : Int) := (by rw [wh5]; exact wr_eq)
                                    have lp222_n418 : ∀ (n418 : Nat) (y413 : Int) (h414 : Hp), (I32 y413) → (Inv h414) → (Fr [77, 228] h h414) → (y348 < y413 ∧ y413 ≤ 1302) → (h414.2.2 60 28 ≤ y413) → (y238 - y413 ≤ (n418 : Int)) → To l E_X12_findBoundary (222, [(0, .inr (.inr 60)), (1, .inl f), (2, .inl y12), (3, .inl y18), (4, .inl y238), (5, .inl y348), (6, .inl y407), (7, .inl y413)], [], h414, 0, 0) (Q_X12_findBoundary h f) := by
                                      intro n418
                                      induction n418 using Nat.strongRecOn with
                                      | _ n418 ihn418 =>
                                      intro y413 h414 ry413 Ih414 fh414 c415 c417 c419
                                      obtain ⟨x420, ex420⟩ : ∃ y : Int, h414.2.2 60 28 = y := ⟨_, rfl⟩
                                      have rx420 := Ih414.atR (a := 60) (j := 28) rfl
                                      rw [ex420] at rx420
                                      refine to_iload (dat dk_X12_findBoundary 114 rfl) rfl (to_iload (dat dk_X12_findBoundary 115 rfl) rfl ?_)
                                      refine to_ifeq 236 (dat dk_X12_findBoundary 116 rfl) rfl (by omega) (fun c421 => ?_) (fun c421 => ?_)
                                      · skip
                                        refine to_iload (dat dk_X12_findBoundary 121 rfl) rfl ?_
                                        refine to_ige 273 (dat dk_X12_findBoundary 122 rfl) rfl ry413 ry238 (fun c422 => ?_) (fun c422 => ?_)
                                        · skip
                                          exact to_vret rfl (dat dk_X12_findBoundary 140 rfl) (rv_mk ⟨Ih414, fh414⟩)
                                        · skip
                                          refine to_aload_n (dat dk_X12_findBoundary 123 rfl) rfl (to_getR 77 g_c13_66 (dat dk_X12_findBoundary 124 rfl) (Ih414.atS rfl) (Ih414.atE rfl) (to_aload_n (dat dk_X12_findBoundary 125 rfl) rfl (to_getIv (y := x420) ex420 g_c13_234 (dat dk_X12_findBoundary 126 rfl) (Ih414.atS rfl) (to_aload_n (dat dk_X12_findBoundary 127 rfl) rfl (to_getR 75 g_c13_60 (dat dk_X12_findBoundary 128 rfl) (Ih414.atS rfl) (Ih414.atE rfl) (to_iload (dat dk_X12_findBoundary 129 rfl) rfl ?_))))))
                                          obtain ⟨x423, ex423⟩ : ∃ y : Int, h414.2.2 75 (Int.toNat y413) = y := ⟨_, rfl⟩
                                          have rx423 := Ih414.atR (a := 75) (j := Int.toNat y413) rfl
                                          rw [ex423] at rx423
                                          refine to_baldv (q := 1) ex423 (dat dk_X12_findBoundary 130 rfl) (by decide) (Ih414.atS rfl) rfl (by decide) (by omega) (to_bastw (dat dk_X12_findBoundary 131 rfl) (Ih414.atS rfl) rfl (by decide) (by omega) ?_)
                                          intro h426 wh426
                                          have I424 : Inv h426 := by rw [wh426]; exact Ih414.put (a := 77) (j := (Int.toNat x420)) (x := (b8 x423)) (-128) (127) rfl rfl (show (-128 : Int) ≤ (b8 x423) ∧ (b8 x423) ≤ 127 by have := b8_in x423; omega)
                                          have f425 : Fr [77, 228] h h426 := by rw [wh426]; exact Fr.putF (a := 77) (j := (Int.toNat x420)) (x := (b8 x423)) fh414 rfl
                                          refine to_aload_n (dat dk_X12_findBoundary 132 rfl) rfl (to_dup (dat dk_X12_findBoundary 133 rfl) rfl (to_getIv (y := x420) (by rw [wh426]; exact ex420) g_c13_234 (dat dk_X12_findBoundary 134 rfl) (I424.atS rfl) (to_iconst (dat dk_X12_findBoundary 135 rfl) (to_iadd (dat dk_X12_findBoundary 136 rfl) (to_putIw p_c13_234 (dat dk_X12_findBoundary 137 rfl) (I424.atS rfl) ?_)))))
                                          intro h429 wh429
                                          have I427 : Inv h429 := by rw [wh429]; exact I424.put (a := 60) (j := 28) (x := (x420 + 1)) (0) (1300) rfl rfl (show (0 : Int) ≤ (x420 + 1) ∧ (x420 + 1) ≤ 1300 by omega)
                                          have f428 : Fr [77, 228] h h429 := by rw [wh429]; exact Fr.putF (a := 60) (j := 28) (x := (x420 + 1)) f425 rfl
                                          refine to_iinc (L' := [(0, .inr (.inr 60)), (1, .inl f), (2, .inl y12), (3, .inl y18), (4, .inl y238), (5, .inl y348), (6, .inl y407), (7, .inl (y413 + 1))]) (dat dk_X12_findBoundary 138 rfl) rfl (by decide) rfl (to_goto (dat dk_X12_findBoundary 139 rfl) rfl ?_)
                                          have e430 : h429.2.2 60 28 = (x420 + 1) := (by rw [wh429]; exact wr_eq)
                                          exact ihn418 (n418 - 1) (by omega) (y413 + 1) h429 (by omega) I427 f428 (show y348 < (y413 + 1) ∧ (y413 + 1) ≤ 1302 by omega) (show h429.2.2 60 28 ≤ (y413 + 1) by omega) (show y238 - (y413 + 1) ≤ ((n418 - 1 : Nat) : Int) by omega)
                                      · skip
                                        refine to_iload (dat dk_X12_findBoundary 117 rfl) rfl (to_iconst (dat dk_X12_findBoundary 118 rfl) (to_isub (dat dk_X12_findBoundary 119 rfl) (to_goto (dat dk_X12_findBoundary 120 rfl) rfl ?_)))
                                        refine to_ige 273 (dat dk_X12_findBoundary 122 rfl) rfl ry413 (by omega) (fun c431 => ?_) (fun c431 => ?_)
                                        · skip
                                          exact to_vret rfl (dat dk_X12_findBoundary 140 rfl) (rv_mk ⟨Ih414, fh414⟩)
                                        · skip
                                          refine to_aload_n (dat dk_X12_findBoundary 123 rfl) rfl (to_getR 77 g_c13_66 (dat dk_X12_findBoundary 124 rfl) (Ih414.atS rfl) (Ih414.atE rfl) (to_aload_n (dat dk_X12_findBoundary 125 rfl) rfl (to_getIv (y := x420) ex420 g_c13_234 (dat dk_X12_findBoundary 126 rfl) (Ih414.atS rfl) (to_aload_n (dat dk_X12_findBoundary 127 rfl) rfl (to_getR 75 g_c13_60 (dat dk_X12_findBoundary 128 rfl) (Ih414.atS rfl) (Ih414.atE rfl) (to_iload (dat dk_X12_findBoundary 129 rfl) rfl ?_))))))
                                          obtain ⟨x432, ex432⟩ : ∃ y : Int, h414.2.2 75 (Int.toNat y413) = y := ⟨_, rfl⟩
                                          have rx432 := Ih414.atR (a := 75) (j := Int.toNat y413) rfl
                                          rw [ex432] at rx432
                                          refine to_baldv (q := 1) ex432 (dat dk_X12_findBoundary 130 rfl) (by decide) (Ih414.atS rfl) rfl (by decide) (by omega) (to_bastw (dat dk_X12_findBoundary 131 rfl) (Ih414.atS rfl) rfl (by decide) (by omega) ?_)
                                          intro h435 wh435
                                          have I433 : Inv h435 := by rw [wh435]; exact Ih414.put (a := 77) (j := (Int.toNat x420)) (x := (b8 x432)) (-128) (127) rfl rfl (show (-128 : Int) ≤ (b8 x432) ∧ (b8 x432) ≤ 127 by have := b8_in x432; omega)
                                          have f434 : Fr [77, 228] h h435 := by rw [wh435]; exact Fr.putF (a := 77) (j := (Int.toNat x420)) (x := (b8 x432)) fh414 rfl
                                          refine to_aload_n (dat dk_X12_findBoundary 132 rfl) rfl (to_dup (dat dk_X12_findBoundary 133 rfl) rfl (to_getIv (y := x420) (by rw [wh435]; exact ex420) g_c13_234 (dat dk_X12_findBoundary 134 rfl) (I433.atS rfl) (to_iconst (dat dk_X12_findBoundary 135 rfl) (to_iadd (dat dk_X12_findBoundary 136 rfl) (to_putIw p_c13_234 (dat dk_X12_findBoundary 137 rfl) (I433.atS rfl) ?_)))))
                                          intro h438 wh438
                                          have I436 : Inv h438 := by rw [wh438]; exact I433.put (a := 60) (j := 28) (x := (x420 + 1)) (0) (1300) rfl rfl (show (0 : Int) ≤ (x420 + 1) ∧ (x420 + 1) ≤ 1300 by omega)
                                          have f437 : Fr [77, 228] h h438 := by rw [wh438]; exact Fr.putF (a := 60) (j := 28) (x := (x420 + 1)) f434 rfl
                                          refine to_iinc (L' := [(0, .inr (.inr 60)), (1, .inl f), (2, .inl y12), (3, .inl y18), (4, .inl y238), (5, .inl y348), (6, .inl y407), (7, .inl (y413 + 1))]) (dat dk_X12_findBoundary 138 rfl) rfl (by decide) rfl (to_goto (dat dk_X12_findBoundary 139 rfl) rfl ?_)
                                          have e439 : h438.2.2 60 28 = (x420 + 1) := (by rw [wh438]; exact wr_eq)
                                          exact ihn418 (n418 - 1) (by omega) (y413 + 1) h438 (by omega) I436 f437 (show y348 < (y413 + 1) ∧ (y413 + 1) ≤ 1302 by omega) (show h438.2.2 60 28 ≤ (y413 + 1) by omega) (show y238 - (y413 + 1) ≤ ((n418 - 1 : Nat) : Int) by omega)
                                    exact lp222_n418 (y238 - y410).toNat y410 h5 ry410 I3 f4 (show y348 < y410 ∧ y410 ≤ 1302 by omega) (show h5.2.2 60 28 ≤ y410 by omega) (by omega)
                                  refine to_iload (dat dk_X12_findBoundary 104 rfl) rfl ?_
                                  refine to_ifeq 216 (dat dk_X12_findBoundary 105 rfl) rfl (by omega) (fun c440 => ?_) (fun c440 => ?_)
                                  · skip
                                    refine to_iload (dat dk_X12_findBoundary 110 rfl) rfl (to_iconst (dat dk_X12_findBoundary 111 rfl) (to_iadd (dat dk_X12_findBoundary 112 rfl) ?_))
                                    exact jn220_n412 (y348 + 1) (by omega) (show y348 + 1 ≤ (y348 + 1) ∧ (y348 + 1) ≤ y348 + 2 by omega)
                                  · skip
                                    refine to_iload (dat dk_X12_findBoundary 106 rfl) rfl (to_iconst (dat dk_X12_findBoundary 107 rfl) (to_iadd (dat dk_X12_findBoundary 108 rfl) (to_goto (dat dk_X12_findBoundary 109 rfl) rfl ?_)))
                                    exact jn220_n412 (y348 + 2) (by omega) (show y348 + 1 ≤ (y348 + 2) ∧ (y348 + 2) ≤ y348 + 2 by omega)
                                refine to_iload (dat dk_X12_findBoundary 79 rfl) rfl (to_iload (dat dk_X12_findBoundary 80 rfl) rfl (to_isub (dat dk_X12_findBoundary 81 rfl) (to_iconst (dat dk_X12_findBoundary 82 rfl) ?_)))
                                refine to_ile 201 (dat dk_X12_findBoundary 83 rfl) rfl (by omega) (by decide) (fun c441 => ?_) (fun c441 => ?_)
                                · skip
                                  refine to_iconst (dat dk_X12_findBoundary 102 rfl) ?_
                                  exact jn202_n409 0 (by decide) (show (0 : Int) = 0 ∨ 2 < y238 - y348 by omega)
                                · skip
                                  refine to_aload_n (dat dk_X12_findBoundary 84 rfl) rfl (to_getR 75 g_c13_60 (dat dk_X12_findBoundary 85 rfl) (I3.atS rfl) (I3.atE rfl) (to_iload (dat dk_X12_findBoundary 86 rfl) rfl (to_iconst (dat dk_X12_findBoundary 87 rfl) (to_iadd (dat dk_X12_findBoundary 88 rfl) ?_))))
                                  obtain ⟨x442, ex442⟩ : ∃ y : Int, h5.2.2 75 (Int.toNat (y348 + 1)) = y := ⟨_, rfl⟩
                                  have rx442 := I3.atR (a := 75) (j := Int.toNat (y348 + 1)) rfl
                                  rw [ex442] at rx442
                                  refine to_baldv (q := 1) ex442 (dat dk_X12_findBoundary 89 rfl) (by decide) (I3.atS rfl) rfl (by decide) (by omega) (to_bipush (dat dk_X12_findBoundary 90 rfl) (by decide) ?_)
                                  refine to_ine 201 (dat dk_X12_findBoundary 91 rfl) rfl (by omega) (by decide) (fun c443 => ?_) (fun c443 => ?_)
                                  · skip
                                    refine to_iconst (dat dk_X12_findBoundary 102 rfl) ?_
                                    exact jn202_n409 0 (by decide) (show (0 : Int) = 0 ∨ 2 < y238 - y348 by omega)
                                  · skip
                                    refine to_aload_n (dat dk_X12_findBoundary 92 rfl) rfl (to_getR 75 g_c13_60 (dat dk_X12_findBoundary 93 rfl) (I3.atS rfl) (I3.atE rfl) (to_iload (dat dk_X12_findBoundary 94 rfl) rfl (to_iconst (dat dk_X12_findBoundary 95 rfl) (to_isub (dat dk_X12_findBoundary 96 rfl) ?_))))
                                    obtain ⟨x444, ex444⟩ : ∃ y : Int, h5.2.2 75 (Int.toNat (y238 - 1)) = y := ⟨_, rfl⟩
                                    have rx444 := I3.atR (a := 75) (j := Int.toNat (y238 - 1)) rfl
                                    rw [ex444] at rx444
                                    refine to_baldv (q := 1) ex444 (dat dk_X12_findBoundary 97 rfl) (by decide) (I3.atS rfl) rfl (by decide) (by omega) (to_bipush (dat dk_X12_findBoundary 98 rfl) (by decide) ?_)
                                    refine to_ine 201 (dat dk_X12_findBoundary 99 rfl) rfl (by omega) (by decide) (fun c445 => ?_) (fun c445 => ?_)
                                    · skip
                                      refine to_iconst (dat dk_X12_findBoundary 102 rfl) ?_
                                      exact jn202_n409 0 (by decide) (show (0 : Int) = 0 ∨ 2 < y238 - y348 by omega)
                                    · skip
                                      refine to_iconst (dat dk_X12_findBoundary 100 rfl) (to_goto (dat dk_X12_findBoundary 101 rfl) rfl ?_)
                                      exact jn202_n409 1 (by decide) (show (1 : Int) = 0 ∨ 2 < y238 - y348 by omega)
                              · skip
                                refine to_goto (dat dk_X12_findBoundary 78 rfl) rfl ?_
                                refine to_pick [0, 1, 2] rfl ?_
                                have e446 : h5.2.2 60 23 = x1 := (by rw [wh5]; exact ex1)
                                exact ihn9 (n9 - 1) (by omega) y12 ry12 (show 0 ≤ y12 ∧ y12 ≤ h5.2.2 60 23 by omega) (show h5.2.2 60 23 - y12 ≤ ((n9 - 1 : Nat) : Int) by omega)
                          · skip
                            refine to_iinc (L' := [(0, .inr (.inr 60)), (1, .inl f), (2, .inl y12), (3, .inl y18), (4, .inl y238), (5, .inl (y348 + 1))]) (dat dk_X12_findBoundary 64 rfl) rfl (by decide) rfl (to_goto (dat dk_X12_findBoundary 65 rfl) rfl ?_)
                            exact ihn350 (n350 - 1) (by omega) (y348 + 1) (by omega) (show y18 ≤ (y348 + 1) ∧ (y348 + 1) ≤ y238 by omega) (show y238 - (y348 + 1) ≤ ((n350 - 1 : Nat) : Int) by omega)
                      exact lp106_n350 (y238 - y18).toNat y18 ry18 (show y18 ≤ y18 ∧ y18 ≤ y238 by omega) (by omega)
                    · skip
                      refine to_iinc (L' := [(0, .inr (.inr 60)), (1, .inl f), (2, .inl y12), (3, .inl y18), (4, .inl (y238 + (-1)))]) (dat dk_X12_findBoundary 51 rfl) rfl (by decide) rfl (to_goto (dat dk_X12_findBoundary 52 rfl) rfl ?_)
                      have e447 : h5.2.2 60 23 = x1 := (by rw [wh5]; exact ex1)
                      exact ihn241 (n241 - 1) (by omega) (y238 + (-1)) (by omega) (show y18 ≤ (y238 + (-1)) ∧ (y238 + (-1)) ≤ h5.2.2 60 23 by omega) (show (y238 + (-1)) ≤ ((n241 - 1 : Nat) : Int) by omega)
                exact lp76_n241 (y12).toNat y12 ry12 (show y18 ≤ y12 ∧ y12 ≤ h5.2.2 60 23 by omega) (by omega)
              · skip
                refine to_iinc (L' := [(0, .inr (.inr 60)), (1, .inl f), (2, .inl y12), (3, .inl (y18 + 1)), (4, .inl y12)]) (dat dk_X12_findBoundary 38 rfl) rfl (by decide) rfl (to_goto (dat dk_X12_findBoundary 39 rfl) rfl ?_)
                exact ihn20 (n20 - 1) (by omega) (y18 + 1) (by omega) (show 0 ≤ (y18 + 1) ∧ (y18 + 1) ≤ y12 by omega) (show y12 - (y18 + 1) ≤ ((n20 - 1 : Nat) : Int) by omega)
          exact lp52_n20 (y12 - (y6 + 1)).toNat (y6 + 1) (by omega) (show 0 ≤ (y6 + 1) ∧ (y6 + 1) ≤ y12 by omega) (by omega)
        · skip
          refine to_aload_n (dat dk_X12_findBoundary 19 rfl) rfl (to_getR 75 g_c13_60 (dat dk_X12_findBoundary 20 rfl) (I3.atS rfl) (I3.atE rfl) (to_iload (dat dk_X12_findBoundary 21 rfl) rfl ?_))
          obtain ⟨x448, ex448⟩ : ∃ y : Int, h5.2.2 75 (Int.toNat y12) = y := ⟨_, rfl⟩
          have rx448 := I3.atR (a := 75) (j := Int.toNat y12) rfl
          rw [ex448] at rx448
          refine to_baldv (q := 1) ex448 (dat dk_X12_findBoundary 22 rfl) (by decide) (I3.atS rfl) rfl (by decide) (by omega) (to_bipush (dat dk_X12_findBoundary 23 rfl) (by decide) ?_)
          refine to_ieq 49 (dat dk_X12_findBoundary 24 rfl) rfl (by omega) (by decide) (fun c449 => ?_) (fun c449 => ?_)
          · skip
            refine to_iload (dat dk_X12_findBoundary 27 rfl) rfl (to_istore_n (L' := [(0, .inr (.inr 60)), (1, .inl f), (2, .inl y12), (3, .inl (y6 + 1)), (4, .inl y12)]) (dat dk_X12_findBoundary 28 rfl) (by decide) rfl ?_)
            have lp52_n452 : ∀ (n452 : Nat) (y450 : Int), (I32 y450) → (0 ≤ y450 ∧ y450 ≤ y12) → (y12 - y450 ≤ (n452 : Int)) → To l E_X12_findBoundary (52, [(0, .inr (.inr 60)), (1, .inl f), (2, .inl y12), (3, .inl y450), (4, .inl y12)], [], h5, 0, 0) (Q_X12_findBoundary h f) := by
              intro n452
              induction n452 using Nat.strongRecOn with
              | _ n452 ihn452 =>
              intro y450 ry450 c451 c453
              refine to_iload_n (dat dk_X12_findBoundary 29 rfl) rfl (to_iload (dat dk_X12_findBoundary 30 rfl) rfl ?_)
              refine to_ige 76 (dat dk_X12_findBoundary 31 rfl) rfl ry450 ry12 (fun c454 => ?_) (fun c454 => ?_)
              · skip
                have e456 : h5.2.2 60 23 = x1 := (by rw [wh5]; exact ex1)
                have lp76_n458 : ∀ (n458 : Nat) (y455 : Int), (I32 y455) → (y450 ≤ y455 ∧ y455 ≤ h5.2.2 60 23) → (y455 ≤ (n458 : Int)) → To l E_X12_findBoundary (76, [(0, .inr (.inr 60)), (1, .inl f), (2, .inl y12), (3, .inl y450), (4, .inl y455)], [], h5, 0, 0) (Q_X12_findBoundary h f) := by
                  intro n458
                  induction n458 using Nat.strongRecOn with
                  | _ n458 ihn458 =>
                  intro y455 ry455 c457 c459
                  refine to_iload (dat dk_X12_findBoundary 40 rfl) rfl (to_iload_n (dat dk_X12_findBoundary 41 rfl) rfl ?_)
                  refine to_ile 103 (dat dk_X12_findBoundary 42 rfl) rfl ry455 ry450 (fun c460 => ?_) (fun c460 => ?_)
                  · skip
                    refine to_iload_n (dat dk_X12_findBoundary 53 rfl) rfl (to_istore (L' := [(0, .inr (.inr 60)), (1, .inl f), (2, .inl y12), (3, .inl y450), (4, .inl y455), (5, .inl y450)]) (dat dk_X12_findBoundary 54 rfl) (by decide) rfl ?_)
                    have lp106_n463 : ∀ (n463 : Nat) (y461 : Int), (I32 y461) → (y450 ≤ y461 ∧ y461 ≤ y455) → (y455 - y461 ≤ (n463 : Int)) → To l E_X12_findBoundary (106, [(0, .inr (.inr 60)), (1, .inl f), (2, .inl y12), (3, .inl y450), (4, .inl y455), (5, .inl y461)], [], h5, 0, 0) (Q_X12_findBoundary h f) := by
                      intro n463
                      induction n463 using Nat.strongRecOn with
                      | _ n463 ihn463 =>
                      intro y461 ry461 c462 c464
                      refine to_iload (dat dk_X12_findBoundary 55 rfl) rfl (to_iload (dat dk_X12_findBoundary 56 rfl) rfl ?_)
                      refine to_ige 131 (dat dk_X12_findBoundary 57 rfl) rfl ry461 ry455 (fun c465 => ?_) (fun c465 => ?_)
                      · skip
                        refine to_iload (dat dk_X12_findBoundary 66 rfl) rfl (to_iload (dat dk_X12_findBoundary 67 rfl) rfl ?_)
                        refine to_ieq 7 (dat dk_X12_findBoundary 68 rfl) rfl ry461 ry455 (fun c466 => ?_) (fun c466 => ?_)
                        · skip
                          refine to_pick [0, 1, 2] rfl ?_
                          have e467 : h5.2.2 60 23 = x1 := (by rw [wh5]; exact ex1)
                          exact ihn9 (n9 - 1) (by omega) y12 ry12 (show 0 ≤ y12 ∧ y12 ≤ h5.2.2 60 23 by omega) (show h5.2.2 60 23 - y12 ≤ ((n9 - 1 : Nat) : Int) by omega)
                        · skip
                          refine to_aload_n (dat dk_X12_findBoundary 69 rfl) rfl (to_getR 75 g_c13_60 (dat dk_X12_findBoundary 70 rfl) (I3.atS rfl) (I3.atE rfl) (to_iload_n (dat dk_X12_findBoundary 71 rfl) rfl (to_iload (dat dk_X12_findBoundary 72 rfl) rfl (to_gst (C := "MailArchiveModel") (f9 := "BOUNDARY") (d9 := "[I") (List.mem_of_getElem? (i := 5) rfl) (tin 8 133 (by decide +kernel) rfl) (dat dk_X12_findBoundary 73 rfl) (to_iconst (dat dk_X12_findBoundary 74 rfl) (to_bipush (dat dk_X12_findBoundary 75 rfl) (by decide) ?_))))))
                          refine to_cI ca_c13_198 (dat dk_X12_findBoundary 76 rfl) (ct_X12_same l h5 I3 75 1300 rfl y450 ry450 y461 ry461 1000204 8 (List.mem_of_getElem? (i := 3) rfl) 0 (by decide) 8 (by decide) (show 0 ≤ y450 ∧ y450 ≤ 640000 by omega) (show -1 ≤ y461 ∧ y461 ≤ 640000 by omega) (show 0 ≤ (0 : Int) ∧ (0 : Int) ≤ 100 by omega) (show 0 ≤ (8 : Int) ∧ (8 : Int) ≤ (8 : Int) by omega) (show y461 ≤ (1300 : Int) ∨ y450 + ((8 : Int) - (0 : Int)) ≤ (1300 : Int) by omega)) rfl trivial rfl (fun x468 h469 rx468 p470 => ?_)
                          obtain ⟨rfl, zx468⟩ := p470
                          refine to_ifne 160 (dat dk_X12_findBoundary 77 rfl) rfl rx468 (fun c471 => ?_) (fun c471 => ?_)
                          · skip
                            have jn202_n474 : ∀ (y472 : Int), (y472 = 0 ∨ y472 = 1) → (y472 = 0 ∨ 2 < y455 - y461) → To l E_X12_findBoundary (202, [(0, .inr (.inr 60)), (1, .inl f), (2, .inl y12), (3, .inl y450), (4, .inl y455), (5, .inl y461)], [.inl y472], h5, 0, 0) (Q_X12_findBoundary h f) := by
                              intro y472 ry472 c473
                              refine to_istore (L' := [(0, .inr (.inr 60)), (1, .inl f), (2, .inl y12), (3, .inl y450), (4, .inl y455), (5, .inl y461), (6, .inl y472)]) (dat dk_X12_findBoundary 103 rfl) (by decide) rfl ?_
                              have jn220_n477 : ∀ (y475 : Int), (I32 y475) → (y461 + 1 ≤ y475 ∧ y475 ≤ y461 + 2) → To l E_X12_findBoundary (220, [(0, .inr (.inr 60)), (1, .inl f), (2, .inl y12), (3, .inl y450), (4, .inl y455), (5, .inl y461), (6, .inl y472)], [.inl y475], h5, 0, 0) (Q_X12_findBoundary h f) := by
                                intro y475 ry475 c476
                                refine to_istore (L' := [(0, .inr (.inr 60)), (1, .inl f), (2, .inl y12), (3, .inl y450), (4, .inl y455), (5, .inl y461), (6, .inl y472), (7, .inl y475)]) (dat dk_X12_findBoundary 113 rfl) (by decide) rfl ?_
                                have e481 : h5.2.2 60 28 = (0 : Int) := (by rw [wh5]; exact wr_eq)
                                have lp222_n483 : ∀ (n483 : Nat) (y478 : Int) (h479 : Hp), (I32 y478) → (Inv h479) → (Fr [77, 228] h h479) → (y461 < y478 ∧ y478 ≤ 1302) → (h479.2.2 60 28 ≤ y478) → (y455 - y478 ≤ (n483 : Int)) → To l E_X12_findBoundary (222, [(0, .inr (.inr 60)), (1, .inl f), (2, .inl y12), (3, .inl y450), (4, .inl y455), (5, .inl y461), (6, .inl y472), (7, .inl y478)], [], h479, 0, 0) (Q_X12_findBoundary h f) := by
                                  intro n483
                                  induction n483 using Nat.strongRecOn with
                                  | _ n483 ihn483 =>
                                  intro y478 h479 ry478 Ih479 fh479 c480 c482 c484
                                  obtain ⟨x485, ex485⟩ : ∃ y : Int, h479.2.2 60 28 = y := ⟨_, rfl⟩
                                  have rx485 := Ih479.atR (a := 60) (j := 28) rfl
                                  rw [ex485] at rx485
                                  refine to_iload (dat dk_X12_findBoundary 114 rfl) rfl (to_iload (dat dk_X12_findBoundary 115 rfl) rfl ?_)
                                  refine to_ifeq 236 (dat dk_X12_findBoundary 116 rfl) rfl (by omega) (fun c486 => ?_) (fun c486 => ?_)
                                  · skip
                                    refine to_iload (dat dk_X12_findBoundary 121 rfl) rfl ?_
                                    refine to_ige 273 (dat dk_X12_findBoundary 122 rfl) rfl ry478 ry455 (fun c487 => ?_) (fun c487 => ?_)
                                    · skip
                                      exact to_vret rfl (dat dk_X12_findBoundary 140 rfl) (rv_mk ⟨Ih479, fh479⟩)
                                    · skip
                                      refine to_aload_n (dat dk_X12_findBoundary 123 rfl) rfl (to_getR 77 g_c13_66 (dat dk_X12_findBoundary 124 rfl) (Ih479.atS rfl) (Ih479.atE rfl) (to_aload_n (dat dk_X12_findBoundary 125 rfl) rfl (to_getIv (y := x485) ex485 g_c13_234 (dat dk_X12_findBoundary 126 rfl) (Ih479.atS rfl) (to_aload_n (dat dk_X12_findBoundary 127 rfl) rfl (to_getR 75 g_c13_60 (dat dk_X12_findBoundary 128 rfl) (Ih479.atS rfl) (Ih479.atE rfl) (to_iload (dat dk_X12_findBoundary 129 rfl) rfl ?_))))))
                                      obtain ⟨x488, ex488⟩ : ∃ y : Int, h479.2.2 75 (Int.toNat y478) = y := ⟨_, rfl⟩
                                      have rx488 := Ih479.atR (a := 75) (j := Int.toNat y478) rfl
                                      rw [ex488] at rx488
                                      refine to_baldv (q := 1) ex488 (dat dk_X12_findBoundary 130 rfl) (by decide) (Ih479.atS rfl) rfl (by decide) (by omega) (to_bastw (dat dk_X12_findBoundary 131 rfl) (Ih479.atS rfl) rfl (by decide) (by omega) ?_)
                                      intro h491 wh491
                                      have I489 : Inv h491 := by rw [wh491]; exact Ih479.put (a := 77) (j := (Int.toNat x485)) (x := (b8 x488)) (-128) (127) rfl rfl (show (-128 : Int) ≤ (b8 x488) ∧ (b8 x488) ≤ 127 by have := b8_in x488; omega)
                                      have f490 : Fr [77, 228] h h491 := by rw [wh491]; exact Fr.putF (a := 77) (j := (Int.toNat x485)) (x := (b8 x488)) fh479 rfl
                                      refine to_aload_n (dat dk_X12_findBoundary 132 rfl) rfl (to_dup (dat dk_X12_findBoundary 133 rfl) rfl (to_getIv (y := x485) (by rw [wh491]; exact ex485) g_c13_234 (dat dk_X12_findBoundary 134 rfl) (I489.atS rfl) (to_iconst (dat dk_X12_findBoundary 135 rfl) (to_iadd (dat dk_X12_findBoundary 136 rfl) (to_putIw p_c13_234 (dat dk_X12_findBoundary 137 rfl) (I489.atS rfl) ?_)))))
                                      intro h494 wh494
                                      have I492 : Inv h494 := by rw [wh494]; exact I489.put (a := 60) (j := 28) (x := (x485 + 1)) (0) (1300) rfl rfl (show (0 : Int) ≤ (x485 + 1) ∧ (x485 + 1) ≤ 1300 by omega)
                                      have f493 : Fr [77, 228] h h494 := by rw [wh494]; exact Fr.putF (a := 60) (j := 28) (x := (x485 + 1)) f490 rfl
                                      refine to_iinc (L' := [(0, .inr (.inr 60)), (1, .inl f), (2, .inl y12), (3, .inl y450), (4, .inl y455), (5, .inl y461), (6, .inl y472), (7, .inl (y478 + 1))]) (dat dk_X12_findBoundary 138 rfl) rfl (by decide) rfl (to_goto (dat dk_X12_findBoundary 139 rfl) rfl ?_)
                                      have e495 : h494.2.2 60 28 = (x485 + 1) := (by rw [wh494]; exact wr_eq)
                                      exact ihn483 (n483 - 1) (by omega) (y478 + 1) h494 (by omega) I492 f493 (show y461 < (y478 + 1) ∧ (y478 + 1) ≤ 1302 by omega) (show h494.2.2 60 28 ≤ (y478 + 1) by omega) (show y455 - (y478 + 1) ≤ ((n483 - 1 : Nat) : Int) by omega)
                                  · skip
                                    refine to_iload (dat dk_X12_findBoundary 117 rfl) rfl (to_iconst (dat dk_X12_findBoundary 118 rfl) (to_isub (dat dk_X12_findBoundary 119 rfl) (to_goto (dat dk_X12_findBoundary 120 rfl) rfl ?_)))
                                    refine to_ige 273 (dat dk_X12_findBoundary 122 rfl) rfl ry478 (by omega) (fun c496 => ?_) (fun c496 => ?_)
                                    · skip
                                      exact to_vret rfl (dat dk_X12_findBoundary 140 rfl) (rv_mk ⟨Ih479, fh479⟩)
                                    · skip
                                      refine to_aload_n (dat dk_X12_findBoundary 123 rfl) rfl (to_getR 77 g_c13_66 (dat dk_X12_findBoundary 124 rfl) (Ih479.atS rfl) (Ih479.atE rfl) (to_aload_n (dat dk_X12_findBoundary 125 rfl) rfl (to_getIv (y := x485) ex485 g_c13_234 (dat dk_X12_findBoundary 126 rfl) (Ih479.atS rfl) (to_aload_n (dat dk_X12_findBoundary 127 rfl) rfl (to_getR 75 g_c13_60 (dat dk_X12_findBoundary 128 rfl) (Ih479.atS rfl) (Ih479.atE rfl) (to_iload (dat dk_X12_findBoundary 129 rfl) rfl ?_))))))
                                      obtain ⟨x497, ex497⟩ : ∃ y : Int, h479.2.2 75 (Int.toNat y478) = y := ⟨_, rfl⟩
                                      have rx497 := Ih479.atR (a := 75) (j := Int.toNat y478) rfl
                                      rw [ex497] at rx497
                                      refine to_baldv (q := 1) ex497 (dat dk_X12_findBoundary 130 rfl) (by decide) (Ih479.atS rfl) rfl (by decide) (by omega) (to_bastw (dat dk_X12_findBoundary 131 rfl) (Ih479.atS rfl) rfl (by decide) (by omega) ?_)
                                      intro h500 wh500
                                      have I498 : Inv h500 := by rw [wh500]; exact Ih479.put (a := 77) (j := (Int.toNat x485)) (x := (b8 x497)) (-128) (127) rfl rfl (show (-128 : Int) ≤ (b8 x497) ∧ (b8 x497) ≤ 127 by have := b8_in x497; omega)
                                      have f499 : Fr [77, 228] h h500 := by rw [wh500]; exact Fr.putF (a := 77) (j := (Int.toNat x485)) (x := (b8 x497)) fh479 rfl
                                      refine to_aload_n (dat dk_X12_findBoundary 132 rfl) rfl (to_dup (dat dk_X12_findBoundary 133 rfl) rfl (to_getIv (y := x485) (by rw [wh500]; exact ex485) g_c13_234 (dat dk_X12_findBoundary 134 rfl) (I498.atS rfl) (to_iconst (dat dk_X12_findBoundary 135 rfl) (to_iadd (dat dk_X12_findBoundary 136 rfl) (to_putIw p_c13_234 (dat dk_X12_findBoundary 137 rfl) (I498.atS rfl) ?_)))))
                                      intro h503 wh503
                                      have I501 : Inv h503 := by rw [wh503]; exact I498.put (a := 60) (j := 28) (x := (x485 + 1)) (0) (1300) rfl rfl (show (0 : Int) ≤ (x485 + 1) ∧ (x485 + 1) ≤ 1300 by omega)
                                      have f502 : Fr [77, 228] h h503 := by rw [wh503]; exact Fr.putF (a := 60) (j := 28) (x := (x485 + 1)) f499 rfl
                                      refine to_iinc (L' := [(0, .inr (.inr 60)), (1, .inl f), (2, .inl y12), (3, .inl y450), (4, .inl y455), (5, .inl y461), (6, .inl y472), (7, .inl (y478 + 1))]) (dat dk_X12_findBoundary 138 rfl) rfl (by decide) rfl (to_goto (dat dk_X12_findBoundary 139 rfl) rfl ?_)
                                      have e504 : h503.2.2 60 28 = (x485 + 1) := (by rw [wh503]; exact wr_eq)
                                      exact ihn483 (n483 - 1) (by omega) (y478 + 1) h503 (by omega) I501 f502 (show y461 < (y478 + 1) ∧ (y478 + 1) ≤ 1302 by omega) (show h503.2.2 60 28 ≤ (y478 + 1) by omega) (show y455 - (y478 + 1) ≤ ((n483 - 1 : Nat) : Int) by omega)
                                exact lp222_n483 (y455 - y475).toNat y475 h5 ry475 I3 f4 (show y461 < y475 ∧ y475 ≤ 1302 by omega) (show h5.2.2 60 28 ≤ y475 by omega) (by omega)
                              refine to_iload (dat dk_X12_findBoundary 104 rfl) rfl ?_
                              refine to_ifeq 216 (dat dk_X12_findBoundary 105 rfl) rfl (by omega) (fun c505 => ?_) (fun c505 => ?_)
                              · skip
                                refine to_iload (dat dk_X12_findBoundary 110 rfl) rfl (to_iconst (dat dk_X12_findBoundary 111 rfl) (to_iadd (dat dk_X12_findBoundary 112 rfl) ?_))
                                exact jn220_n477 (y461 + 1) (by omega) (show y461 + 1 ≤ (y461 + 1) ∧ (y461 + 1) ≤ y461 + 2 by omega)
                              · skip
                                refine to_iload (dat dk_X12_findBoundary 106 rfl) rfl (to_iconst (dat dk_X12_findBoundary 107 rfl) (to_iadd (dat dk_X12_findBoundary 108 rfl) (to_goto (dat dk_X12_findBoundary 109 rfl) rfl ?_)))
                                exact jn220_n477 (y461 + 2) (by omega) (show y461 + 1 ≤ (y461 + 2) ∧ (y461 + 2) ≤ y461 + 2 by omega)
                            refine to_iload (dat dk_X12_findBoundary 79 rfl) rfl (to_iload (dat dk_X12_findBoundary 80 rfl) rfl (to_isub (dat dk_X12_findBoundary 81 rfl) (to_iconst (dat dk_X12_findBoundary 82 rfl) ?_)))
                            refine to_ile 201 (dat dk_X12_findBoundary 83 rfl) rfl (by omega) (by decide) (fun c506 => ?_) (fun c506 => ?_)
                            · skip
                              refine to_iconst (dat dk_X12_findBoundary 102 rfl) ?_
                              exact jn202_n474 0 (by decide) (show (0 : Int) = 0 ∨ 2 < y455 - y461 by omega)
                            · skip
                              refine to_aload_n (dat dk_X12_findBoundary 84 rfl) rfl (to_getR 75 g_c13_60 (dat dk_X12_findBoundary 85 rfl) (I3.atS rfl) (I3.atE rfl) (to_iload (dat dk_X12_findBoundary 86 rfl) rfl (to_iconst (dat dk_X12_findBoundary 87 rfl) (to_iadd (dat dk_X12_findBoundary 88 rfl) ?_))))
                              obtain ⟨x507, ex507⟩ : ∃ y : Int, h5.2.2 75 (Int.toNat (y461 + 1)) = y := ⟨_, rfl⟩
                              have rx507 := I3.atR (a := 75) (j := Int.toNat (y461 + 1)) rfl
                              rw [ex507] at rx507
                              refine to_baldv (q := 1) ex507 (dat dk_X12_findBoundary 89 rfl) (by decide) (I3.atS rfl) rfl (by decide) (by omega) (to_bipush (dat dk_X12_findBoundary 90 rfl) (by decide) ?_)
                              refine to_ine 201 (dat dk_X12_findBoundary 91 rfl) rfl (by omega) (by decide) (fun c508 => ?_) (fun c508 => ?_)
                              · skip
                                refine to_iconst (dat dk_X12_findBoundary 102 rfl) ?_
                                exact jn202_n474 0 (by decide) (show (0 : Int) = 0 ∨ 2 < y455 - y461 by omega)
                              · skip
                                refine to_aload_n (dat dk_X12_findBoundary 92 rfl) rfl (to_getR 75 g_c13_60 (dat dk_X12_findBoundary 93 rfl) (I3.atS rfl) (I3.atE rfl) (to_iload (dat dk_X12_findBoundary 94 rfl) rfl (to_iconst (dat dk_X12_findBoundary 95 rfl) (to_isub (dat dk_X12_findBoundary 96 rfl) ?_))))
                                obtain ⟨x509, ex509⟩ : ∃ y : Int, h5.2.2 75 (Int.toNat (y455 - 1)) = y := ⟨_, rfl⟩
                                have rx509 := I3.atR (a := 75) (j := Int.toNat (y455 - 1)) rfl
                                rw [ex509] at rx509
                                refine to_baldv (q := 1) ex509 (dat dk_X12_findBoundary 97 rfl) (by decide) (I3.atS rfl) rfl (by decide) (by omega) (to_bipush (dat dk_X12_findBoundary 98 rfl) (by decide) ?_)
                                refine to_ine 201 (dat dk_X12_findBoundary 99 rfl) rfl (by omega) (by decide) (fun c510 => ?_) (fun c510 => ?_)
                                · skip
                                  refine to_iconst (dat dk_X12_findBoundary 102 rfl) ?_
                                  exact jn202_n474 0 (by decide) (show (0 : Int) = 0 ∨ 2 < y455 - y461 by omega)
                                · skip
                                  refine to_iconst (dat dk_X12_findBoundary 100 rfl) (to_goto (dat dk_X12_findBoundary 101 rfl) rfl ?_)
                                  exact jn202_n474 1 (by decide) (show (1 : Int) = 0 ∨ 2 < y455 - y461 by omega)
                          · skip
                            refine to_goto (dat dk_X12_findBoundary 78 rfl) rfl ?_
                            refine to_pick [0, 1, 2] rfl ?_
                            have e511 : h5.2.2 60 23 = x1 := (by rw [wh5]; exact ex1)
                            exact ihn9 (n9 - 1) (by omega) y12 ry12 (show 0 ≤ y12 ∧ y12 ≤ h5.2.2 60 23 by omega) (show h5.2.2 60 23 - y12 ≤ ((n9 - 1 : Nat) : Int) by omega)
                      · skip
                        refine to_aload_n (dat dk_X12_findBoundary 58 rfl) rfl (to_getR 75 g_c13_60 (dat dk_X12_findBoundary 59 rfl) (I3.atS rfl) (I3.atE rfl) (to_iload (dat dk_X12_findBoundary 60 rfl) rfl ?_))
                        obtain ⟨x512, ex512⟩ : ∃ y : Int, h5.2.2 75 (Int.toNat y461) = y := ⟨_, rfl⟩
                        have rx512 := I3.atR (a := 75) (j := Int.toNat y461) rfl
                        rw [ex512] at rx512
                        refine to_baldv (q := 1) ex512 (dat dk_X12_findBoundary 61 rfl) (by decide) (I3.atS rfl) rfl (by decide) (by omega) (to_bipush (dat dk_X12_findBoundary 62 rfl) (by decide) ?_)
                        refine to_ieq 131 (dat dk_X12_findBoundary 63 rfl) rfl (by omega) (by decide) (fun c513 => ?_) (fun c513 => ?_)
                        · skip
                          refine to_iload (dat dk_X12_findBoundary 66 rfl) rfl (to_iload (dat dk_X12_findBoundary 67 rfl) rfl ?_)
                          refine to_ieq 7 (dat dk_X12_findBoundary 68 rfl) rfl ry461 ry455 (fun c514 => ?_) (fun c514 => ?_)
                          · skip
                            refine to_pick [0, 1, 2] rfl ?_
                            have e515 : h5.2.2 60 23 = x1 := (by rw [wh5]; exact ex1)
                            exact ihn9 (n9 - 1) (by omega) y12 ry12 (show 0 ≤ y12 ∧ y12 ≤ h5.2.2 60 23 by omega) (show h5.2.2 60 23 - y12 ≤ ((n9 - 1 : Nat) : Int) by omega)
                          · skip
                            refine to_aload_n (dat dk_X12_findBoundary 69 rfl) rfl (to_getR 75 g_c13_60 (dat dk_X12_findBoundary 70 rfl) (I3.atS rfl) (I3.atE rfl) (to_iload_n (dat dk_X12_findBoundary 71 rfl) rfl (to_iload (dat dk_X12_findBoundary 72 rfl) rfl (to_gst (C := "MailArchiveModel") (f9 := "BOUNDARY") (d9 := "[I") (List.mem_of_getElem? (i := 5) rfl) (tin 8 133 (by decide +kernel) rfl) (dat dk_X12_findBoundary 73 rfl) (to_iconst (dat dk_X12_findBoundary 74 rfl) (to_bipush (dat dk_X12_findBoundary 75 rfl) (by decide) ?_))))))
                            refine to_cI ca_c13_198 (dat dk_X12_findBoundary 76 rfl) (ct_X12_same l h5 I3 75 1300 rfl y450 ry450 y461 ry461 1000204 8 (List.mem_of_getElem? (i := 3) rfl) 0 (by decide) 8 (by decide) (show 0 ≤ y450 ∧ y450 ≤ 640000 by omega) (show -1 ≤ y461 ∧ y461 ≤ 640000 by omega) (show 0 ≤ (0 : Int) ∧ (0 : Int) ≤ 100 by omega) (show 0 ≤ (8 : Int) ∧ (8 : Int) ≤ (8 : Int) by omega) (show y461 ≤ (1300 : Int) ∨ y450 + ((8 : Int) - (0 : Int)) ≤ (1300 : Int) by omega)) rfl trivial rfl (fun x516 h517 rx516 p518 => ?_)
                            obtain ⟨rfl, zx516⟩ := p518
                            refine to_ifne 160 (dat dk_X12_findBoundary 77 rfl) rfl rx516 (fun c519 => ?_) (fun c519 => ?_)
                            · skip
                              have jn202_n522 : ∀ (y520 : Int), (y520 = 0 ∨ y520 = 1) → (y520 = 0 ∨ 2 < y455 - y461) → To l E_X12_findBoundary (202, [(0, .inr (.inr 60)), (1, .inl f), (2, .inl y12), (3, .inl y450), (4, .inl y455), (5, .inl y461)], [.inl y520], h5, 0, 0) (Q_X12_findBoundary h f) := by
                                intro y520 ry520 c521
                                refine to_istore (L' := [(0, .inr (.inr 60)), (1, .inl f), (2, .inl y12), (3, .inl y450), (4, .inl y455), (5, .inl y461), (6, .inl y520)]) (dat dk_X12_findBoundary 103 rfl) (by decide) rfl ?_
                                have jn220_n525 : ∀ (y523 : Int), (I32 y523) → (y461 + 1 ≤ y523 ∧ y523 ≤ y461 + 2) → To l E_X12_findBoundary (220, [(0, .inr (.inr 60)), (1, .inl f), (2, .inl y12), (3, .inl y450), (4, .inl y455), (5, .inl y461), (6, .inl y520)], [.inl y523], h5, 0, 0) (Q_X12_findBoundary h f) := by
                                  intro y523 ry523 c524
                                  refine to_istore (L' := [(0, .inr (.inr 60)), (1, .inl f), (2, .inl y12), (3, .inl y450), (4, .inl y455), (5, .inl y461), (6, .inl y520), (7, .inl y523)]) (dat dk_X12_findBoundary 113 rfl) (by decide) rfl ?_
                                  have e529 : h5.2.2 60 28 = (0 : Int) := (by rw [wh5]; exact wr_eq)
                                  have lp222_n531 : ∀ (n531 : Nat) (y526 : Int) (h527 : Hp), (I32 y526) → (Inv h527) → (Fr [77, 228] h h527) → (y461 < y526 ∧ y526 ≤ 1302) → (h527.2.2 60 28 ≤ y526) → (y455 - y526 ≤ (n531 : Int)) → To l E_X12_findBoundary (222, [(0, .inr (.inr 60)), (1, .inl f), (2, .inl y12), (3, .inl y450), (4, .inl y455), (5, .inl y461), (6, .inl y520), (7, .inl y526)], [], h527, 0, 0) (Q_X12_findBoundary h f) := by
                                    intro n531
                                    induction n531 using Nat.strongRecOn with
                                    | _ n531 ihn531 =>
                                    intro y526 h527 ry526 Ih527 fh527 c528 c530 c532
                                    obtain ⟨x533, ex533⟩ : ∃ y : Int, h527.2.2 60 28 = y := ⟨_, rfl⟩
                                    have rx533 := Ih527.atR (a := 60) (j := 28) rfl
                                    rw [ex533] at rx533
                                    refine to_iload (dat dk_X12_findBoundary 114 rfl) rfl (to_iload (dat dk_X12_findBoundary 115 rfl) rfl ?_)
                                    refine to_ifeq 236 (dat dk_X12_findBoundary 116 rfl) rfl (by omega) (fun c534 => ?_) (fun c534 => ?_)
                                    · skip
                                      refine to_iload (dat dk_X12_findBoundary 121 rfl) rfl ?_
                                      refine to_ige 273 (dat dk_X12_findBoundary 122 rfl) rfl ry526 ry455 (fun c535 => ?_) (fun c535 => ?_)
                                      · skip
                                        exact to_vret rfl (dat dk_X12_findBoundary 140 rfl) (rv_mk ⟨Ih527, fh527⟩)
                                      · skip
                                        refine to_aload_n (dat dk_X12_findBoundary 123 rfl) rfl (to_getR 77 g_c13_66 (dat dk_X12_findBoundary 124 rfl) (Ih527.atS rfl) (Ih527.atE rfl) (to_aload_n (dat dk_X12_findBoundary 125 rfl) rfl (to_getIv (y := x533) ex533 g_c13_234 (dat dk_X12_findBoundary 126 rfl) (Ih527.atS rfl) (to_aload_n (dat dk_X12_findBoundary 127 rfl) rfl (to_getR 75 g_c13_60 (dat dk_X12_findBoundary 128 rfl) (Ih527.atS rfl) (Ih527.atE rfl) (to_iload (dat dk_X12_findBoundary 129 rfl) rfl ?_))))))
                                        obtain ⟨x536, ex536⟩ : ∃ y : Int, h527.2.2 75 (Int.toNat y526) = y := ⟨_, rfl⟩
                                        have rx536 := Ih527.atR (a := 75) (j := Int.toNat y526) rfl
                                        rw [ex536] at rx536
                                        refine to_baldv (q := 1) ex536 (dat dk_X12_findBoundary 130 rfl) (by decide) (Ih527.atS rfl) rfl (by decide) (by omega) (to_bastw (dat dk_X12_findBoundary 131 rfl) (Ih527.atS rfl) rfl (by decide) (by omega) ?_)
                                        intro h539 wh539
                                        have I537 : Inv h539 := by rw [wh539]; exact Ih527.put (a := 77) (j := (Int.toNat x533)) (x := (b8 x536)) (-128) (127) rfl rfl (show (-128 : Int) ≤ (b8 x536) ∧ (b8 x536) ≤ 127 by have := b8_in x536; omega)
                                        have f538 : Fr [77, 228] h h539 := by rw [wh539]; exact Fr.putF (a := 77) (j := (Int.toNat x533)) (x := (b8 x536)) fh527 rfl
                                        refine to_aload_n (dat dk_X12_findBoundary 132 rfl) rfl (to_dup (dat dk_X12_findBoundary 133 rfl) rfl (to_getIv (y := x533) (by rw [wh539]; exact ex533) g_c13_234 (dat dk_X12_findBoundary 134 rfl) (I537.atS rfl) (to_iconst (dat dk_X12_findBoundary 135 rfl) (to_iadd (dat dk_X12_findBoundary 136 rfl) (to_putIw p_c13_234 (dat dk_X12_findBoundary 137 rfl) (I537.atS rfl) ?_)))))
                                        intro h542 wh542
                                        have I540 : Inv h542 := by rw [wh542]; exact I537.put (a := 60) (j := 28) (x := (x533 + 1)) (0) (1300) rfl rfl (show (0 : Int) ≤ (x533 + 1) ∧ (x533 + 1) ≤ 1300 by omega)
                                        have f541 : Fr [77, 228] h h542 := by rw [wh542]; exact Fr.putF (a := 60) (j := 28) (x := (x533 + 1)) f538 rfl
                                        refine to_iinc (L' := [(0, .inr (.inr 60)), (1, .inl f), (2, .inl y12), (3, .inl y450), (4, .inl y455), (5, .inl y461), (6, .inl y520), (7, .inl (y526 + 1))]) (dat dk_X12_findBoundary 138 rfl) rfl (by decide) rfl (to_goto (dat dk_X12_findBoundary 139 rfl) rfl ?_)
                                        have e543 : h542.2.2 60 28 = (x533 + 1) := (by rw [wh542]; exact wr_eq)
                                        exact ihn531 (n531 - 1) (by omega) (y526 + 1) h542 (by omega) I540 f541 (show y461 < (y526 + 1) ∧ (y526 + 1) ≤ 1302 by omega) (show h542.2.2 60 28 ≤ (y526 + 1) by omega) (show y455 - (y526 + 1) ≤ ((n531 - 1 : Nat) : Int) by omega)
                                    · skip
                                      refine to_iload (dat dk_X12_findBoundary 117 rfl) rfl (to_iconst (dat dk_X12_findBoundary 118 rfl) (to_isub (dat dk_X12_findBoundary 119 rfl) (to_goto (dat dk_X12_findBoundary 120 rfl) rfl ?_)))
                                      refine to_ige 273 (dat dk_X12_findBoundary 122 rfl) rfl ry526 (by omega) (fun c544 => ?_) (fun c544 => ?_)
                                      · skip
                                        exact to_vret rfl (dat dk_X12_findBoundary 140 rfl) (rv_mk ⟨Ih527, fh527⟩)
                                      · skip
                                        refine to_aload_n (dat dk_X12_findBoundary 123 rfl) rfl (to_getR 77 g_c13_66 (dat dk_X12_findBoundary 124 rfl) (Ih527.atS rfl) (Ih527.atE rfl) (to_aload_n (dat dk_X12_findBoundary 125 rfl) rfl (to_getIv (y := x533) ex533 g_c13_234 (dat dk_X12_findBoundary 126 rfl) (Ih527.atS rfl) (to_aload_n (dat dk_X12_findBoundary 127 rfl) rfl (to_getR 75 g_c13_60 (dat dk_X12_findBoundary 128 rfl) (Ih527.atS rfl) (Ih527.atE rfl) (to_iload (dat dk_X12_findBoundary 129 rfl) rfl ?_))))))
                                        obtain ⟨x545, ex545⟩ : ∃ y : Int, h527.2.2 75 (Int.toNat y526) = y := ⟨_, rfl⟩
                                        have rx545 := Ih527.atR (a := 75) (j := Int.toNat y526) rfl
                                        rw [ex545] at rx545
                                        refine to_baldv (q := 1) ex545 (dat dk_X12_findBoundary 130 rfl) (by decide) (Ih527.atS rfl) rfl (by decide) (by omega) (to_bastw (dat dk_X12_findBoundary 131 rfl) (Ih527.atS rfl) rfl (by decide) (by omega) ?_)
                                        intro h548 wh548
                                        have I546 : Inv h548 := by rw [wh548]; exact Ih527.put (a := 77) (j := (Int.toNat x533)) (x := (b8 x545)) (-128) (127) rfl rfl (show (-128 : Int) ≤ (b8 x545) ∧ (b8 x545) ≤ 127 by have := b8_in x545; omega)
                                        have f547 : Fr [77, 228] h h548 := by rw [wh548]; exact Fr.putF (a := 77) (j := (Int.toNat x533)) (x := (b8 x545)) fh527 rfl
                                        refine to_aload_n (dat dk_X12_findBoundary 132 rfl) rfl (to_dup (dat dk_X12_findBoundary 133 rfl) rfl (to_getIv (y := x533) (by rw [wh548]; exact ex533) g_c13_234 (dat dk_X12_findBoundary 134 rfl) (I546.atS rfl) (to_iconst (dat dk_X12_findBoundary 135 rfl) (to_iadd (dat dk_X12_findBoundary 136 rfl) (to_putIw p_c13_234 (dat dk_X12_findBoundary 137 rfl) (I546.atS rfl) ?_)))))
                                        intro h551 wh551
                                        have I549 : Inv h551 := by rw [wh551]; exact I546.put (a := 60) (j := 28) (x := (x533 + 1)) (0) (1300) rfl rfl (show (0 : Int) ≤ (x533 + 1) ∧ (x533 + 1) ≤ 1300 by omega)
                                        have f550 : Fr [77, 228] h h551 := by rw [wh551]; exact Fr.putF (a := 60) (j := 28) (x := (x533 + 1)) f547 rfl
                                        refine to_iinc (L' := [(0, .inr (.inr 60)), (1, .inl f), (2, .inl y12), (3, .inl y450), (4, .inl y455), (5, .inl y461), (6, .inl y520), (7, .inl (y526 + 1))]) (dat dk_X12_findBoundary 138 rfl) rfl (by decide) rfl (to_goto (dat dk_X12_findBoundary 139 rfl) rfl ?_)
                                        have e552 : h551.2.2 60 28 = (x533 + 1) := (by rw [wh551]; exact wr_eq)
                                        exact ihn531 (n531 - 1) (by omega) (y526 + 1) h551 (by omega) I549 f550 (show y461 < (y526 + 1) ∧ (y526 + 1) ≤ 1302 by omega) (show h551.2.2 60 28 ≤ (y526 + 1) by omega) (show y455 - (y526 + 1) ≤ ((n531 - 1 : Nat) : Int) by omega)
                                  exact lp222_n531 (y455 - y523).toNat y523 h5 ry523 I3 f4 (show y461 < y523 ∧ y523 ≤ 1302 by omega) (show h5.2.2 60 28 ≤ y523 by omega) (by omega)
                                refine to_iload (dat dk_X12_findBoundary 104 rfl) rfl ?_
                                refine to_ifeq 216 (dat dk_X12_findBoundary 105 rfl) rfl (by omega) (fun c553 => ?_) (fun c553 => ?_)
                                · skip
                                  refine to_iload (dat dk_X12_findBoundary 110 rfl) rfl (to_iconst (dat dk_X12_findBoundary 111 rfl) (to_iadd (dat dk_X12_findBoundary 112 rfl) ?_))
                                  exact jn220_n525 (y461 + 1) (by omega) (show y461 + 1 ≤ (y461 + 1) ∧ (y461 + 1) ≤ y461 + 2 by omega)
                                · skip
                                  refine to_iload (dat dk_X12_findBoundary 106 rfl) rfl (to_iconst (dat dk_X12_findBoundary 107 rfl) (to_iadd (dat dk_X12_findBoundary 108 rfl) (to_goto (dat dk_X12_findBoundary 109 rfl) rfl ?_)))
                                  exact jn220_n525 (y461 + 2) (by omega) (show y461 + 1 ≤ (y461 + 2) ∧ (y461 + 2) ≤ y461 + 2 by omega)
                              refine to_iload (dat dk_X12_findBoundary 79 rfl) rfl (to_iload (dat dk_X12_findBoundary 80 rfl) rfl (to_isub (dat dk_X12_findBoundary 81 rfl) (to_iconst (dat dk_X12_findBoundary 82 rfl) ?_)))
                              refine to_ile 201 (dat dk_X12_findBoundary 83 rfl) rfl (by omega) (by decide) (fun c554 => ?_) (fun c554 => ?_)
                              · skip
                                refine to_iconst (dat dk_X12_findBoundary 102 rfl) ?_
                                exact jn202_n522 0 (by decide) (show (0 : Int) = 0 ∨ 2 < y455 - y461 by omega)
                              · skip
                                refine to_aload_n (dat dk_X12_findBoundary 84 rfl) rfl (to_getR 75 g_c13_60 (dat dk_X12_findBoundary 85 rfl) (I3.atS rfl) (I3.atE rfl) (to_iload (dat dk_X12_findBoundary 86 rfl) rfl (to_iconst (dat dk_X12_findBoundary 87 rfl) (to_iadd (dat dk_X12_findBoundary 88 rfl) ?_))))
                                obtain ⟨x555, ex555⟩ : ∃ y : Int, h5.2.2 75 (Int.toNat (y461 + 1)) = y := ⟨_, rfl⟩
                                have rx555 := I3.atR (a := 75) (j := Int.toNat (y461 + 1)) rfl
                                rw [ex555] at rx555
                                refine to_baldv (q := 1) ex555 (dat dk_X12_findBoundary 89 rfl) (by decide) (I3.atS rfl) rfl (by decide) (by omega) (to_bipush (dat dk_X12_findBoundary 90 rfl) (by decide) ?_)
                                refine to_ine 201 (dat dk_X12_findBoundary 91 rfl) rfl (by omega) (by decide) (fun c556 => ?_) (fun c556 => ?_)
                                · skip
                                  refine to_iconst (dat dk_X12_findBoundary 102 rfl) ?_
                                  exact jn202_n522 0 (by decide) (show (0 : Int) = 0 ∨ 2 < y455 - y461 by omega)
                                · skip
                                  refine to_aload_n (dat dk_X12_findBoundary 92 rfl) rfl (to_getR 75 g_c13_60 (dat dk_X12_findBoundary 93 rfl) (I3.atS rfl) (I3.atE rfl) (to_iload (dat dk_X12_findBoundary 94 rfl) rfl (to_iconst (dat dk_X12_findBoundary 95 rfl) (to_isub (dat dk_X12_findBoundary 96 rfl) ?_))))
                                  obtain ⟨x557, ex557⟩ : ∃ y : Int, h5.2.2 75 (Int.toNat (y455 - 1)) = y := ⟨_, rfl⟩
                                  have rx557 := I3.atR (a := 75) (j := Int.toNat (y455 - 1)) rfl
                                  rw [ex557] at rx557
                                  refine to_baldv (q := 1) ex557 (dat dk_X12_findBoundary 97 rfl) (by decide) (I3.atS rfl) rfl (by decide) (by omega) (to_bipush (dat dk_X12_findBoundary 98 rfl) (by decide) ?_)
                                  refine to_ine 201 (dat dk_X12_findBoundary 99 rfl) rfl (by omega) (by decide) (fun c558 => ?_) (fun c558 => ?_)
                                  · skip
                                    refine to_iconst (dat dk_X12_findBoundary 102 rfl) ?_
                                    exact jn202_n522 0 (by decide) (show (0 : Int) = 0 ∨ 2 < y455 - y461 by omega)
                                  · skip
                                    refine to_iconst (dat dk_X12_findBoundary 100 rfl) (to_goto (dat dk_X12_findBoundary 101 rfl) rfl ?_)
                                    exact jn202_n522 1 (by decide) (show (1 : Int) = 0 ∨ 2 < y455 - y461 by omega)
                            · skip
                              refine to_goto (dat dk_X12_findBoundary 78 rfl) rfl ?_
                              refine to_pick [0, 1, 2] rfl ?_
                              have e559 : h5.2.2 60 23 = x1 := (by rw [wh5]; exact ex1)
                              exact ihn9 (n9 - 1) (by omega) y12 ry12 (show 0 ≤ y12 ∧ y12 ≤ h5.2.2 60 23 by omega) (show h5.2.2 60 23 - y12 ≤ ((n9 - 1 : Nat) : Int) by omega)
                        · skip
                          refine to_iinc (L' := [(0, .inr (.inr 60)), (1, .inl f), (2, .inl y12), (3, .inl y450), (4, .inl y455), (5, .inl (y461 + 1))]) (dat dk_X12_findBoundary 64 rfl) rfl (by decide) rfl (to_goto (dat dk_X12_findBoundary 65 rfl) rfl ?_)
                          exact ihn463 (n463 - 1) (by omega) (y461 + 1) (by omega) (show y450 ≤ (y461 + 1) ∧ (y461 + 1) ≤ y455 by omega) (show y455 - (y461 + 1) ≤ ((n463 - 1 : Nat) : Int) by omega)
                    exact lp106_n463 (y455 - y450).toNat y450 ry450 (show y450 ≤ y450 ∧ y450 ≤ y455 by omega) (by omega)
                  · skip
                    refine to_aload_n (dat dk_X12_findBoundary 43 rfl) rfl (to_getR 75 g_c13_60 (dat dk_X12_findBoundary 44 rfl) (I3.atS rfl) (I3.atE rfl) (to_iload (dat dk_X12_findBoundary 45 rfl) rfl (to_iconst (dat dk_X12_findBoundary 46 rfl) (to_isub (dat dk_X12_findBoundary 47 rfl) ?_))))
                    obtain ⟨x560, ex560⟩ : ∃ y : Int, h5.2.2 75 (Int.toNat (y455 - 1)) = y := ⟨_, rfl⟩
                    have rx560 := I3.atR (a := 75) (j := Int.toNat (y455 - 1)) rfl
                    rw [ex560] at rx560
                    refine to_baldv (q := 1) ex560 (dat dk_X12_findBoundary 48 rfl) (by decide) (I3.atS rfl) rfl (by decide) (by omega) ?_
                    refine to_cI ca_c13_182 (dat dk_X12_findBoundary 49 rfl) (ct_X12_isBlank l h5 I3 x560 (by omega)) rfl trivial rfl (fun x561 h562 rx561 p563 => ?_)
                    obtain ⟨rfl, zx561⟩ := p563
                    refine to_ifeq 103 (dat dk_X12_findBoundary 50 rfl) rfl rx561 (fun c564 => ?_) (fun c564 => ?_)
                    · skip
                      refine to_iload_n (dat dk_X12_findBoundary 53 rfl) rfl (to_istore (L' := [(0, .inr (.inr 60)), (1, .inl f), (2, .inl y12), (3, .inl y450), (4, .inl y455), (5, .inl y450)]) (dat dk_X12_findBoundary 54 rfl) (by decide) rfl ?_)
                      have lp106_n567 : ∀ (n567 : Nat) (y565 : Int), (I32 y565) → (y450 ≤ y565 ∧ y565 ≤ y455) → (y455 - y565 ≤ (n567 : Int)) → To l E_X12_findBoundary (106, [(0, .inr (.inr 60)), (1, .inl f), (2, .inl y12), (3, .inl y450), (4, .inl y455), (5, .inl y565)], [], h5, 0, 0) (Q_X12_findBoundary h f) := by
                        intro n567
                        induction n567 using Nat.strongRecOn with
                        | _ n567 ihn567 =>
                        intro y565 ry565 c566 c568
                        refine to_iload (dat dk_X12_findBoundary 55 rfl) rfl (to_iload (dat dk_X12_findBoundary 56 rfl) rfl ?_)
                        refine to_ige 131 (dat dk_X12_findBoundary 57 rfl) rfl ry565 ry455 (fun c569 => ?_) (fun c569 => ?_)
                        · skip
                          refine to_iload (dat dk_X12_findBoundary 66 rfl) rfl (to_iload (dat dk_X12_findBoundary 67 rfl) rfl ?_)
                          refine to_ieq 7 (dat dk_X12_findBoundary 68 rfl) rfl ry565 ry455 (fun c570 => ?_) (fun c570 => ?_)
                          · skip
                            refine to_pick [0, 1, 2] rfl ?_
                            have e571 : h5.2.2 60 23 = x1 := (by rw [wh5]; exact ex1)
                            exact ihn9 (n9 - 1) (by omega) y12 ry12 (show 0 ≤ y12 ∧ y12 ≤ h5.2.2 60 23 by omega) (show h5.2.2 60 23 - y12 ≤ ((n9 - 1 : Nat) : Int) by omega)
                          · skip
                            refine to_aload_n (dat dk_X12_findBoundary 69 rfl) rfl (to_getR 75 g_c13_60 (dat dk_X12_findBoundary 70 rfl) (I3.atS rfl) (I3.atE rfl) (to_iload_n (dat dk_X12_findBoundary 71 rfl) rfl (to_iload (dat dk_X12_findBoundary 72 rfl) rfl (to_gst (C := "MailArchiveModel") (f9 := "BOUNDARY") (d9 := "[I") (List.mem_of_getElem? (i := 5) rfl) (tin 8 133 (by decide +kernel) rfl) (dat dk_X12_findBoundary 73 rfl) (to_iconst (dat dk_X12_findBoundary 74 rfl) (to_bipush (dat dk_X12_findBoundary 75 rfl) (by decide) ?_))))))
                            refine to_cI ca_c13_198 (dat dk_X12_findBoundary 76 rfl) (ct_X12_same l h5 I3 75 1300 rfl y450 ry450 y565 ry565 1000204 8 (List.mem_of_getElem? (i := 3) rfl) 0 (by decide) 8 (by decide) (show 0 ≤ y450 ∧ y450 ≤ 640000 by omega) (show -1 ≤ y565 ∧ y565 ≤ 640000 by omega) (show 0 ≤ (0 : Int) ∧ (0 : Int) ≤ 100 by omega) (show 0 ≤ (8 : Int) ∧ (8 : Int) ≤ (8 : Int) by omega) (show y565 ≤ (1300 : Int) ∨ y450 + ((8 : Int) - (0 : Int)) ≤ (1300 : Int) by omega)) rfl trivial rfl (fun x572 h573 rx572 p574 => ?_)
                            obtain ⟨rfl, zx572⟩ := p574
                            refine to_ifne 160 (dat dk_X12_findBoundary 77 rfl) rfl rx572 (fun c575 => ?_) (fun c575 => ?_)
                            · skip
                              have jn202_n578 : ∀ (y576 : Int), (y576 = 0 ∨ y576 = 1) → (y576 = 0 ∨ 2 < y455 - y565) → To l E_X12_findBoundary (202, [(0, .inr (.inr 60)), (1, .inl f), (2, .inl y12), (3, .inl y450), (4, .inl y455), (5, .inl y565)], [.inl y576], h5, 0, 0) (Q_X12_findBoundary h f) := by
                                intro y576 ry576 c577
                                refine to_istore (L' := [(0, .inr (.inr 60)), (1, .inl f), (2, .inl y12), (3, .inl y450), (4, .inl y455), (5, .inl y565), (6, .inl y576)]) (dat dk_X12_findBoundary 103 rfl) (by decide) rfl ?_
                                have jn220_n581 : ∀ (y579 : Int), (I32 y579) → (y565 + 1 ≤ y579 ∧ y579 ≤ y565 + 2) → To l E_X12_findBoundary (220, [(0, .inr (.inr 60)), (1, .inl f), (2, .inl y12), (3, .inl y450), (4, .inl y455), (5, .inl y565), (6, .inl y576)], [.inl y579], h5, 0, 0) (Q_X12_findBoundary h f) := by
                                  intro y579 ry579 c580
                                  refine to_istore (L' := [(0, .inr (.inr 60)), (1, .inl f), (2, .inl y12), (3, .inl y450), (4, .inl y455), (5, .inl y565), (6, .inl y576), (7, .inl y579)]) (dat dk_X12_findBoundary 113 rfl) (by decide) rfl ?_
                                  have e585 : h5.2.2 60 28 = (0 : Int) := (by rw [wh5]; exact wr_eq)
                                  have lp222_n587 : ∀ (n587 : Nat) (y582 : Int) (h583 : Hp), (I32 y582) → (Inv h583) → (Fr [77, 228] h h583) → (y565 < y582 ∧ y582 ≤ 1302) → (h583.2.2 60 28 ≤ y582) → (y455 - y582 ≤ (n587 : Int)) → To l E_X12_findBoundary (222, [(0, .inr (.inr 60)), (1, .inl f), (2, .inl y12), (3, .inl y450), (4, .inl y455), (5, .inl y565), (6, .inl y576), (7, .inl y582)], [], h583, 0, 0) (Q_X12_findBoundary h f) := by
                                    intro n587
                                    induction n587 using Nat.strongRecOn with
                                    | _ n587 ihn587 =>
                                    intro y582 h583 ry582 Ih583 fh583 c584 c586 c588
                                    obtain ⟨x589, ex589⟩ : ∃ y : Int, h583.2.2 60 28 = y := ⟨_, rfl⟩
                                    have rx589 := Ih583.atR (a := 60) (j := 28) rfl
                                    rw [ex589] at rx589
                                    refine to_iload (dat dk_X12_findBoundary 114 rfl) rfl (to_iload (dat dk_X12_findBoundary 115 rfl) rfl ?_)
                                    refine to_ifeq 236 (dat dk_X12_findBoundary 116 rfl) rfl (by omega) (fun c590 => ?_) (fun c590 => ?_)
                                    · skip
                                      refine to_iload (dat dk_X12_findBoundary 121 rfl) rfl ?_
                                      refine to_ige 273 (dat dk_X12_findBoundary 122 rfl) rfl ry582 ry455 (fun c591 => ?_) (fun c591 => ?_)
                                      · skip
                                        exact to_vret rfl (dat dk_X12_findBoundary 140 rfl) (rv_mk ⟨Ih583, fh583⟩)
                                      · skip
                                        refine to_aload_n (dat dk_X12_findBoundary 123 rfl) rfl (to_getR 77 g_c13_66 (dat dk_X12_findBoundary 124 rfl) (Ih583.atS rfl) (Ih583.atE rfl) (to_aload_n (dat dk_X12_findBoundary 125 rfl) rfl (to_getIv (y := x589) ex589 g_c13_234 (dat dk_X12_findBoundary 126 rfl) (Ih583.atS rfl) (to_aload_n (dat dk_X12_findBoundary 127 rfl) rfl (to_getR 75 g_c13_60 (dat dk_X12_findBoundary 128 rfl) (Ih583.atS rfl) (Ih583.atE rfl) (to_iload (dat dk_X12_findBoundary 129 rfl) rfl ?_))))))
                                        obtain ⟨x592, ex592⟩ : ∃ y : Int, h583.2.2 75 (Int.toNat y582) = y := ⟨_, rfl⟩
                                        have rx592 := Ih583.atR (a := 75) (j := Int.toNat y582) rfl
                                        rw [ex592] at rx592
                                        refine to_baldv (q := 1) ex592 (dat dk_X12_findBoundary 130 rfl) (by decide) (Ih583.atS rfl) rfl (by decide) (by omega) (to_bastw (dat dk_X12_findBoundary 131 rfl) (Ih583.atS rfl) rfl (by decide) (by omega) ?_)
                                        intro h595 wh595
                                        have I593 : Inv h595 := by rw [wh595]; exact Ih583.put (a := 77) (j := (Int.toNat x589)) (x := (b8 x592)) (-128) (127) rfl rfl (show (-128 : Int) ≤ (b8 x592) ∧ (b8 x592) ≤ 127 by have := b8_in x592; omega)
                                        have f594 : Fr [77, 228] h h595 := by rw [wh595]; exact Fr.putF (a := 77) (j := (Int.toNat x589)) (x := (b8 x592)) fh583 rfl
                                        refine to_aload_n (dat dk_X12_findBoundary 132 rfl) rfl (to_dup (dat dk_X12_findBoundary 133 rfl) rfl (to_getIv (y := x589) (by rw [wh595]; exact ex589) g_c13_234 (dat dk_X12_findBoundary 134 rfl) (I593.atS rfl) (to_iconst (dat dk_X12_findBoundary 135 rfl) (to_iadd (dat dk_X12_findBoundary 136 rfl) (to_putIw p_c13_234 (dat dk_X12_findBoundary 137 rfl) (I593.atS rfl) ?_)))))
                                        intro h598 wh598
                                        have I596 : Inv h598 := by rw [wh598]; exact I593.put (a := 60) (j := 28) (x := (x589 + 1)) (0) (1300) rfl rfl (show (0 : Int) ≤ (x589 + 1) ∧ (x589 + 1) ≤ 1300 by omega)
                                        have f597 : Fr [77, 228] h h598 := by rw [wh598]; exact Fr.putF (a := 60) (j := 28) (x := (x589 + 1)) f594 rfl
                                        refine to_iinc (L' := [(0, .inr (.inr 60)), (1, .inl f), (2, .inl y12), (3, .inl y450), (4, .inl y455), (5, .inl y565), (6, .inl y576), (7, .inl (y582 + 1))]) (dat dk_X12_findBoundary 138 rfl) rfl (by decide) rfl (to_goto (dat dk_X12_findBoundary 139 rfl) rfl ?_)
                                        have e599 : h598.2.2 60 28 = (x589 + 1) := (by rw [wh598]; exact wr_eq)
                                        exact ihn587 (n587 - 1) (by omega) (y582 + 1) h598 (by omega) I596 f597 (show y565 < (y582 + 1) ∧ (y582 + 1) ≤ 1302 by omega) (show h598.2.2 60 28 ≤ (y582 + 1) by omega) (show y455 - (y582 + 1) ≤ ((n587 - 1 : Nat) : Int) by omega)
                                    · skip
                                      refine to_iload (dat dk_X12_findBoundary 117 rfl) rfl (to_iconst (dat dk_X12_findBoundary 118 rfl) (to_isub (dat dk_X12_findBoundary 119 rfl) (to_goto (dat dk_X12_findBoundary 120 rfl) rfl ?_)))
                                      refine to_ige 273 (dat dk_X12_findBoundary 122 rfl) rfl ry582 (by omega) (fun c600 => ?_) (fun c600 => ?_)
                                      · skip
                                        exact to_vret rfl (dat dk_X12_findBoundary 140 rfl) (rv_mk ⟨Ih583, fh583⟩)
                                      · skip
                                        refine to_aload_n (dat dk_X12_findBoundary 123 rfl) rfl (to_getR 77 g_c13_66 (dat dk_X12_findBoundary 124 rfl) (Ih583.atS rfl) (Ih583.atE rfl) (to_aload_n (dat dk_X12_findBoundary 125 rfl) rfl (to_getIv (y := x589) ex589 g_c13_234 (dat dk_X12_findBoundary 126 rfl) (Ih583.atS rfl) (to_aload_n (dat dk_X12_findBoundary 127 rfl) rfl (to_getR 75 g_c13_60 (dat dk_X12_findBoundary 128 rfl) (Ih583.atS rfl) (Ih583.atE rfl) (to_iload (dat dk_X12_findBoundary 129 rfl) rfl ?_))))))
                                        obtain ⟨x601, ex601⟩ : ∃ y : Int, h583.2.2 75 (Int.toNat y582) = y := ⟨_, rfl⟩
                                        have rx601 := Ih583.atR (a := 75) (j := Int.toNat y582) rfl
                                        rw [ex601] at rx601
                                        refine to_baldv (q := 1) ex601 (dat dk_X12_findBoundary 130 rfl) (by decide) (Ih583.atS rfl) rfl (by decide) (by omega) (to_bastw (dat dk_X12_findBoundary 131 rfl) (Ih583.atS rfl) rfl (by decide) (by omega) ?_)
                                        intro h604 wh604
                                        have I602 : Inv h604 := by rw [wh604]; exact Ih583.put (a := 77) (j := (Int.toNat x589)) (x := (b8 x601)) (-128) (127) rfl rfl (show (-128 : Int) ≤ (b8 x601) ∧ (b8 x601) ≤ 127 by have := b8_in x601; omega)
                                        have f603 : Fr [77, 228] h h604 := by rw [wh604]; exact Fr.putF (a := 77) (j := (Int.toNat x589)) (x := (b8 x601)) fh583 rfl
                                        refine to_aload_n (dat dk_X12_findBoundary 132 rfl) rfl (to_dup (dat dk_X12_findBoundary 133 rfl) rfl (to_getIv (y := x589) (by rw [wh604]; exact ex589) g_c13_234 (dat dk_X12_findBoundary 134 rfl) (I602.atS rfl) (to_iconst (dat dk_X12_findBoundary 135 rfl) (to_iadd (dat dk_X12_findBoundary 136 rfl) (to_putIw p_c13_234 (dat dk_X12_findBoundary 137 rfl) (I602.atS rfl) ?_)))))
                                        intro h607 wh607
                                        have I605 : Inv h607 := by rw [wh607]; exact I602.put (a := 60) (j := 28) (x := (x589 + 1)) (0) (1300) rfl rfl (show (0 : Int) ≤ (x589 + 1) ∧ (x589 + 1) ≤ 1300 by omega)
                                        have f606 : Fr [77, 228] h h607 := by rw [wh607]; exact Fr.putF (a := 60) (j := 28) (x := (x589 + 1)) f603 rfl
                                        refine to_iinc (L' := [(0, .inr (.inr 60)), (1, .inl f), (2, .inl y12), (3, .inl y450), (4, .inl y455), (5, .inl y565), (6, .inl y576), (7, .inl (y582 + 1))]) (dat dk_X12_findBoundary 138 rfl) rfl (by decide) rfl (to_goto (dat dk_X12_findBoundary 139 rfl) rfl ?_)
                                        have e608 : h607.2.2 60 28 = (x589 + 1) := (by rw [wh607]; exact wr_eq)
                                        exact ihn587 (n587 - 1) (by omega) (y582 + 1) h607 (by omega) I605 f606 (show y565 < (y582 + 1) ∧ (y582 + 1) ≤ 1302 by omega) (show h607.2.2 60 28 ≤ (y582 + 1) by omega) (show y455 - (y582 + 1) ≤ ((n587 - 1 : Nat) : Int) by omega)
                                  exact lp222_n587 (y455 - y579).toNat y579 h5 ry579 I3 f4 (show y565 < y579 ∧ y579 ≤ 1302 by omega) (show h5.2.2 60 28 ≤ y579 by omega) (by omega)
                                refine to_iload (dat dk_X12_findBoundary 104 rfl) rfl ?_
                                refine to_ifeq 216 (dat dk_X12_findBoundary 105 rfl) rfl (by omega) (fun c609 => ?_) (fun c609 => ?_)
                                · skip
                                  refine to_iload (dat dk_X12_findBoundary 110 rfl) rfl (to_iconst (dat dk_X12_findBoundary 111 rfl) (to_iadd (dat dk_X12_findBoundary 112 rfl) ?_))
                                  exact jn220_n581 (y565 + 1) (by omega) (show y565 + 1 ≤ (y565 + 1) ∧ (y565 + 1) ≤ y565 + 2 by omega)
                                · skip
                                  refine to_iload (dat dk_X12_findBoundary 106 rfl) rfl (to_iconst (dat dk_X12_findBoundary 107 rfl) (to_iadd (dat dk_X12_findBoundary 108 rfl) (to_goto (dat dk_X12_findBoundary 109 rfl) rfl ?_)))
                                  exact jn220_n581 (y565 + 2) (by omega) (show y565 + 1 ≤ (y565 + 2) ∧ (y565 + 2) ≤ y565 + 2 by omega)
                              refine to_iload (dat dk_X12_findBoundary 79 rfl) rfl (to_iload (dat dk_X12_findBoundary 80 rfl) rfl (to_isub (dat dk_X12_findBoundary 81 rfl) (to_iconst (dat dk_X12_findBoundary 82 rfl) ?_)))
                              refine to_ile 201 (dat dk_X12_findBoundary 83 rfl) rfl (by omega) (by decide) (fun c610 => ?_) (fun c610 => ?_)
                              · skip
                                refine to_iconst (dat dk_X12_findBoundary 102 rfl) ?_
                                exact jn202_n578 0 (by decide) (show (0 : Int) = 0 ∨ 2 < y455 - y565 by omega)
                              · skip
                                refine to_aload_n (dat dk_X12_findBoundary 84 rfl) rfl (to_getR 75 g_c13_60 (dat dk_X12_findBoundary 85 rfl) (I3.atS rfl) (I3.atE rfl) (to_iload (dat dk_X12_findBoundary 86 rfl) rfl (to_iconst (dat dk_X12_findBoundary 87 rfl) (to_iadd (dat dk_X12_findBoundary 88 rfl) ?_))))
                                obtain ⟨x611, ex611⟩ : ∃ y : Int, h5.2.2 75 (Int.toNat (y565 + 1)) = y := ⟨_, rfl⟩
                                have rx611 := I3.atR (a := 75) (j := Int.toNat (y565 + 1)) rfl
                                rw [ex611] at rx611
                                refine to_baldv (q := 1) ex611 (dat dk_X12_findBoundary 89 rfl) (by decide) (I3.atS rfl) rfl (by decide) (by omega) (to_bipush (dat dk_X12_findBoundary 90 rfl) (by decide) ?_)
                                refine to_ine 201 (dat dk_X12_findBoundary 91 rfl) rfl (by omega) (by decide) (fun c612 => ?_) (fun c612 => ?_)
                                · skip
                                  refine to_iconst (dat dk_X12_findBoundary 102 rfl) ?_
                                  exact jn202_n578 0 (by decide) (show (0 : Int) = 0 ∨ 2 < y455 - y565 by omega)
                                · skip
                                  refine to_aload_n (dat dk_X12_findBoundary 92 rfl) rfl (to_getR 75 g_c13_60 (dat dk_X12_findBoundary 93 rfl) (I3.atS rfl) (I3.atE rfl) (to_iload (dat dk_X12_findBoundary 94 rfl) rfl (to_iconst (dat dk_X12_findBoundary 95 rfl) (to_isub (dat dk_X12_findBoundary 96 rfl) ?_))))
                                  obtain ⟨x613, ex613⟩ : ∃ y : Int, h5.2.2 75 (Int.toNat (y455 - 1)) = y := ⟨_, rfl⟩
                                  have rx613 := I3.atR (a := 75) (j := Int.toNat (y455 - 1)) rfl
                                  rw [ex613] at rx613
                                  refine to_baldv (q := 1) ex613 (dat dk_X12_findBoundary 97 rfl) (by decide) (I3.atS rfl) rfl (by decide) (by omega) (to_bipush (dat dk_X12_findBoundary 98 rfl) (by decide) ?_)
                                  refine to_ine 201 (dat dk_X12_findBoundary 99 rfl) rfl (by omega) (by decide) (fun c614 => ?_) (fun c614 => ?_)
                                  · skip
                                    refine to_iconst (dat dk_X12_findBoundary 102 rfl) ?_
                                    exact jn202_n578 0 (by decide) (show (0 : Int) = 0 ∨ 2 < y455 - y565 by omega)
                                  · skip
                                    refine to_iconst (dat dk_X12_findBoundary 100 rfl) (to_goto (dat dk_X12_findBoundary 101 rfl) rfl ?_)
                                    exact jn202_n578 1 (by decide) (show (1 : Int) = 0 ∨ 2 < y455 - y565 by omega)
                            · skip
                              refine to_goto (dat dk_X12_findBoundary 78 rfl) rfl ?_
                              refine to_pick [0, 1, 2] rfl ?_
                              have e615 : h5.2.2 60 23 = x1 := (by rw [wh5]; exact ex1)
                              exact ihn9 (n9 - 1) (by omega) y12 ry12 (show 0 ≤ y12 ∧ y12 ≤ h5.2.2 60 23 by omega) (show h5.2.2 60 23 - y12 ≤ ((n9 - 1 : Nat) : Int) by omega)
                        · skip
                          refine to_aload_n (dat dk_X12_findBoundary 58 rfl) rfl (to_getR 75 g_c13_60 (dat dk_X12_findBoundary 59 rfl) (I3.atS rfl) (I3.atE rfl) (to_iload (dat dk_X12_findBoundary 60 rfl) rfl ?_))
                          obtain ⟨x616, ex616⟩ : ∃ y : Int, h5.2.2 75 (Int.toNat y565) = y := ⟨_, rfl⟩
                          have rx616 := I3.atR (a := 75) (j := Int.toNat y565) rfl
                          rw [ex616] at rx616
                          refine to_baldv (q := 1) ex616 (dat dk_X12_findBoundary 61 rfl) (by decide) (I3.atS rfl) rfl (by decide) (by omega) (to_bipush (dat dk_X12_findBoundary 62 rfl) (by decide) ?_)
                          refine to_ieq 131 (dat dk_X12_findBoundary 63 rfl) rfl (by omega) (by decide) (fun c617 => ?_) (fun c617 => ?_)
                          · skip
                            refine to_iload (dat dk_X12_findBoundary 66 rfl) rfl (to_iload (dat dk_X12_findBoundary 67 rfl) rfl ?_)
                            refine to_ieq 7 (dat dk_X12_findBoundary 68 rfl) rfl ry565 ry455 (fun c618 => ?_) (fun c618 => ?_)
                            · skip
                              refine to_pick [0, 1, 2] rfl ?_
                              have e619 : h5.2.2 60 23 = x1 := (by rw [wh5]; exact ex1)
                              exact ihn9 (n9 - 1) (by omega) y12 ry12 (show 0 ≤ y12 ∧ y12 ≤ h5.2.2 60 23 by omega) (show h5.2.2 60 23 - y12 ≤ ((n9 - 1 : Nat) : Int) by omega)
                            · skip
                              refine to_aload_n (dat dk_X12_findBoundary 69 rfl) rfl (to_getR 75 g_c13_60 (dat dk_X12_findBoundary 70 rfl) (I3.atS rfl) (I3.atE rfl) (to_iload_n (dat dk_X12_findBoundary 71 rfl) rfl (to_iload (dat dk_X12_findBoundary 72 rfl) rfl (to_gst (C := "MailArchiveModel") (f9 := "BOUNDARY") (d9 := "[I") (List.mem_of_getElem? (i := 5) rfl) (tin 8 133 (by decide +kernel) rfl) (dat dk_X12_findBoundary 73 rfl) (to_iconst (dat dk_X12_findBoundary 74 rfl) (to_bipush (dat dk_X12_findBoundary 75 rfl) (by decide) ?_))))))
                              refine to_cI ca_c13_198 (dat dk_X12_findBoundary 76 rfl) (ct_X12_same l h5 I3 75 1300 rfl y450 ry450 y565 ry565 1000204 8 (List.mem_of_getElem? (i := 3) rfl) 0 (by decide) 8 (by decide) (show 0 ≤ y450 ∧ y450 ≤ 640000 by omega) (show -1 ≤ y565 ∧ y565 ≤ 640000 by omega) (show 0 ≤ (0 : Int) ∧ (0 : Int) ≤ 100 by omega) (show 0 ≤ (8 : Int) ∧ (8 : Int) ≤ (8 : Int) by omega) (show y565 ≤ (1300 : Int) ∨ y450 + ((8 : Int) - (0 : Int)) ≤ (1300 : Int) by omega)) rfl trivial rfl (fun x620 h621 rx620 p622 => ?_)
                              obtain ⟨rfl, zx620⟩ := p622
                              refine to_ifne 160 (dat dk_X12_findBoundary 77 rfl) rfl rx620 (fun c623 => ?_) (fun c623 => ?_)
                              · skip
                                have jn202_n626 : ∀ (y624 : Int), (y624 = 0 ∨ y624 = 1) → (y624 = 0 ∨ 2 < y455 - y565) → To l E_X12_findBoundary (202, [(0, .inr (.inr 60)), (1, .inl f), (2, .inl y12), (3, .inl y450), (4, .inl y455), (5, .inl y565)], [.inl y624], h5, 0, 0) (Q_X12_findBoundary h f) := by
                                  intro y624 ry624 c625
                                  refine to_istore (L' := [(0, .inr (.inr 60)), (1, .inl f), (2, .inl y12), (3, .inl y450), (4, .inl y455), (5, .inl y565), (6, .inl y624)]) (dat dk_X12_findBoundary 103 rfl) (by decide) rfl ?_
                                  have jn220_n629 : ∀ (y627 : Int), (I32 y627) → (y565 + 1 ≤ y627 ∧ y627 ≤ y565 + 2) → To l E_X12_findBoundary (220, [(0, .inr (.inr 60)), (1, .inl f), (2, .inl y12), (3, .inl y450), (4, .inl y455), (5, .inl y565), (6, .inl y624)], [.inl y627], h5, 0, 0) (Q_X12_findBoundary h f) := by
                                    intro y627 ry627 c628
                                    refine to_istore (L' := [(0, .inr (.inr 60)), (1, .inl f), (2, .inl y12), (3, .inl y450), (4, .inl y455), (5, .inl y565), (6, .inl y624), (7, .inl y627)]) (dat dk_X12_findBoundary 113 rfl) (by decide) rfl ?_
                                    have e633 : h5.2.2 60 28 = (0 : Int) := (by rw [wh5]; exact wr_eq)
                                    have lp222_n635 : ∀ (n635 : Nat) (y630 : Int) (h631 : Hp), (I32 y630) → (Inv h631) → (Fr [77, 228] h h631) → (y565 < y630 ∧ y630 ≤ 1302) → (h631.2.2 60 28 ≤ y630) → (y455 - y630 ≤ (n635 : Int)) → To l E_X12_findBoundary (222, [(0, .inr (.inr 60)), (1, .inl f), (2, .inl y12), (3, .inl y450), (4, .inl y455), (5, .inl y565), (6, .inl y624), (7, .inl y630)], [], h631, 0, 0) (Q_X12_findBoundary h f) := by
                                      intro n635
                                      induction n635 using Nat.strongRecOn with
                                      | _ n635 ihn635 =>
                                      intro y630 h631 ry630 Ih631 fh631 c632 c634 c636
                                      obtain ⟨x637, ex637⟩ : ∃ y : Int, h631.2.2 60 28 = y := ⟨_, rfl⟩
                                      have rx637 := Ih631.atR (a := 60) (j := 28) rfl
                                      rw [ex637] at rx637
                                      refine to_iload (dat dk_X12_findBoundary 114 rfl) rfl (to_iload (dat dk_X12_findBoundary 115 rfl) rfl ?_)
                                      refine to_ifeq 236 (dat dk_X12_findBoundary 116 rfl) rfl (by omega) (fun c638 => ?_) (fun c638 => ?_)
                                      · skip
                                        refine to_iload (dat dk_X12_findBoundary 121 rfl) rfl ?_
                                        refine to_ige 273 (dat dk_X12_findBoundary 122 rfl) rfl ry630 ry455 (fun c639 => ?_) (fun c639 => ?_)
                                        · skip
                                          exact to_vret rfl (dat dk_X12_findBoundary 140 rfl) (rv_mk ⟨Ih631, fh631⟩)
                                        · skip
                                          refine to_aload_n (dat dk_X12_findBoundary 123 rfl) rfl (to_getR 77 g_c13_66 (dat dk_X12_findBoundary 124 rfl) (Ih631.atS rfl) (Ih631.atE rfl) (to_aload_n (dat dk_X12_findBoundary 125 rfl) rfl (to_getIv (y := x637) ex637 g_c13_234 (dat dk_X12_findBoundary 126 rfl) (Ih631.atS rfl) (to_aload_n (dat dk_X12_findBoundary 127 rfl) rfl (to_getR 75 g_c13_60 (dat dk_X12_findBoundary 128 rfl) (Ih631.atS rfl) (Ih631.atE rfl) (to_iload (dat dk_X12_findBoundary 129 rfl) rfl ?_))))))
                                          obtain ⟨x640, ex640⟩ : ∃ y : Int, h631.2.2 75 (Int.toNat y630) = y := ⟨_, rfl⟩
                                          have rx640 := Ih631.atR (a := 75) (j := Int.toNat y630) rfl
                                          rw [ex640] at rx640
                                          refine to_baldv (q := 1) ex640 (dat dk_X12_findBoundary 130 rfl) (by decide) (Ih631.atS rfl) rfl (by decide) (by omega) (to_bastw (dat dk_X12_findBoundary 131 rfl) (Ih631.atS rfl) rfl (by decide) (by omega) ?_)
                                          intro h643 wh643
                                          have I641 : Inv h643 := by rw [wh643]; exact Ih631.put (a := 77) (j := (Int.toNat x637)) (x := (b8 x640)) (-128) (127) rfl rfl (show (-128 : Int) ≤ (b8 x640) ∧ (b8 x640) ≤ 127 by have := b8_in x640; omega)
                                          have f642 : Fr [77, 228] h h643 := by rw [wh643]; exact Fr.putF (a := 77) (j := (Int.toNat x637)) (x := (b8 x640)) fh631 rfl
                                          refine to_aload_n (dat dk_X12_findBoundary 132 rfl) rfl (to_dup (dat dk_X12_findBoundary 133 rfl) rfl (to_getIv (y := x637) (by rw [wh643]; exact ex637) g_c13_234 (dat dk_X12_findBoundary 134 rfl) (I641.atS rfl) (to_iconst (dat dk_X12_findBoundary 135 rfl) (to_iadd (dat dk_X12_findBoundary 136 rfl) (to_putIw p_c13_234 (dat dk_X12_findBoundary 137 rfl) (I641.atS rfl) ?_)))))
                                          intro h646 wh646
                                          have I644 : Inv h646 := by rw [wh646]; exact I641.put (a := 60) (j := 28) (x := (x637 + 1)) (0) (1300) rfl rfl (show (0 : Int) ≤ (x637 + 1) ∧ (x637 + 1) ≤ 1300 by omega)
                                          have f645 : Fr [77, 228] h h646 := by rw [wh646]; exact Fr.putF (a := 60) (j := 28) (x := (x637 + 1)) f642 rfl
                                          refine to_iinc (L' := [(0, .inr (.inr 60)), (1, .inl f), (2, .inl y12), (3, .inl y450), (4, .inl y455), (5, .inl y565), (6, .inl y624), (7, .inl (y630 + 1))]) (dat dk_X12_findBoundary 138 rfl) rfl (by decide) rfl (to_goto (dat dk_X12_findBoundary 139 rfl) rfl ?_)
                                          have e647 : h646.2.2 60 28 = (x637 + 1) := (by rw [wh646]; exact wr_eq)
                                          exact ihn635 (n635 - 1) (by omega) (y630 + 1) h646 (by omega) I644 f645 (show y565 < (y630 + 1) ∧ (y630 + 1) ≤ 1302 by omega) (show h646.2.2 60 28 ≤ (y630 + 1) by omega) (show y455 - (y630 + 1) ≤ ((n635 - 1 : Nat) : Int) by omega)
                                      · skip
                                        refine to_iload (dat dk_X12_findBoundary 117 rfl) rfl (to_iconst (dat dk_X12_findBoundary 118 rfl) (to_isub (dat dk_X12_findBoundary 119 rfl) (to_goto (dat dk_X12_findBoundary 120 rfl) rfl ?_)))
                                        refine to_ige 273 (dat dk_X12_findBoundary 122 rfl) rfl ry630 (by omega) (fun c648 => ?_) (fun c648 => ?_)
                                        · skip
                                          exact to_vret rfl (dat dk_X12_findBoundary 140 rfl) (rv_mk ⟨Ih631, fh631⟩)
                                        · skip
                                          refine to_aload_n (dat dk_X12_findBoundary 123 rfl) rfl (to_getR 77 g_c13_66 (dat dk_X12_findBoundary 124 rfl) (Ih631.atS rfl) (Ih631.atE rfl) (to_aload_n (dat dk_X12_findBoundary 125 rfl) rfl (to_getIv (y := x637) ex637 g_c13_234 (dat dk_X12_findBoundary 126 rfl) (Ih631.atS rfl) (to_aload_n (dat dk_X12_findBoundary 127 rfl) rfl (to_getR 75 g_c13_60 (dat dk_X12_findBoundary 128 rfl) (Ih631.atS rfl) (Ih631.atE rfl) (to_iload (dat dk_X12_findBoundary 129 rfl) rfl ?_))))))
                                          obtain ⟨x649, ex649⟩ : ∃ y : Int, h631.2.2 75 (Int.toNat y630) = y := ⟨_, rfl⟩
                                          have rx649 := Ih631.atR (a := 75) (j := Int.toNat y630) rfl
                                          rw [ex649] at rx649
                                          refine to_baldv (q := 1) ex649 (dat dk_X12_findBoundary 130 rfl) (by decide) (Ih631.atS rfl) rfl (by decide) (by omega) (to_bastw (dat dk_X12_findBoundary 131 rfl) (Ih631.atS rfl) rfl (by decide) (by omega) ?_)
                                          intro h652 wh652
                                          have I650 : Inv h652 := by rw [wh652]; exact Ih631.put (a := 77) (j := (Int.toNat x637)) (x := (b8 x649)) (-128) (127) rfl rfl (show (-128 : Int) ≤ (b8 x649) ∧ (b8 x649) ≤ 127 by have := b8_in x649; omega)
                                          have f651 : Fr [77, 228] h h652 := by rw [wh652]; exact Fr.putF (a := 77) (j := (Int.toNat x637)) (x := (b8 x649)) fh631 rfl
                                          refine to_aload_n (dat dk_X12_findBoundary 132 rfl) rfl (to_dup (dat dk_X12_findBoundary 133 rfl) rfl (to_getIv (y := x637) (by rw [wh652]; exact ex637) g_c13_234 (dat dk_X12_findBoundary 134 rfl) (I650.atS rfl) (to_iconst (dat dk_X12_findBoundary 135 rfl) (to_iadd (dat dk_X12_findBoundary 136 rfl) (to_putIw p_c13_234 (dat dk_X12_findBoundary 137 rfl) (I650.atS rfl) ?_)))))
                                          intro h655 wh655
                                          have I653 : Inv h655 := by rw [wh655]; exact I650.put (a := 60) (j := 28) (x := (x637 + 1)) (0) (1300) rfl rfl (show (0 : Int) ≤ (x637 + 1) ∧ (x637 + 1) ≤ 1300 by omega)
                                          have f654 : Fr [77, 228] h h655 := by rw [wh655]; exact Fr.putF (a := 60) (j := 28) (x := (x637 + 1)) f651 rfl
                                          refine to_iinc (L' := [(0, .inr (.inr 60)), (1, .inl f), (2, .inl y12), (3, .inl y450), (4, .inl y455), (5, .inl y565), (6, .inl y624), (7, .inl (y630 + 1))]) (dat dk_X12_findBoundary 138 rfl) rfl (by decide) rfl (to_goto (dat dk_X12_findBoundary 139 rfl) rfl ?_)
                                          have e656 : h655.2.2 60 28 = (x637 + 1) := (by rw [wh655]; exact wr_eq)
                                          exact ihn635 (n635 - 1) (by omega) (y630 + 1) h655 (by omega) I653 f654 (show y565 < (y630 + 1) ∧ (y630 + 1) ≤ 1302 by omega) (show h655.2.2 60 28 ≤ (y630 + 1) by omega) (show y455 - (y630 + 1) ≤ ((n635 - 1 : Nat) : Int) by omega)
                                    exact lp222_n635 (y455 - y627).toNat y627 h5 ry627 I3 f4 (show y565 < y627 ∧ y627 ≤ 1302 by omega) (show h5.2.2 60 28 ≤ y627 by omega) (by omega)
                                  refine to_iload (dat dk_X12_findBoundary 104 rfl) rfl ?_
                                  refine to_ifeq 216 (dat dk_X12_findBoundary 105 rfl) rfl (by omega) (fun c657 => ?_) (fun c657 => ?_)
                                  · skip
                                    refine to_iload (dat dk_X12_findBoundary 110 rfl) rfl (to_iconst (dat dk_X12_findBoundary 111 rfl) (to_iadd (dat dk_X12_findBoundary 112 rfl) ?_))
                                    exact jn220_n629 (y565 + 1) (by omega) (show y565 + 1 ≤ (y565 + 1) ∧ (y565 + 1) ≤ y565 + 2 by omega)
                                  · skip
                                    refine to_iload (dat dk_X12_findBoundary 106 rfl) rfl (to_iconst (dat dk_X12_findBoundary 107 rfl) (to_iadd (dat dk_X12_findBoundary 108 rfl) (to_goto (dat dk_X12_findBoundary 109 rfl) rfl ?_)))
                                    exact jn220_n629 (y565 + 2) (by omega) (show y565 + 1 ≤ (y565 + 2) ∧ (y565 + 2) ≤ y565 + 2 by omega)
                                refine to_iload (dat dk_X12_findBoundary 79 rfl) rfl (to_iload (dat dk_X12_findBoundary 80 rfl) rfl (to_isub (dat dk_X12_findBoundary 81 rfl) (to_iconst (dat dk_X12_findBoundary 82 rfl) ?_)))
                                refine to_ile 201 (dat dk_X12_findBoundary 83 rfl) rfl (by omega) (by decide) (fun c658 => ?_) (fun c658 => ?_)
                                · skip
                                  refine to_iconst (dat dk_X12_findBoundary 102 rfl) ?_
                                  exact jn202_n626 0 (by decide) (show (0 : Int) = 0 ∨ 2 < y455 - y565 by omega)
                                · skip
                                  refine to_aload_n (dat dk_X12_findBoundary 84 rfl) rfl (to_getR 75 g_c13_60 (dat dk_X12_findBoundary 85 rfl) (I3.atS rfl) (I3.atE rfl) (to_iload (dat dk_X12_findBoundary 86 rfl) rfl (to_iconst (dat dk_X12_findBoundary 87 rfl) (to_iadd (dat dk_X12_findBoundary 88 rfl) ?_))))
                                  obtain ⟨x659, ex659⟩ : ∃ y : Int, h5.2.2 75 (Int.toNat (y565 + 1)) = y := ⟨_, rfl⟩
                                  have rx659 := I3.atR (a := 75) (j := Int.toNat (y565 + 1)) rfl
                                  rw [ex659] at rx659
                                  refine to_baldv (q := 1) ex659 (dat dk_X12_findBoundary 89 rfl) (by decide) (I3.atS rfl) rfl (by decide) (by omega) (to_bipush (dat dk_X12_findBoundary 90 rfl) (by decide) ?_)
                                  refine to_ine 201 (dat dk_X12_findBoundary 91 rfl) rfl (by omega) (by decide) (fun c660 => ?_) (fun c660 => ?_)
                                  · skip
                                    refine to_iconst (dat dk_X12_findBoundary 102 rfl) ?_
                                    exact jn202_n626 0 (by decide) (show (0 : Int) = 0 ∨ 2 < y455 - y565 by omega)
                                  · skip
                                    refine to_aload_n (dat dk_X12_findBoundary 92 rfl) rfl (to_getR 75 g_c13_60 (dat dk_X12_findBoundary 93 rfl) (I3.atS rfl) (I3.atE rfl) (to_iload (dat dk_X12_findBoundary 94 rfl) rfl (to_iconst (dat dk_X12_findBoundary 95 rfl) (to_isub (dat dk_X12_findBoundary 96 rfl) ?_))))
                                    obtain ⟨x661, ex661⟩ : ∃ y : Int, h5.2.2 75 (Int.toNat (y455 - 1)) = y := ⟨_, rfl⟩
                                    have rx661 := I3.atR (a := 75) (j := Int.toNat (y455 - 1)) rfl
                                    rw [ex661] at rx661
                                    refine to_baldv (q := 1) ex661 (dat dk_X12_findBoundary 97 rfl) (by decide) (I3.atS rfl) rfl (by decide) (by omega) (to_bipush (dat dk_X12_findBoundary 98 rfl) (by decide) ?_)
                                    refine to_ine 201 (dat dk_X12_findBoundary 99 rfl) rfl (by omega) (by decide) (fun c662 => ?_) (fun c662 => ?_)
                                    · skip
                                      refine to_iconst (dat dk_X12_findBoundary 102 rfl) ?_
                                      exact jn202_n626 0 (by decide) (show (0 : Int) = 0 ∨ 2 < y455 - y565 by omega)
                                    · skip
                                      refine to_iconst (dat dk_X12_findBoundary 100 rfl) (to_goto (dat dk_X12_findBoundary 101 rfl) rfl ?_)
                                      exact jn202_n626 1 (by decide) (show (1 : Int) = 0 ∨ 2 < y455 - y565 by omega)
                              · skip
                                refine to_goto (dat dk_X12_findBoundary 78 rfl) rfl ?_
                                refine to_pick [0, 1, 2] rfl ?_
                                have e663 : h5.2.2 60 23 = x1 := (by rw [wh5]; exact ex1)
                                exact ihn9 (n9 - 1) (by omega) y12 ry12 (show 0 ≤ y12 ∧ y12 ≤ h5.2.2 60 23 by omega) (show h5.2.2 60 23 - y12 ≤ ((n9 - 1 : Nat) : Int) by omega)
                          · skip
                            refine to_iinc (L' := [(0, .inr (.inr 60)), (1, .inl f), (2, .inl y12), (3, .inl y450), (4, .inl y455), (5, .inl (y565 + 1))]) (dat dk_X12_findBoundary 64 rfl) rfl (by decide) rfl (to_goto (dat dk_X12_findBoundary 65 rfl) rfl ?_)
                            exact ihn567 (n567 - 1) (by omega) (y565 + 1) (by omega) (show y450 ≤ (y565 + 1) ∧ (y565 + 1) ≤ y455 by omega) (show y455 - (y565 + 1) ≤ ((n567 - 1 : Nat) : Int) by omega)
                      exact lp106_n567 (y455 - y450).toNat y450 ry450 (show y450 ≤ y450 ∧ y450 ≤ y455 by omega) (by omega)
                    · skip
                      refine to_iinc (L' := [(0, .inr (.inr 60)), (1, .inl f), (2, .inl y12), (3, .inl y450), (4, .inl (y455 + (-1)))]) (dat dk_X12_findBoundary 51 rfl) rfl (by decide) rfl (to_goto (dat dk_X12_findBoundary 52 rfl) rfl ?_)
                      have e664 : h5.2.2 60 23 = x1 := (by rw [wh5]; exact ex1)
                      exact ihn458 (n458 - 1) (by omega) (y455 + (-1)) (by omega) (show y450 ≤ (y455 + (-1)) ∧ (y455 + (-1)) ≤ h5.2.2 60 23 by omega) (show (y455 + (-1)) ≤ ((n458 - 1 : Nat) : Int) by omega)
                exact lp76_n458 (y12).toNat y12 ry12 (show y450 ≤ y12 ∧ y12 ≤ h5.2.2 60 23 by omega) (by omega)
              · skip
                refine to_aload_n (dat dk_X12_findBoundary 32 rfl) rfl (to_getR 75 g_c13_60 (dat dk_X12_findBoundary 33 rfl) (I3.atS rfl) (I3.atE rfl) (to_iload_n (dat dk_X12_findBoundary 34 rfl) rfl ?_))
                obtain ⟨x665, ex665⟩ : ∃ y : Int, h5.2.2 75 (Int.toNat y450) = y := ⟨_, rfl⟩
                have rx665 := I3.atR (a := 75) (j := Int.toNat y450) rfl
                rw [ex665] at rx665
                refine to_baldv (q := 1) ex665 (dat dk_X12_findBoundary 35 rfl) (by decide) (I3.atS rfl) rfl (by decide) (by omega) ?_
                refine to_cI ca_c13_182 (dat dk_X12_findBoundary 36 rfl) (ct_X12_isBlank l h5 I3 x665 (by omega)) rfl trivial rfl (fun x666 h667 rx666 p668 => ?_)
                obtain ⟨rfl, zx666⟩ := p668
                refine to_ifeq 76 (dat dk_X12_findBoundary 37 rfl) rfl rx666 (fun c669 => ?_) (fun c669 => ?_)
                · skip
                  have e671 : h5.2.2 60 23 = x1 := (by rw [wh5]; exact ex1)
                  have lp76_n673 : ∀ (n673 : Nat) (y670 : Int), (I32 y670) → (y450 ≤ y670 ∧ y670 ≤ h5.2.2 60 23) → (y670 ≤ (n673 : Int)) → To l E_X12_findBoundary (76, [(0, .inr (.inr 60)), (1, .inl f), (2, .inl y12), (3, .inl y450), (4, .inl y670)], [], h5, 0, 0) (Q_X12_findBoundary h f) := by
                    intro n673
                    induction n673 using Nat.strongRecOn with
                    | _ n673 ihn673 =>
                    intro y670 ry670 c672 c674
                    refine to_iload (dat dk_X12_findBoundary 40 rfl) rfl (to_iload_n (dat dk_X12_findBoundary 41 rfl) rfl ?_)
                    refine to_ile 103 (dat dk_X12_findBoundary 42 rfl) rfl ry670 ry450 (fun c675 => ?_) (fun c675 => ?_)
                    · skip
                      refine to_iload_n (dat dk_X12_findBoundary 53 rfl) rfl (to_istore (L' := [(0, .inr (.inr 60)), (1, .inl f), (2, .inl y12), (3, .inl y450), (4, .inl y670), (5, .inl y450)]) (dat dk_X12_findBoundary 54 rfl) (by decide) rfl ?_)
                      have lp106_n678 : ∀ (n678 : Nat) (y676 : Int), (I32 y676) → (y450 ≤ y676 ∧ y676 ≤ y670) → (y670 - y676 ≤ (n678 : Int)) → To l E_X12_findBoundary (106, [(0, .inr (.inr 60)), (1, .inl f), (2, .inl y12), (3, .inl y450), (4, .inl y670), (5, .inl y676)], [], h5, 0, 0) (Q_X12_findBoundary h f) := by
                        intro n678
                        induction n678 using Nat.strongRecOn with
                        | _ n678 ihn678 =>
                        intro y676 ry676 c677 c679
                        refine to_iload (dat dk_X12_findBoundary 55 rfl) rfl (to_iload (dat dk_X12_findBoundary 56 rfl) rfl ?_)
                        refine to_ige 131 (dat dk_X12_findBoundary 57 rfl) rfl ry676 ry670 (fun c680 => ?_) (fun c680 => ?_)
                        · skip
                          refine to_iload (dat dk_X12_findBoundary 66 rfl) rfl (to_iload (dat dk_X12_findBoundary 67 rfl) rfl ?_)
                          refine to_ieq 7 (dat dk_X12_findBoundary 68 rfl) rfl ry676 ry670 (fun c681 => ?_) (fun c681 => ?_)
                          · skip
                            refine to_pick [0, 1, 2] rfl ?_
                            have e682 : h5.2.2 60 23 = x1 := (by rw [wh5]; exact ex1)
                            exact ihn9 (n9 - 1) (by omega) y12 ry12 (show 0 ≤ y12 ∧ y12 ≤ h5.2.2 60 23 by omega) (show h5.2.2 60 23 - y12 ≤ ((n9 - 1 : Nat) : Int) by omega)
                          · skip
                            refine to_aload_n (dat dk_X12_findBoundary 69 rfl) rfl (to_getR 75 g_c13_60 (dat dk_X12_findBoundary 70 rfl) (I3.atS rfl) (I3.atE rfl) (to_iload_n (dat dk_X12_findBoundary 71 rfl) rfl (to_iload (dat dk_X12_findBoundary 72 rfl) rfl (to_gst (C := "MailArchiveModel") (f9 := "BOUNDARY") (d9 := "[I") (List.mem_of_getElem? (i := 5) rfl) (tin 8 133 (by decide +kernel) rfl) (dat dk_X12_findBoundary 73 rfl) (to_iconst (dat dk_X12_findBoundary 74 rfl) (to_bipush (dat dk_X12_findBoundary 75 rfl) (by decide) ?_))))))
                            refine to_cI ca_c13_198 (dat dk_X12_findBoundary 76 rfl) (ct_X12_same l h5 I3 75 1300 rfl y450 ry450 y676 ry676 1000204 8 (List.mem_of_getElem? (i := 3) rfl) 0 (by decide) 8 (by decide) (show 0 ≤ y450 ∧ y450 ≤ 640000 by omega) (show -1 ≤ y676 ∧ y676 ≤ 640000 by omega) (show 0 ≤ (0 : Int) ∧ (0 : Int) ≤ 100 by omega) (show 0 ≤ (8 : Int) ∧ (8 : Int) ≤ (8 : Int) by omega) (show y676 ≤ (1300 : Int) ∨ y450 + ((8 : Int) - (0 : Int)) ≤ (1300 : Int) by omega)) rfl trivial rfl (fun x683 h684 rx683 p685 => ?_)
                            obtain ⟨rfl, zx683⟩ := p685
                            refine to_ifne 160 (dat dk_X12_findBoundary 77 rfl) rfl rx683 (fun c686 => ?_) (fun c686 => ?_)
                            · skip
                              have jn202_n689 : ∀ (y687 : Int), (y687 = 0 ∨ y687 = 1) → (y687 = 0 ∨ 2 < y670 - y676) → To l E_X12_findBoundary (202, [(0, .inr (.inr 60)), (1, .inl f), (2, .inl y12), (3, .inl y450), (4, .inl y670), (5, .inl y676)], [.inl y687], h5, 0, 0) (Q_X12_findBoundary h f) := by
                                intro y687 ry687 c688
                                refine to_istore (L' := [(0, .inr (.inr 60)), (1, .inl f), (2, .inl y12), (3, .inl y450), (4, .inl y670), (5, .inl y676), (6, .inl y687)]) (dat dk_X12_findBoundary 103 rfl) (by decide) rfl ?_
                                have jn220_n692 : ∀ (y690 : Int), (I32 y690) → (y676 + 1 ≤ y690 ∧ y690 ≤ y676 + 2) → To l E_X12_findBoundary (220, [(0, .inr (.inr 60)), (1, .inl f), (2, .inl y12), (3, .inl y450), (4, .inl y670), (5, .inl y676), (6, .inl y687)], [.inl y690], h5, 0, 0) (Q_X12_findBoundary h f) := by
                                  intro y690 ry690 c691
                                  refine to_istore (L' := [(0, .inr (.inr 60)), (1, .inl f), (2, .inl y12), (3, .inl y450), (4, .inl y670), (5, .inl y676), (6, .inl y687), (7, .inl y690)]) (dat dk_X12_findBoundary 113 rfl) (by decide) rfl ?_
                                  have e696 : h5.2.2 60 28 = (0 : Int) := (by rw [wh5]; exact wr_eq)
                                  have lp222_n698 : ∀ (n698 : Nat) (y693 : Int) (h694 : Hp), (I32 y693) → (Inv h694) → (Fr [77, 228] h h694) → (y676 < y693 ∧ y693 ≤ 1302) → (h694.2.2 60 28 ≤ y693) → (y670 - y693 ≤ (n698 : Int)) → To l E_X12_findBoundary (222, [(0, .inr (.inr 60)), (1, .inl f), (2, .inl y12), (3, .inl y450), (4, .inl y670), (5, .inl y676), (6, .inl y687), (7, .inl y693)], [], h694, 0, 0) (Q_X12_findBoundary h f) := by
                                    intro n698
                                    induction n698 using Nat.strongRecOn with
                                    | _ n698 ihn698 =>
                                    intro y693 h694 ry693 Ih694 fh694 c695 c697 c699
                                    obtain ⟨x700, ex700⟩ : ∃ y : Int, h694.2.2 60 28 = y := ⟨_, rfl⟩
                                    have rx700 := Ih694.atR (a := 60) (j := 28) rfl
                                    rw [ex700] at rx700
                                    refine to_iload (dat dk_X12_findBoundary 114 rfl) rfl (to_iload (dat dk_X12_findBoundary 115 rfl) rfl ?_)
                                    refine to_ifeq 236 (dat dk_X12_findBoundary 116 rfl) rfl (by omega) (fun c701 => ?_) (fun c701 => ?_)
                                    · skip
                                      refine to_iload (dat dk_X12_findBoundary 121 rfl) rfl ?_
                                      refine to_ige 273 (dat dk_X12_findBoundary 122 rfl) rfl ry693 ry670 (fun c702 => ?_) (fun c702 => ?_)
                                      · skip
                                        exact to_vret rfl (dat dk_X12_findBoundary 140 rfl) (rv_mk ⟨Ih694, fh694⟩)
                                      · skip
                                        refine to_aload_n (dat dk_X12_findBoundary 123 rfl) rfl (to_getR 77 g_c13_66 (dat dk_X12_findBoundary 124 rfl) (Ih694.atS rfl) (Ih694.atE rfl) (to_aload_n (dat dk_X12_findBoundary 125 rfl) rfl (to_getIv (y := x700) ex700 g_c13_234 (dat dk_X12_findBoundary 126 rfl) (Ih694.atS rfl) (to_aload_n (dat dk_X12_findBoundary 127 rfl) rfl (to_getR 75 g_c13_60 (dat dk_X12_findBoundary 128 rfl) (Ih694.atS rfl) (Ih694.atE rfl) (to_iload (dat dk_X12_findBoundary 129 rfl) rfl ?_))))))
                                        obtain ⟨x703, ex703⟩ : ∃ y : Int, h694.2.2 75 (Int.toNat y693) = y := ⟨_, rfl⟩
                                        have rx703 := Ih694.atR (a := 75) (j := Int.toNat y693) rfl
                                        rw [ex703] at rx703
                                        refine to_baldv (q := 1) ex703 (dat dk_X12_findBoundary 130 rfl) (by decide) (Ih694.atS rfl) rfl (by decide) (by omega) (to_bastw (dat dk_X12_findBoundary 131 rfl) (Ih694.atS rfl) rfl (by decide) (by omega) ?_)
                                        intro h706 wh706
                                        have I704 : Inv h706 := by rw [wh706]; exact Ih694.put (a := 77) (j := (Int.toNat x700)) (x := (b8 x703)) (-128) (127) rfl rfl (show (-128 : Int) ≤ (b8 x703) ∧ (b8 x703) ≤ 127 by have := b8_in x703; omega)
                                        have f705 : Fr [77, 228] h h706 := by rw [wh706]; exact Fr.putF (a := 77) (j := (Int.toNat x700)) (x := (b8 x703)) fh694 rfl
                                        refine to_aload_n (dat dk_X12_findBoundary 132 rfl) rfl (to_dup (dat dk_X12_findBoundary 133 rfl) rfl (to_getIv (y := x700) (by rw [wh706]; exact ex700) g_c13_234 (dat dk_X12_findBoundary 134 rfl) (I704.atS rfl) (to_iconst (dat dk_X12_findBoundary 135 rfl) (to_iadd (dat dk_X12_findBoundary 136 rfl) (to_putIw p_c13_234 (dat dk_X12_findBoundary 137 rfl) (I704.atS rfl) ?_)))))
                                        intro h709 wh709
                                        have I707 : Inv h709 := by rw [wh709]; exact I704.put (a := 60) (j := 28) (x := (x700 + 1)) (0) (1300) rfl rfl (show (0 : Int) ≤ (x700 + 1) ∧ (x700 + 1) ≤ 1300 by omega)
                                        have f708 : Fr [77, 228] h h709 := by rw [wh709]; exact Fr.putF (a := 60) (j := 28) (x := (x700 + 1)) f705 rfl
                                        refine to_iinc (L' := [(0, .inr (.inr 60)), (1, .inl f), (2, .inl y12), (3, .inl y450), (4, .inl y670), (5, .inl y676), (6, .inl y687), (7, .inl (y693 + 1))]) (dat dk_X12_findBoundary 138 rfl) rfl (by decide) rfl (to_goto (dat dk_X12_findBoundary 139 rfl) rfl ?_)
                                        have e710 : h709.2.2 60 28 = (x700 + 1) := (by rw [wh709]; exact wr_eq)
                                        exact ihn698 (n698 - 1) (by omega) (y693 + 1) h709 (by omega) I707 f708 (show y676 < (y693 + 1) ∧ (y693 + 1) ≤ 1302 by omega) (show h709.2.2 60 28 ≤ (y693 + 1) by omega) (show y670 - (y693 + 1) ≤ ((n698 - 1 : Nat) : Int) by omega)
                                    · skip
                                      refine to_iload (dat dk_X12_findBoundary 117 rfl) rfl (to_iconst (dat dk_X12_findBoundary 118 rfl) (to_isub (dat dk_X12_findBoundary 119 rfl) (to_goto (dat dk_X12_findBoundary 120 rfl) rfl ?_)))
                                      refine to_ige 273 (dat dk_X12_findBoundary 122 rfl) rfl ry693 (by omega) (fun c711 => ?_) (fun c711 => ?_)
                                      · skip
                                        exact to_vret rfl (dat dk_X12_findBoundary 140 rfl) (rv_mk ⟨Ih694, fh694⟩)
                                      · skip
                                        refine to_aload_n (dat dk_X12_findBoundary 123 rfl) rfl (to_getR 77 g_c13_66 (dat dk_X12_findBoundary 124 rfl) (Ih694.atS rfl) (Ih694.atE rfl) (to_aload_n (dat dk_X12_findBoundary 125 rfl) rfl (to_getIv (y := x700) ex700 g_c13_234 (dat dk_X12_findBoundary 126 rfl) (Ih694.atS rfl) (to_aload_n (dat dk_X12_findBoundary 127 rfl) rfl (to_getR 75 g_c13_60 (dat dk_X12_findBoundary 128 rfl) (Ih694.atS rfl) (Ih694.atE rfl) (to_iload (dat dk_X12_findBoundary 129 rfl) rfl ?_))))))
                                        obtain ⟨x712, ex712⟩ : ∃ y : Int, h694.2.2 75 (Int.toNat y693) = y := ⟨_, rfl⟩
                                        have rx712 := Ih694.atR (a := 75) (j := Int.toNat y693) rfl
                                        rw [ex712] at rx712
                                        refine to_baldv (q := 1) ex712 (dat dk_X12_findBoundary 130 rfl) (by decide) (Ih694.atS rfl) rfl (by decide) (by omega) (to_bastw (dat dk_X12_findBoundary 131 rfl) (Ih694.atS rfl) rfl (by decide) (by omega) ?_)
                                        intro h715 wh715
                                        have I713 : Inv h715 := by rw [wh715]; exact Ih694.put (a := 77) (j := (Int.toNat x700)) (x := (b8 x712)) (-128) (127) rfl rfl (show (-128 : Int) ≤ (b8 x712) ∧ (b8 x712) ≤ 127 by have := b8_in x712; omega)
                                        have f714 : Fr [77, 228] h h715 := by rw [wh715]; exact Fr.putF (a := 77) (j := (Int.toNat x700)) (x := (b8 x712)) fh694 rfl
                                        refine to_aload_n (dat dk_X12_findBoundary 132 rfl) rfl (to_dup (dat dk_X12_findBoundary 133 rfl) rfl (to_getIv (y := x700) (by rw [wh715]; exact ex700) g_c13_234 (dat dk_X12_findBoundary 134 rfl) (I713.atS rfl) (to_iconst (dat dk_X12_findBoundary 135 rfl) (to_iadd (dat dk_X12_findBoundary 136 rfl) (to_putIw p_c13_234 (dat dk_X12_findBoundary 137 rfl) (I713.atS rfl) ?_)))))
                                        intro h718 wh718
                                        have I716 : Inv h718 := by rw [wh718]; exact I713.put (a := 60) (j := 28) (x := (x700 + 1)) (0) (1300) rfl rfl (show (0 : Int) ≤ (x700 + 1) ∧ (x700 + 1) ≤ 1300 by omega)
                                        have f717 : Fr [77, 228] h h718 := by rw [wh718]; exact Fr.putF (a := 60) (j := 28) (x := (x700 + 1)) f714 rfl
                                        refine to_iinc (L' := [(0, .inr (.inr 60)), (1, .inl f), (2, .inl y12), (3, .inl y450), (4, .inl y670), (5, .inl y676), (6, .inl y687), (7, .inl (y693 + 1))]) (dat dk_X12_findBoundary 138 rfl) rfl (by decide) rfl (to_goto (dat dk_X12_findBoundary 139 rfl) rfl ?_)
                                        have e719 : h718.2.2 60 28 = (x700 + 1) := (by rw [wh718]; exact wr_eq)
                                        exact ihn698 (n698 - 1) (by omega) (y693 + 1) h718 (by omega) I716 f717 (show y676 < (y693 + 1) ∧ (y693 + 1) ≤ 1302 by omega) (show h718.2.2 60 28 ≤ (y693 + 1) by omega) (show y670 - (y693 + 1) ≤ ((n698 - 1 : Nat) : Int) by omega)
                                  exact lp222_n698 (y670 - y690).toNat y690 h5 ry690 I3 f4 (show y676 < y690 ∧ y690 ≤ 1302 by omega) (show h5.2.2 60 28 ≤ y690 by omega) (by omega)
                                refine to_iload (dat dk_X12_findBoundary 104 rfl) rfl ?_
                                refine to_ifeq 216 (dat dk_X12_findBoundary 105 rfl) rfl (by omega) (fun c720 => ?_) (fun c720 => ?_)
                                · skip
                                  refine to_iload (dat dk_X12_findBoundary 110 rfl) rfl (to_iconst (dat dk_X12_findBoundary 111 rfl) (to_iadd (dat dk_X12_findBoundary 112 rfl) ?_))
                                  exact jn220_n692 (y676 + 1) (by omega) (show y676 + 1 ≤ (y676 + 1) ∧ (y676 + 1) ≤ y676 + 2 by omega)
                                · skip
                                  refine to_iload (dat dk_X12_findBoundary 106 rfl) rfl (to_iconst (dat dk_X12_findBoundary 107 rfl) (to_iadd (dat dk_X12_findBoundary 108 rfl) (to_goto (dat dk_X12_findBoundary 109 rfl) rfl ?_)))
                                  exact jn220_n692 (y676 + 2) (by omega) (show y676 + 1 ≤ (y676 + 2) ∧ (y676 + 2) ≤ y676 + 2 by omega)
                              refine to_iload (dat dk_X12_findBoundary 79 rfl) rfl (to_iload (dat dk_X12_findBoundary 80 rfl) rfl (to_isub (dat dk_X12_findBoundary 81 rfl) (to_iconst (dat dk_X12_findBoundary 82 rfl) ?_)))
                              refine to_ile 201 (dat dk_X12_findBoundary 83 rfl) rfl (by omega) (by decide) (fun c721 => ?_) (fun c721 => ?_)
                              · skip
                                refine to_iconst (dat dk_X12_findBoundary 102 rfl) ?_
                                exact jn202_n689 0 (by decide) (show (0 : Int) = 0 ∨ 2 < y670 - y676 by omega)
                              · skip
                                refine to_aload_n (dat dk_X12_findBoundary 84 rfl) rfl (to_getR 75 g_c13_60 (dat dk_X12_findBoundary 85 rfl) (I3.atS rfl) (I3.atE rfl) (to_iload (dat dk_X12_findBoundary 86 rfl) rfl (to_iconst (dat dk_X12_findBoundary 87 rfl) (to_iadd (dat dk_X12_findBoundary 88 rfl) ?_))))
                                obtain ⟨x722, ex722⟩ : ∃ y : Int, h5.2.2 75 (Int.toNat (y676 + 1)) = y := ⟨_, rfl⟩
                                have rx722 := I3.atR (a := 75) (j := Int.toNat (y676 + 1)) rfl
                                rw [ex722] at rx722
                                refine to_baldv (q := 1) ex722 (dat dk_X12_findBoundary 89 rfl) (by decide) (I3.atS rfl) rfl (by decide) (by omega) (to_bipush (dat dk_X12_findBoundary 90 rfl) (by decide) ?_)
                                refine to_ine 201 (dat dk_X12_findBoundary 91 rfl) rfl (by omega) (by decide) (fun c723 => ?_) (fun c723 => ?_)
                                · skip
                                  refine to_iconst (dat dk_X12_findBoundary 102 rfl) ?_
                                  exact jn202_n689 0 (by decide) (show (0 : Int) = 0 ∨ 2 < y670 - y676 by omega)
                                · skip
                                  refine to_aload_n (dat dk_X12_findBoundary 92 rfl) rfl (to_getR 75 g_c13_60 (dat dk_X12_findBoundary 93 rfl) (I3.atS rfl) (I3.atE rfl) (to_iload (dat dk_X12_findBoundary 94 rfl) rfl (to_iconst (dat dk_X12_findBoundary 95 rfl) (to_isub (dat dk_X12_findBoundary 96 rfl) ?_))))
                                  obtain ⟨x724, ex724⟩ : ∃ y : Int, h5.2.2 75 (Int.toNat (y670 - 1)) = y := ⟨_, rfl⟩
                                  have rx724 := I3.atR (a := 75) (j := Int.toNat (y670 - 1)) rfl
                                  rw [ex724] at rx724
                                  refine to_baldv (q := 1) ex724 (dat dk_X12_findBoundary 97 rfl) (by decide) (I3.atS rfl) rfl (by decide) (by omega) (to_bipush (dat dk_X12_findBoundary 98 rfl) (by decide) ?_)
                                  refine to_ine 201 (dat dk_X12_findBoundary 99 rfl) rfl (by omega) (by decide) (fun c725 => ?_) (fun c725 => ?_)
                                  · skip
                                    refine to_iconst (dat dk_X12_findBoundary 102 rfl) ?_
                                    exact jn202_n689 0 (by decide) (show (0 : Int) = 0 ∨ 2 < y670 - y676 by omega)
                                  · skip
                                    refine to_iconst (dat dk_X12_findBoundary 100 rfl) (to_goto (dat dk_X12_findBoundary 101 rfl) rfl ?_)
                                    exact jn202_n689 1 (by decide) (show (1 : Int) = 0 ∨ 2 < y670 - y676 by omega)
                            · skip
                              refine to_goto (dat dk_X12_findBoundary 78 rfl) rfl ?_
                              refine to_pick [0, 1, 2] rfl ?_
                              have e726 : h5.2.2 60 23 = x1 := (by rw [wh5]; exact ex1)
                              exact ihn9 (n9 - 1) (by omega) y12 ry12 (show 0 ≤ y12 ∧ y12 ≤ h5.2.2 60 23 by omega) (show h5.2.2 60 23 - y12 ≤ ((n9 - 1 : Nat) : Int) by omega)
                        · skip
                          refine to_aload_n (dat dk_X12_findBoundary 58 rfl) rfl (to_getR 75 g_c13_60 (dat dk_X12_findBoundary 59 rfl) (I3.atS rfl) (I3.atE rfl) (to_iload (dat dk_X12_findBoundary 60 rfl) rfl ?_))
                          obtain ⟨x727, ex727⟩ : ∃ y : Int, h5.2.2 75 (Int.toNat y676) = y := ⟨_, rfl⟩
                          have rx727 := I3.atR (a := 75) (j := Int.toNat y676) rfl
                          rw [ex727] at rx727
                          refine to_baldv (q := 1) ex727 (dat dk_X12_findBoundary 61 rfl) (by decide) (I3.atS rfl) rfl (by decide) (by omega) (to_bipush (dat dk_X12_findBoundary 62 rfl) (by decide) ?_)
                          refine to_ieq 131 (dat dk_X12_findBoundary 63 rfl) rfl (by omega) (by decide) (fun c728 => ?_) (fun c728 => ?_)
                          · skip
                            refine to_iload (dat dk_X12_findBoundary 66 rfl) rfl (to_iload (dat dk_X12_findBoundary 67 rfl) rfl ?_)
                            refine to_ieq 7 (dat dk_X12_findBoundary 68 rfl) rfl ry676 ry670 (fun c729 => ?_) (fun c729 => ?_)
                            · skip
                              refine to_pick [0, 1, 2] rfl ?_
                              have e730 : h5.2.2 60 23 = x1 := (by rw [wh5]; exact ex1)
                              exact ihn9 (n9 - 1) (by omega) y12 ry12 (show 0 ≤ y12 ∧ y12 ≤ h5.2.2 60 23 by omega) (show h5.2.2 60 23 - y12 ≤ ((n9 - 1 : Nat) : Int) by omega)
                            · skip
                              refine to_aload_n (dat dk_X12_findBoundary 69 rfl) rfl (to_getR 75 g_c13_60 (dat dk_X12_findBoundary 70 rfl) (I3.atS rfl) (I3.atE rfl) (to_iload_n (dat dk_X12_findBoundary 71 rfl) rfl (to_iload (dat dk_X12_findBoundary 72 rfl) rfl (to_gst (C := "MailArchiveModel") (f9 := "BOUNDARY") (d9 := "[I") (List.mem_of_getElem? (i := 5) rfl) (tin 8 133 (by decide +kernel) rfl) (dat dk_X12_findBoundary 73 rfl) (to_iconst (dat dk_X12_findBoundary 74 rfl) (to_bipush (dat dk_X12_findBoundary 75 rfl) (by decide) ?_))))))
                              refine to_cI ca_c13_198 (dat dk_X12_findBoundary 76 rfl) (ct_X12_same l h5 I3 75 1300 rfl y450 ry450 y676 ry676 1000204 8 (List.mem_of_getElem? (i := 3) rfl) 0 (by decide) 8 (by decide) (show 0 ≤ y450 ∧ y450 ≤ 640000 by omega) (show -1 ≤ y676 ∧ y676 ≤ 640000 by omega) (show 0 ≤ (0 : Int) ∧ (0 : Int) ≤ 100 by omega) (show 0 ≤ (8 : Int) ∧ (8 : Int) ≤ (8 : Int) by omega) (show y676 ≤ (1300 : Int) ∨ y450 + ((8 : Int) - (0 : Int)) ≤ (1300 : Int) by omega)) rfl trivial rfl (fun x731 h732 rx731 p733 => ?_)
                              obtain ⟨rfl, zx731⟩ := p733
                              refine to_ifne 160 (dat dk_X12_findBoundary 77 rfl) rfl rx731 (fun c734 => ?_) (fun c734 => ?_)
                              · skip
                                have jn202_n737 : ∀ (y735 : Int), (y735 = 0 ∨ y735 = 1) → (y735 = 0 ∨ 2 < y670 - y676) → To l E_X12_findBoundary (202, [(0, .inr (.inr 60)), (1, .inl f), (2, .inl y12), (3, .inl y450), (4, .inl y670), (5, .inl y676)], [.inl y735], h5, 0, 0) (Q_X12_findBoundary h f) := by
                                  intro y735 ry735 c736
                                  refine to_istore (L' := [(0, .inr (.inr 60)), (1, .inl f), (2, .inl y12), (3, .inl y450), (4, .inl y670), (5, .inl y676), (6, .inl y735)]) (dat dk_X12_findBoundary 103 rfl) (by decide) rfl ?_
                                  have jn220_n740 : ∀ (y738 : Int), (I32 y738) → (y676 + 1 ≤ y738 ∧ y738 ≤ y676 + 2) → To l E_X12_findBoundary (220, [(0, .inr (.inr 60)), (1, .inl f), (2, .inl y12), (3, .inl y450), (4, .inl y670), (5, .inl y676), (6, .inl y735)], [.inl y738], h5, 0, 0) (Q_X12_findBoundary h f) := by
                                    intro y738 ry738 c739
                                    refine to_istore (L' := [(0, .inr (.inr 60)), (1, .inl f), (2, .inl y12), (3, .inl y450), (4, .inl y670), (5, .inl y676), (6, .inl y735), (7, .inl y738)]) (dat dk_X12_findBoundary 113 rfl) (by decide) rfl ?_
                                    have e744 : h5.2.2 60 28 = (0 : Int) := (by rw [wh5]; exact wr_eq)
                                    have lp222_n746 : ∀ (n746 : Nat) (y741 : Int) (h742 : Hp), (I32 y741) → (Inv h742) → (Fr [77, 228] h h742) → (y676 < y741 ∧ y741 ≤ 1302) → (h742.2.2 60 28 ≤ y741) → (y670 - y741 ≤ (n746 : Int)) → To l E_X12_findBoundary (222, [(0, .inr (.inr 60)), (1, .inl f), (2, .inl y12), (3, .inl y450), (4, .inl y670), (5, .inl y676), (6, .inl y735), (7, .inl y741)], [], h742, 0, 0) (Q_X12_findBoundary h f) := by
                                      intro n746
                                      induction n746 using Nat.strongRecOn with
                                      | _ n746 ihn746 =>
                                      intro y741 h742 ry741 Ih742 fh742 c743 c745 c747
                                      obtain ⟨x748, ex748⟩ : ∃ y : Int, h742.2.2 60 28 = y := ⟨_, rfl⟩
                                      have rx748 := Ih742.atR (a := 60) (j := 28) rfl
                                      rw [ex748] at rx748
                                      refine to_iload (dat dk_X12_findBoundary 114 rfl) rfl (to_iload (dat dk_X12_findBoundary 115 rfl) rfl ?_)
                                      refine to_ifeq 236 (dat dk_X12_findBoundary 116 rfl) rfl (by omega) (fun c749 => ?_) (fun c749 => ?_)
                                      · skip
                                        refine to_iload (dat dk_X12_findBoundary 121 rfl) rfl ?_
                                        refine to_ige 273 (dat dk_X12_findBoundary 122 rfl) rfl ry741 ry670 (fun c750 => ?_) (fun c750 => ?_)
                                        · skip
                                          exact to_vret rfl (dat dk_X12_findBoundary 140 rfl) (rv_mk ⟨Ih742, fh742⟩)
                                        · skip
                                          refine to_aload_n (dat dk_X12_findBoundary 123 rfl) rfl (to_getR 77 g_c13_66 (dat dk_X12_findBoundary 124 rfl) (Ih742.atS rfl) (Ih742.atE rfl) (to_aload_n (dat dk_X12_findBoundary 125 rfl) rfl (to_getIv (y := x748) ex748 g_c13_234 (dat dk_X12_findBoundary 126 rfl) (Ih742.atS rfl) (to_aload_n (dat dk_X12_findBoundary 127 rfl) rfl (to_getR 75 g_c13_60 (dat dk_X12_findBoundary 128 rfl) (Ih742.atS rfl) (Ih742.atE rfl) (to_iload (dat dk_X12_findBoundary 129 rfl) rfl ?_))))))
                                          obtain ⟨x751, ex751⟩ : ∃ y : Int, h742.2.2 75 (Int.toNat y741) = y := ⟨_, rfl⟩
                                          have rx751 := Ih742.atR (a := 75) (j := Int.toNat y741) rfl
                                          rw [ex751] at rx751
                                          refine to_baldv (q := 1) ex751 (dat dk_X12_findBoundary 130 rfl) (by decide) (Ih742.atS rfl) rfl (by decide) (by omega) (to_bastw (dat dk_X12_findBoundary 131 rfl) (Ih742.atS rfl) rfl (by decide) (by omega) ?_)
                                          intro h754 wh754
                                          have I752 : Inv h754 := by rw [wh754]; exact Ih742.put (a := 77) (j := (Int.toNat x748)) (x := (b8 x751)) (-128) (127) rfl rfl (show (-128 : Int) ≤ (b8 x751) ∧ (b8 x751) ≤ 127 by have := b8_in x751; omega)
                                          have f753 : Fr [77, 228] h h754 := by rw [wh754]; exact Fr.putF (a := 77) (j := (Int.toNat x748)) (x := (b8 x751)) fh742 rfl
                                          refine to_aload_n (dat dk_X12_findBoundary 132 rfl) rfl (to_dup (dat dk_X12_findBoundary 133 rfl) rfl (to_getIv (y := x748) (by rw [wh754]; exact ex748) g_c13_234 (dat dk_X12_findBoundary 134 rfl) (I752.atS rfl) (to_iconst (dat dk_X12_findBoundary 135 rfl) (to_iadd (dat dk_X12_findBoundary 136 rfl) (to_putIw p_c13_234 (dat dk_X12_findBoundary 137 rfl) (I752.atS rfl) ?_)))))
                                          intro h757 wh757
                                          have I755 : Inv h757 := by rw [wh757]; exact I752.put (a := 60) (j := 28) (x := (x748 + 1)) (0) (1300) rfl rfl (show (0 : Int) ≤ (x748 + 1) ∧ (x748 + 1) ≤ 1300 by omega)
                                          have f756 : Fr [77, 228] h h757 := by rw [wh757]; exact Fr.putF (a := 60) (j := 28) (x := (x748 + 1)) f753 rfl
                                          refine to_iinc (L' := [(0, .inr (.inr 60)), (1, .inl f), (2, .inl y12), (3, .inl y450), (4, .inl y670), (5, .inl y676), (6, .inl y735), (7, .inl (y741 + 1))]) (dat dk_X12_findBoundary 138 rfl) rfl (by decide) rfl (to_goto (dat dk_X12_findBoundary 139 rfl) rfl ?_)
                                          have e758 : h757.2.2 60 28 = (x748 + 1) := (by rw [wh757]; exact wr_eq)
                                          exact ihn746 (n746 - 1) (by omega) (y741 + 1) h757 (by omega) I755 f756 (show y676 < (y741 + 1) ∧ (y741 + 1) ≤ 1302 by omega) (show h757.2.2 60 28 ≤ (y741 + 1) by omega) (show y670 - (y741 + 1) ≤ ((n746 - 1 : Nat) : Int) by omega)
                                      · skip
                                        refine to_iload (dat dk_X12_findBoundary 117 rfl) rfl (to_iconst (dat dk_X12_findBoundary 118 rfl) (to_isub (dat dk_X12_findBoundary 119 rfl) (to_goto (dat dk_X12_findBoundary 120 rfl) rfl ?_)))
                                        refine to_ige 273 (dat dk_X12_findBoundary 122 rfl) rfl ry741 (by omega) (fun c759 => ?_) (fun c759 => ?_)
                                        · skip
                                          exact to_vret rfl (dat dk_X12_findBoundary 140 rfl) (rv_mk ⟨Ih742, fh742⟩)
                                        · skip
                                          refine to_aload_n (dat dk_X12_findBoundary 123 rfl) rfl (to_getR 77 g_c13_66 (dat dk_X12_findBoundary 124 rfl) (Ih742.atS rfl) (Ih742.atE rfl) (to_aload_n (dat dk_X12_findBoundary 125 rfl) rfl (to_getIv (y := x748) ex748 g_c13_234 (dat dk_X12_findBoundary 126 rfl) (Ih742.atS rfl) (to_aload_n (dat dk_X12_findBoundary 127 rfl) rfl (to_getR 75 g_c13_60 (dat dk_X12_findBoundary 128 rfl) (Ih742.atS rfl) (Ih742.atE rfl) (to_iload (dat dk_X12_findBoundary 129 rfl) rfl ?_))))))
                                          obtain ⟨x760, ex760⟩ : ∃ y : Int, h742.2.2 75 (Int.toNat y741) = y := ⟨_, rfl⟩
                                          have rx760 := Ih742.atR (a := 75) (j := Int.toNat y741) rfl
                                          rw [ex760] at rx760
                                          refine to_baldv (q := 1) ex760 (dat dk_X12_findBoundary 130 rfl) (by decide) (Ih742.atS rfl) rfl (by decide) (by omega) (to_bastw (dat dk_X12_findBoundary 131 rfl) (Ih742.atS rfl) rfl (by decide) (by omega) ?_)
                                          intro h763 wh763
                                          have I761 : Inv h763 := by rw [wh763]; exact Ih742.put (a := 77) (j := (Int.toNat x748)) (x := (b8 x760)) (-128) (127) rfl rfl (show (-128 : Int) ≤ (b8 x760) ∧ (b8 x760) ≤ 127 by have := b8_in x760; omega)
                                          have f762 : Fr [77, 228] h h763 := by rw [wh763]; exact Fr.putF (a := 77) (j := (Int.toNat x748)) (x := (b8 x760)) fh742 rfl
                                          refine to_aload_n (dat dk_X12_findBoundary 132 rfl) rfl (to_dup (dat dk_X12_findBoundary 133 rfl) rfl (to_getIv (y := x748) (by rw [wh763]; exact ex748) g_c13_234 (dat dk_X12_findBoundary 134 rfl) (I761.atS rfl) (to_iconst (dat dk_X12_findBoundary 135 rfl) (to_iadd (dat dk_X12_findBoundary 136 rfl) (to_putIw p_c13_234 (dat dk_X12_findBoundary 137 rfl) (I761.atS rfl) ?_)))))
                                          intro h766 wh766
                                          have I764 : Inv h766 := by rw [wh766]; exact I761.put (a := 60) (j := 28) (x := (x748 + 1)) (0) (1300) rfl rfl (show (0 : Int) ≤ (x748 + 1) ∧ (x748 + 1) ≤ 1300 by omega)
                                          have f765 : Fr [77, 228] h h766 := by rw [wh766]; exact Fr.putF (a := 60) (j := 28) (x := (x748 + 1)) f762 rfl
                                          refine to_iinc (L' := [(0, .inr (.inr 60)), (1, .inl f), (2, .inl y12), (3, .inl y450), (4, .inl y670), (5, .inl y676), (6, .inl y735), (7, .inl (y741 + 1))]) (dat dk_X12_findBoundary 138 rfl) rfl (by decide) rfl (to_goto (dat dk_X12_findBoundary 139 rfl) rfl ?_)
                                          have e767 : h766.2.2 60 28 = (x748 + 1) := (by rw [wh766]; exact wr_eq)
                                          exact ihn746 (n746 - 1) (by omega) (y741 + 1) h766 (by omega) I764 f765 (show y676 < (y741 + 1) ∧ (y741 + 1) ≤ 1302 by omega) (show h766.2.2 60 28 ≤ (y741 + 1) by omega) (show y670 - (y741 + 1) ≤ ((n746 - 1 : Nat) : Int) by omega)
                                    exact lp222_n746 (y670 - y738).toNat y738 h5 ry738 I3 f4 (show y676 < y738 ∧ y738 ≤ 1302 by omega) (show h5.2.2 60 28 ≤ y738 by omega) (by omega)
                                  refine to_iload (dat dk_X12_findBoundary 104 rfl) rfl ?_
                                  refine to_ifeq 216 (dat dk_X12_findBoundary 105 rfl) rfl (by omega) (fun c768 => ?_) (fun c768 => ?_)
                                  · skip
                                    refine to_iload (dat dk_X12_findBoundary 110 rfl) rfl (to_iconst (dat dk_X12_findBoundary 111 rfl) (to_iadd (dat dk_X12_findBoundary 112 rfl) ?_))
                                    exact jn220_n740 (y676 + 1) (by omega) (show y676 + 1 ≤ (y676 + 1) ∧ (y676 + 1) ≤ y676 + 2 by omega)
                                  · skip
                                    refine to_iload (dat dk_X12_findBoundary 106 rfl) rfl (to_iconst (dat dk_X12_findBoundary 107 rfl) (to_iadd (dat dk_X12_findBoundary 108 rfl) (to_goto (dat dk_X12_findBoundary 109 rfl) rfl ?_)))
                                    exact jn220_n740 (y676 + 2) (by omega) (show y676 + 1 ≤ (y676 + 2) ∧ (y676 + 2) ≤ y676 + 2 by omega)
                                refine to_iload (dat dk_X12_findBoundary 79 rfl) rfl (to_iload (dat dk_X12_findBoundary 80 rfl) rfl (to_isub (dat dk_X12_findBoundary 81 rfl) (to_iconst (dat dk_X12_findBoundary 82 rfl) ?_)))
                                refine to_ile 201 (dat dk_X12_findBoundary 83 rfl) rfl (by omega) (by decide) (fun c769 => ?_) (fun c769 => ?_)
                                · skip
                                  refine to_iconst (dat dk_X12_findBoundary 102 rfl) ?_
                                  exact jn202_n737 0 (by decide) (show (0 : Int) = 0 ∨ 2 < y670 - y676 by omega)
                                · skip
                                  refine to_aload_n (dat dk_X12_findBoundary 84 rfl) rfl (to_getR 75 g_c13_60 (dat dk_X12_findBoundary 85 rfl) (I3.atS rfl) (I3.atE rfl) (to_iload (dat dk_X12_findBoundary 86 rfl) rfl (to_iconst (dat dk_X12_findBoundary 87 rfl) (to_iadd (dat dk_X12_findBoundary 88 rfl) ?_))))
                                  obtain ⟨x770, ex770⟩ : ∃ y : Int, h5.2.2 75 (Int.toNat (y676 + 1)) = y := ⟨_, rfl⟩
                                  have rx770 := I3.atR (a := 75) (j := Int.toNat (y676 + 1)) rfl
                                  rw [ex770] at rx770
                                  refine to_baldv (q := 1) ex770 (dat dk_X12_findBoundary 89 rfl) (by decide) (I3.atS rfl) rfl (by decide) (by omega) (to_bipush (dat dk_X12_findBoundary 90 rfl) (by decide) ?_)
                                  refine to_ine 201 (dat dk_X12_findBoundary 91 rfl) rfl (by omega) (by decide) (fun c771 => ?_) (fun c771 => ?_)
                                  · skip
                                    refine to_iconst (dat dk_X12_findBoundary 102 rfl) ?_
                                    exact jn202_n737 0 (by decide) (show (0 : Int) = 0 ∨ 2 < y670 - y676 by omega)
                                  · skip
                                    refine to_aload_n (dat dk_X12_findBoundary 92 rfl) rfl (to_getR 75 g_c13_60 (dat dk_X12_findBoundary 93 rfl) (I3.atS rfl) (I3.atE rfl) (to_iload (dat dk_X12_findBoundary 94 rfl) rfl (to_iconst (dat dk_X12_findBoundary 95 rfl) (to_isub (dat dk_X12_findBoundary 96 rfl) ?_))))
                                    obtain ⟨x772, ex772⟩ : ∃ y : Int, h5.2.2 75 (Int.toNat (y670 - 1)) = y := ⟨_, rfl⟩
                                    have rx772 := I3.atR (a := 75) (j := Int.toNat (y670 - 1)) rfl
                                    rw [ex772] at rx772
                                    refine to_baldv (q := 1) ex772 (dat dk_X12_findBoundary 97 rfl) (by decide) (I3.atS rfl) rfl (by decide) (by omega) (to_bipush (dat dk_X12_findBoundary 98 rfl) (by decide) ?_)
                                    refine to_ine 201 (dat dk_X12_findBoundary 99 rfl) rfl (by omega) (by decide) (fun c773 => ?_) (fun c773 => ?_)
                                    · skip
                                      refine to_iconst (dat dk_X12_findBoundary 102 rfl) ?_
                                      exact jn202_n737 0 (by decide) (show (0 : Int) = 0 ∨ 2 < y670 - y676 by omega)
                                    · skip
                                      refine to_iconst (dat dk_X12_findBoundary 100 rfl) (to_goto (dat dk_X12_findBoundary 101 rfl) rfl ?_)
                                      exact jn202_n737 1 (by decide) (show (1 : Int) = 0 ∨ 2 < y670 - y676 by omega)
                              · skip
                                refine to_goto (dat dk_X12_findBoundary 78 rfl) rfl ?_
                                refine to_pick [0, 1, 2] rfl ?_
                                have e774 : h5.2.2 60 23 = x1 := (by rw [wh5]; exact ex1)
                                exact ihn9 (n9 - 1) (by omega) y12 ry12 (show 0 ≤ y12 ∧ y12 ≤ h5.2.2 60 23 by omega) (show h5.2.2 60 23 - y12 ≤ ((n9 - 1 : Nat) : Int) by omega)
                          · skip
                            refine to_iinc (L' := [(0, .inr (.inr 60)), (1, .inl f), (2, .inl y12), (3, .inl y450), (4, .inl y670), (5, .inl (y676 + 1))]) (dat dk_X12_findBoundary 64 rfl) rfl (by decide) rfl (to_goto (dat dk_X12_findBoundary 65 rfl) rfl ?_)
                            exact ihn678 (n678 - 1) (by omega) (y676 + 1) (by omega) (show y450 ≤ (y676 + 1) ∧ (y676 + 1) ≤ y670 by omega) (show y670 - (y676 + 1) ≤ ((n678 - 1 : Nat) : Int) by omega)
                      exact lp106_n678 (y670 - y450).toNat y450 ry450 (show y450 ≤ y450 ∧ y450 ≤ y670 by omega) (by omega)
                    · skip
                      refine to_aload_n (dat dk_X12_findBoundary 43 rfl) rfl (to_getR 75 g_c13_60 (dat dk_X12_findBoundary 44 rfl) (I3.atS rfl) (I3.atE rfl) (to_iload (dat dk_X12_findBoundary 45 rfl) rfl (to_iconst (dat dk_X12_findBoundary 46 rfl) (to_isub (dat dk_X12_findBoundary 47 rfl) ?_))))
                      obtain ⟨x775, ex775⟩ : ∃ y : Int, h5.2.2 75 (Int.toNat (y670 - 1)) = y := ⟨_, rfl⟩
                      have rx775 := I3.atR (a := 75) (j := Int.toNat (y670 - 1)) rfl
                      rw [ex775] at rx775
                      refine to_baldv (q := 1) ex775 (dat dk_X12_findBoundary 48 rfl) (by decide) (I3.atS rfl) rfl (by decide) (by omega) ?_
                      refine to_cI ca_c13_182 (dat dk_X12_findBoundary 49 rfl) (ct_X12_isBlank l h5 I3 x775 (by omega)) rfl trivial rfl (fun x776 h777 rx776 p778 => ?_)
                      obtain ⟨rfl, zx776⟩ := p778
                      refine to_ifeq 103 (dat dk_X12_findBoundary 50 rfl) rfl rx776 (fun c779 => ?_) (fun c779 => ?_)
                      · skip
                        refine to_iload_n (dat dk_X12_findBoundary 53 rfl) rfl (to_istore (L' := [(0, .inr (.inr 60)), (1, .inl f), (2, .inl y12), (3, .inl y450), (4, .inl y670), (5, .inl y450)]) (dat dk_X12_findBoundary 54 rfl) (by decide) rfl ?_)
                        have lp106_n782 : ∀ (n782 : Nat) (y780 : Int), (I32 y780) → (y450 ≤ y780 ∧ y780 ≤ y670) → (y670 - y780 ≤ (n782 : Int)) → To l E_X12_findBoundary (106, [(0, .inr (.inr 60)), (1, .inl f), (2, .inl y12), (3, .inl y450), (4, .inl y670), (5, .inl y780)], [], h5, 0, 0) (Q_X12_findBoundary h f) := by
                          intro n782
                          induction n782 using Nat.strongRecOn with
                          | _ n782 ihn782 =>
                          intro y780 ry780 c781 c783
                          refine to_iload (dat dk_X12_findBoundary 55 rfl) rfl (to_iload (dat dk_X12_findBoundary 56 rfl) rfl ?_)
                          refine to_ige 131 (dat dk_X12_findBoundary 57 rfl) rfl ry780 ry670 (fun c784 => ?_) (fun c784 => ?_)
                          · skip
                            refine to_iload (dat dk_X12_findBoundary 66 rfl) rfl (to_iload (dat dk_X12_findBoundary 67 rfl) rfl ?_)
                            refine to_ieq 7 (dat dk_X12_findBoundary 68 rfl) rfl ry780 ry670 (fun c785 => ?_) (fun c785 => ?_)
                            · skip
                              refine to_pick [0, 1, 2] rfl ?_
                              have e786 : h5.2.2 60 23 = x1 := (by rw [wh5]; exact ex1)
                              exact ihn9 (n9 - 1) (by omega) y12 ry12 (show 0 ≤ y12 ∧ y12 ≤ h5.2.2 60 23 by omega) (show h5.2.2 60 23 - y12 ≤ ((n9 - 1 : Nat) : Int) by omega)
                            · skip
                              refine to_aload_n (dat dk_X12_findBoundary 69 rfl) rfl (to_getR 75 g_c13_60 (dat dk_X12_findBoundary 70 rfl) (I3.atS rfl) (I3.atE rfl) (to_iload_n (dat dk_X12_findBoundary 71 rfl) rfl (to_iload (dat dk_X12_findBoundary 72 rfl) rfl (to_gst (C := "MailArchiveModel") (f9 := "BOUNDARY") (d9 := "[I") (List.mem_of_getElem? (i := 5) rfl) (tin 8 133 (by decide +kernel) rfl) (dat dk_X12_findBoundary 73 rfl) (to_iconst (dat dk_X12_findBoundary 74 rfl) (to_bipush (dat dk_X12_findBoundary 75 rfl) (by decide) ?_))))))
                              refine to_cI ca_c13_198 (dat dk_X12_findBoundary 76 rfl) (ct_X12_same l h5 I3 75 1300 rfl y450 ry450 y780 ry780 1000204 8 (List.mem_of_getElem? (i := 3) rfl) 0 (by decide) 8 (by decide) (show 0 ≤ y450 ∧ y450 ≤ 640000 by omega) (show -1 ≤ y780 ∧ y780 ≤ 640000 by omega) (show 0 ≤ (0 : Int) ∧ (0 : Int) ≤ 100 by omega) (show 0 ≤ (8 : Int) ∧ (8 : Int) ≤ (8 : Int) by omega) (show y780 ≤ (1300 : Int) ∨ y450 + ((8 : Int) - (0 : Int)) ≤ (1300 : Int) by omega)) rfl trivial rfl (fun x787 h788 rx787 p789 => ?_)
                              obtain ⟨rfl, zx787⟩ := p789
                              refine to_ifne 160 (dat dk_X12_findBoundary 77 rfl) rfl rx787 (fun c790 => ?_) (fun c790 => ?_)
                              · skip
                                have jn202_n793 : ∀ (y791 : Int), (y791 = 0 ∨ y791 = 1) → (y791 = 0 ∨ 2 < y670 - y780) → To l E_X12_findBoundary (202, [(0, .inr (.inr 60)), (1, .inl f), (2, .inl y12), (3, .inl y450), (4, .inl y670), (5, .inl y780)], [.inl y791], h5, 0, 0) (Q_X12_findBoundary h f) := by
                                  intro y791 ry791 c792
                                  refine to_istore (L' := [(0, .inr (.inr 60)), (1, .inl f), (2, .inl y12), (3, .inl y450), (4, .inl y670), (5, .inl y780), (6, .inl y791)]) (dat dk_X12_findBoundary 103 rfl) (by decide) rfl ?_
                                  have jn220_n796 : ∀ (y794 : Int), (I32 y794) → (y780 + 1 ≤ y794 ∧ y794 ≤ y780 + 2) → To l E_X12_findBoundary (220, [(0, .inr (.inr 60)), (1, .inl f), (2, .inl y12), (3, .inl y450), (4, .inl y670), (5, .inl y780), (6, .inl y791)], [.inl y794], h5, 0, 0) (Q_X12_findBoundary h f) := by
                                    intro y794 ry794 c795
                                    refine to_istore (L' := [(0, .inr (.inr 60)), (1, .inl f), (2, .inl y12), (3, .inl y450), (4, .inl y670), (5, .inl y780), (6, .inl y791), (7, .inl y794)]) (dat dk_X12_findBoundary 113 rfl) (by decide) rfl ?_
                                    have e800 : h5.2.2 60 28 = (0 : Int) := (by rw [wh5]; exact wr_eq)
                                    have lp222_n802 : ∀ (n802 : Nat) (y797 : Int) (h798 : Hp), (I32 y797) → (Inv h798) → (Fr [77, 228] h h798) → (y780 < y797 ∧ y797 ≤ 1302) → (h798.2.2 60 28 ≤ y797) → (y670 - y797 ≤ (n802 : Int)) → To l E_X12_findBoundary (222, [(0, .inr (.inr 60)), (1, .inl f), (2, .inl y12), (3, .inl y450), (4, .inl y670), (5, .inl y780), (6, .inl y791), (7, .inl y797)], [], h798, 0, 0) (Q_X12_findBoundary h f) := by
                                      intro n802
                                      induction n802 using Nat.strongRecOn with
                                      | _ n802 ihn802 =>
                                      intro y797 h798 ry797 Ih798 fh798 c799 c801 c803
                                      obtain ⟨x804, ex804⟩ : ∃ y : Int, h798.2.2 60 28 = y := ⟨_, rfl⟩
                                      have rx804 := Ih798.atR (a := 60) (j := 28) rfl
                                      rw [ex804] at rx804
                                      refine to_iload (dat dk_X12_findBoundary 114 rfl) rfl (to_iload (dat dk_X12_findBoundary 115 rfl) rfl ?_)
                                      refine to_ifeq 236 (dat dk_X12_findBoundary 116 rfl) rfl (by omega) (fun c805 => ?_) (fun c805 => ?_)
                                      · skip
                                        refine to_iload (dat dk_X12_findBoundary 121 rfl) rfl ?_
                                        refine to_ige 273 (dat dk_X12_findBoundary 122 rfl) rfl ry797 ry670 (fun c806 => ?_) (fun c806 => ?_)
                                        · skip
                                          exact to_vret rfl (dat dk_X12_findBoundary 140 rfl) (rv_mk ⟨Ih798, fh798⟩)
                                        · skip
                                          refine to_aload_n (dat dk_X12_findBoundary 123 rfl) rfl (to_getR 77 g_c13_66 (dat dk_X12_findBoundary 124 rfl) (Ih798.atS rfl) (Ih798.atE rfl) (to_aload_n (dat dk_X12_findBoundary 125 rfl) rfl (to_getIv (y := x804) ex804 g_c13_234 (dat dk_X12_findBoundary 126 rfl) (Ih798.atS rfl) (to_aload_n (dat dk_X12_findBoundary 127 rfl) rfl (to_getR 75 g_c13_60 (dat dk_X12_findBoundary 128 rfl) (Ih798.atS rfl) (Ih798.atE rfl) (to_iload (dat dk_X12_findBoundary 129 rfl) rfl ?_))))))
                                          obtain ⟨x807, ex807⟩ : ∃ y : Int, h798.2.2 75 (Int.toNat y797) = y := ⟨_, rfl⟩
                                          have rx807 := Ih798.atR (a := 75) (j := Int.toNat y797) rfl
                                          rw [ex807] at rx807
                                          refine to_baldv (q := 1) ex807 (dat dk_X12_findBoundary 130 rfl) (by decide) (Ih798.atS rfl) rfl (by decide) (by omega) (to_bastw (dat dk_X12_findBoundary 131 rfl) (Ih798.atS rfl) rfl (by decide) (by omega) ?_)
                                          intro h810 wh810
                                          have I808 : Inv h810 := by rw [wh810]; exact Ih798.put (a := 77) (j := (Int.toNat x804)) (x := (b8 x807)) (-128) (127) rfl rfl (show (-128 : Int) ≤ (b8 x807) ∧ (b8 x807) ≤ 127 by have := b8_in x807; omega)
                                          have f809 : Fr [77, 228] h h810 := by rw [wh810]; exact Fr.putF (a := 77) (j := (Int.toNat x804)) (x := (b8 x807)) fh798 rfl
                                          refine to_aload_n (dat dk_X12_findBoundary 132 rfl) rfl (to_dup (dat dk_X12_findBoundary 133 rfl) rfl (to_getIv (y := x804) (by rw [wh810]; exact ex804) g_c13_234 (dat dk_X12_findBoundary 134 rfl) (I808.atS rfl) (to_iconst (dat dk_X12_findBoundary 135 rfl) (to_iadd (dat dk_X12_findBoundary 136 rfl) (to_putIw p_c13_234 (dat dk_X12_findBoundary 137 rfl) (I808.atS rfl) ?_)))))
                                          intro h813 wh813
                                          have I811 : Inv h813 := by rw [wh813]; exact I808.put (a := 60) (j := 28) (x := (x804 + 1)) (0) (1300) rfl rfl (show (0 : Int) ≤ (x804 + 1) ∧ (x804 + 1) ≤ 1300 by omega)
                                          have f812 : Fr [77, 228] h h813 := by rw [wh813]; exact Fr.putF (a := 60) (j := 28) (x := (x804 + 1)) f809 rfl
                                          refine to_iinc (L' := [(0, .inr (.inr 60)), (1, .inl f), (2, .inl y12), (3, .inl y450), (4, .inl y670), (5, .inl y780), (6, .inl y791), (7, .inl (y797 + 1))]) (dat dk_X12_findBoundary 138 rfl) rfl (by decide) rfl (to_goto (dat dk_X12_findBoundary 139 rfl) rfl ?_)
                                          have e814 : h813.2.2 60 28 = (x804 + 1) := (by rw [wh813]; exact wr_eq)
                                          exact ihn802 (n802 - 1) (by omega) (y797 + 1) h813 (by omega) I811 f812 (show y780 < (y797 + 1) ∧ (y797 + 1) ≤ 1302 by omega) (show h813.2.2 60 28 ≤ (y797 + 1) by omega) (show y670 - (y797 + 1) ≤ ((n802 - 1 : Nat) : Int) by omega)
                                      · skip
                                        refine to_iload (dat dk_X12_findBoundary 117 rfl) rfl (to_iconst (dat dk_X12_findBoundary 118 rfl) (to_isub (dat dk_X12_findBoundary 119 rfl) (to_goto (dat dk_X12_findBoundary 120 rfl) rfl ?_)))
                                        refine to_ige 273 (dat dk_X12_findBoundary 122 rfl) rfl ry797 (by omega) (fun c815 => ?_) (fun c815 => ?_)
                                        · skip
                                          exact to_vret rfl (dat dk_X12_findBoundary 140 rfl) (rv_mk ⟨Ih798, fh798⟩)
                                        · skip
                                          refine to_aload_n (dat dk_X12_findBoundary 123 rfl) rfl (to_getR 77 g_c13_66 (dat dk_X12_findBoundary 124 rfl) (Ih798.atS rfl) (Ih798.atE rfl) (to_aload_n (dat dk_X12_findBoundary 125 rfl) rfl (to_getIv (y := x804) ex804 g_c13_234 (dat dk_X12_findBoundary 126 rfl) (Ih798.atS rfl) (to_aload_n (dat dk_X12_findBoundary 127 rfl) rfl (to_getR 75 g_c13_60 (dat dk_X12_findBoundary 128 rfl) (Ih798.atS rfl) (Ih798.atE rfl) (to_iload (dat dk_X12_findBoundary 129 rfl) rfl ?_))))))
                                          obtain ⟨x816, ex816⟩ : ∃ y : Int, h798.2.2 75 (Int.toNat y797) = y := ⟨_, rfl⟩
                                          have rx816 := Ih798.atR (a := 75) (j := Int.toNat y797) rfl
                                          rw [ex816] at rx816
                                          refine to_baldv (q := 1) ex816 (dat dk_X12_findBoundary 130 rfl) (by decide) (Ih798.atS rfl) rfl (by decide) (by omega) (to_bastw (dat dk_X12_findBoundary 131 rfl) (Ih798.atS rfl) rfl (by decide) (by omega) ?_)
                                          intro h819 wh819
                                          have I817 : Inv h819 := by rw [wh819]; exact Ih798.put (a := 77) (j := (Int.toNat x804)) (x := (b8 x816)) (-128) (127) rfl rfl (show (-128 : Int) ≤ (b8 x816) ∧ (b8 x816) ≤ 127 by have := b8_in x816; omega)
                                          have f818 : Fr [77, 228] h h819 := by rw [wh819]; exact Fr.putF (a := 77) (j := (Int.toNat x804)) (x := (b8 x816)) fh798 rfl
                                          refine to_aload_n (dat dk_X12_findBoundary 132 rfl) rfl (to_dup (dat dk_X12_findBoundary 133 rfl) rfl (to_getIv (y := x804) (by rw [wh819]; exact ex804) g_c13_234 (dat dk_X12_findBoundary 134 rfl) (I817.atS rfl) (to_iconst (dat dk_X12_findBoundary 135 rfl) (to_iadd (dat dk_X12_findBoundary 136 rfl) (to_putIw p_c13_234 (dat dk_X12_findBoundary 137 rfl) (I817.atS rfl) ?_)))))
                                          intro h822 wh822
                                          have I820 : Inv h822 := by rw [wh822]; exact I817.put (a := 60) (j := 28) (x := (x804 + 1)) (0) (1300) rfl rfl (show (0 : Int) ≤ (x804 + 1) ∧ (x804 + 1) ≤ 1300 by omega)
                                          have f821 : Fr [77, 228] h h822 := by rw [wh822]; exact Fr.putF (a := 60) (j := 28) (x := (x804 + 1)) f818 rfl
                                          refine to_iinc (L' := [(0, .inr (.inr 60)), (1, .inl f), (2, .inl y12), (3, .inl y450), (4, .inl y670), (5, .inl y780), (6, .inl y791), (7, .inl (y797 + 1))]) (dat dk_X12_findBoundary 138 rfl) rfl (by decide) rfl (to_goto (dat dk_X12_findBoundary 139 rfl) rfl ?_)
                                          have e823 : h822.2.2 60 28 = (x804 + 1) := (by rw [wh822]; exact wr_eq)
                                          exact ihn802 (n802 - 1) (by omega) (y797 + 1) h822 (by omega) I820 f821 (show y780 < (y797 + 1) ∧ (y797 + 1) ≤ 1302 by omega) (show h822.2.2 60 28 ≤ (y797 + 1) by omega) (show y670 - (y797 + 1) ≤ ((n802 - 1 : Nat) : Int) by omega)
                                    exact lp222_n802 (y670 - y794).toNat y794 h5 ry794 I3 f4 (show y780 < y794 ∧ y794 ≤ 1302 by omega) (show h5.2.2 60 28 ≤ y794 by omega) (by omega)
                                  refine to_iload (dat dk_X12_findBoundary 104 rfl) rfl ?_
                                  refine to_ifeq 216 (dat dk_X12_findBoundary 105 rfl) rfl (by omega) (fun c824 => ?_) (fun c824 => ?_)
                                  · skip
                                    refine to_iload (dat dk_X12_findBoundary 110 rfl) rfl (to_iconst (dat dk_X12_findBoundary 111 rfl) (to_iadd (dat dk_X12_findBoundary 112 rfl) ?_))
                                    exact jn220_n796 (y780 + 1) (by omega) (show y780 + 1 ≤ (y780 + 1) ∧ (y780 + 1) ≤ y780 + 2 by omega)
                                  · skip
                                    refine to_iload (dat dk_X12_findBoundary 106 rfl) rfl (to_iconst (dat dk_X12_findBoundary 107 rfl) (to_iadd (dat dk_X12_findBoundary 108 rfl) (to_goto (dat dk_X12_findBoundary 109 rfl) rfl ?_)))
                                    exact jn220_n796 (y780 + 2) (by omega) (show y780 + 1 ≤ (y780 + 2) ∧ (y780 + 2) ≤ y780 + 2 by omega)
                                refine to_iload (dat dk_X12_findBoundary 79 rfl) rfl (to_iload (dat dk_X12_findBoundary 80 rfl) rfl (to_isub (dat dk_X12_findBoundary 81 rfl) (to_iconst (dat dk_X12_findBoundary 82 rfl) ?_)))
                                refine to_ile 201 (dat dk_X12_findBoundary 83 rfl) rfl (by omega) (by decide) (fun c825 => ?_) (fun c825 => ?_)
                                · skip
                                  refine to_iconst (dat dk_X12_findBoundary 102 rfl) ?_
                                  exact jn202_n793 0 (by decide) (show (0 : Int) = 0 ∨ 2 < y670 - y780 by omega)
                                · skip
                                  refine to_aload_n (dat dk_X12_findBoundary 84 rfl) rfl (to_getR 75 g_c13_60 (dat dk_X12_findBoundary 85 rfl) (I3.atS rfl) (I3.atE rfl) (to_iload (dat dk_X12_findBoundary 86 rfl) rfl (to_iconst (dat dk_X12_findBoundary 87 rfl) (to_iadd (dat dk_X12_findBoundary 88 rfl) ?_))))
                                  obtain ⟨x826, ex826⟩ : ∃ y : Int, h5.2.2 75 (Int.toNat (y780 + 1)) = y := ⟨_, rfl⟩
                                  have rx826 := I3.atR (a := 75) (j := Int.toNat (y780 + 1)) rfl
                                  rw [ex826] at rx826
                                  refine to_baldv (q := 1) ex826 (dat dk_X12_findBoundary 89 rfl) (by decide) (I3.atS rfl) rfl (by decide) (by omega) (to_bipush (dat dk_X12_findBoundary 90 rfl) (by decide) ?_)
                                  refine to_ine 201 (dat dk_X12_findBoundary 91 rfl) rfl (by omega) (by decide) (fun c827 => ?_) (fun c827 => ?_)
                                  · skip
                                    refine to_iconst (dat dk_X12_findBoundary 102 rfl) ?_
                                    exact jn202_n793 0 (by decide) (show (0 : Int) = 0 ∨ 2 < y670 - y780 by omega)
                                  · skip
                                    refine to_aload_n (dat dk_X12_findBoundary 92 rfl) rfl (to_getR 75 g_c13_60 (dat dk_X12_findBoundary 93 rfl) (I3.atS rfl) (I3.atE rfl) (to_iload (dat dk_X12_findBoundary 94 rfl) rfl (to_iconst (dat dk_X12_findBoundary 95 rfl) (to_isub (dat dk_X12_findBoundary 96 rfl) ?_))))
                                    obtain ⟨x828, ex828⟩ : ∃ y : Int, h5.2.2 75 (Int.toNat (y670 - 1)) = y := ⟨_, rfl⟩
                                    have rx828 := I3.atR (a := 75) (j := Int.toNat (y670 - 1)) rfl
                                    rw [ex828] at rx828
                                    refine to_baldv (q := 1) ex828 (dat dk_X12_findBoundary 97 rfl) (by decide) (I3.atS rfl) rfl (by decide) (by omega) (to_bipush (dat dk_X12_findBoundary 98 rfl) (by decide) ?_)
                                    refine to_ine 201 (dat dk_X12_findBoundary 99 rfl) rfl (by omega) (by decide) (fun c829 => ?_) (fun c829 => ?_)
                                    · skip
                                      refine to_iconst (dat dk_X12_findBoundary 102 rfl) ?_
                                      exact jn202_n793 0 (by decide) (show (0 : Int) = 0 ∨ 2 < y670 - y780 by omega)
                                    · skip
                                      refine to_iconst (dat dk_X12_findBoundary 100 rfl) (to_goto (dat dk_X12_findBoundary 101 rfl) rfl ?_)
                                      exact jn202_n793 1 (by decide) (show (1 : Int) = 0 ∨ 2 < y670 - y780 by omega)
                              · skip
                                refine to_goto (dat dk_X12_findBoundary 78 rfl) rfl ?_
                                refine to_pick [0, 1, 2] rfl ?_
                                have e830 : h5.2.2 60 23 = x1 := (by rw [wh5]; exact ex1)
                                exact ihn9 (n9 - 1) (by omega) y12 ry12 (show 0 ≤ y12 ∧ y12 ≤ h5.2.2 60 23 by omega) (show h5.2.2 60 23 - y12 ≤ ((n9 - 1 : Nat) : Int) by omega)
                          · skip
                            refine to_aload_n (dat dk_X12_findBoundary 58 rfl) rfl (to_getR 75 g_c13_60 (dat dk_X12_findBoundary 59 rfl) (I3.atS rfl) (I3.atE rfl) (to_iload (dat dk_X12_findBoundary 60 rfl) rfl ?_))
                            obtain ⟨x831, ex831⟩ : ∃ y : Int, h5.2.2 75 (Int.toNat y780) = y := ⟨_, rfl⟩
                            have rx831 := I3.atR (a := 75) (j := Int.toNat y780) rfl
                            rw [ex831] at rx831
                            refine to_baldv (q := 1) ex831 (dat dk_X12_findBoundary 61 rfl) (by decide) (I3.atS rfl) rfl (by decide) (by omega) (to_bipush (dat dk_X12_findBoundary 62 rfl) (by decide) ?_)
                            refine to_ieq 131 (dat dk_X12_findBoundary 63 rfl) rfl (by omega) (by decide) (fun c832 => ?_) (fun c832 => ?_)
                            · skip
                              refine to_iload (dat dk_X12_findBoundary 66 rfl) rfl (to_iload (dat dk_X12_findBoundary 67 rfl) rfl ?_)
                              refine to_ieq 7 (dat dk_X12_findBoundary 68 rfl) rfl ry780 ry670 (fun c833 => ?_) (fun c833 => ?_)
                              · skip
                                refine to_pick [0, 1, 2] rfl ?_
                                have e834 : h5.2.2 60 23 = x1 := (by rw [wh5]; exact ex1)
                                exact ihn9 (n9 - 1) (by omega) y12 ry12 (show 0 ≤ y12 ∧ y12 ≤ h5.2.2 60 23 by omega) (show h5.2.2 60 23 - y12 ≤ ((n9 - 1 : Nat) : Int) by omega)
                              · skip
                                refine to_aload_n (dat dk_X12_findBoundary 69 rfl) rfl (to_getR 75 g_c13_60 (dat dk_X12_findBoundary 70 rfl) (I3.atS rfl) (I3.atE rfl) (to_iload_n (dat dk_X12_findBoundary 71 rfl) rfl (to_iload (dat dk_X12_findBoundary 72 rfl) rfl (to_gst (C := "MailArchiveModel") (f9 := "BOUNDARY") (d9 := "[I") (List.mem_of_getElem? (i := 5) rfl) (tin 8 133 (by decide +kernel) rfl) (dat dk_X12_findBoundary 73 rfl) (to_iconst (dat dk_X12_findBoundary 74 rfl) (to_bipush (dat dk_X12_findBoundary 75 rfl) (by decide) ?_))))))
                                refine to_cI ca_c13_198 (dat dk_X12_findBoundary 76 rfl) (ct_X12_same l h5 I3 75 1300 rfl y450 ry450 y780 ry780 1000204 8 (List.mem_of_getElem? (i := 3) rfl) 0 (by decide) 8 (by decide) (show 0 ≤ y450 ∧ y450 ≤ 640000 by omega) (show -1 ≤ y780 ∧ y780 ≤ 640000 by omega) (show 0 ≤ (0 : Int) ∧ (0 : Int) ≤ 100 by omega) (show 0 ≤ (8 : Int) ∧ (8 : Int) ≤ (8 : Int) by omega) (show y780 ≤ (1300 : Int) ∨ y450 + ((8 : Int) - (0 : Int)) ≤ (1300 : Int) by omega)) rfl trivial rfl (fun x835 h836 rx835 p837 => ?_)
                                obtain ⟨rfl, zx835⟩ := p837
                                refine to_ifne 160 (dat dk_X12_findBoundary 77 rfl) rfl rx835 (fun c838 => ?_) (fun c838 => ?_)
                                · skip
                                  have jn202_n841 : ∀ (y839 : Int), (y839 = 0 ∨ y839 = 1) → (y839 = 0 ∨ 2 < y670 - y780) → To l E_X12_findBoundary (202, [(0, .inr (.inr 60)), (1, .inl f), (2, .inl y12), (3, .inl y450), (4, .inl y670), (5, .inl y780)], [.inl y839], h5, 0, 0) (Q_X12_findBoundary h f) := by
                                    intro y839 ry839 c840
                                    refine to_istore (L' := [(0, .inr (.inr 60)), (1, .inl f), (2, .inl y12), (3, .inl y450), (4, .inl y670), (5, .inl y780), (6, .inl y839)]) (dat dk_X12_findBoundary 103 rfl) (by decide) rfl ?_
                                    have jn220_n844 : ∀ (y842 : Int), (I32 y842) → (y780 + 1 ≤ y842 ∧ y842 ≤ y780 + 2) → To l E_X12_findBoundary (220, [(0, .inr (.inr 60)), (1, .inl f), (2, .inl y12), (3, .inl y450), (4, .inl y670), (5, .inl y780), (6, .inl y839)], [.inl y842], h5, 0, 0) (Q_X12_findBoundary h f) := by
                                      intro y842 ry842 c843
                                      refine to_istore (L' := [(0, .inr (.inr 60)), (1, .inl f), (2, .inl y12), (3, .inl y450), (4, .inl y670), (5, .inl y780), (6, .inl y839), (7, .inl y842)]) (dat dk_X12_findBoundary 113 rfl) (by decide) rfl ?_
                                      have e848 : h5.2.2 60 28 = (0 : Int) := (by rw [wh5]; exact wr_eq)
                                      have lp222_n850 : ∀ (n850 : Nat) (y845 : Int) (h846 : Hp), (I32 y845) → (Inv h846) → (Fr [77, 228] h h846) → (y780 < y845 ∧ y845 ≤ 1302) → (h846.2.2 60 28 ≤ y845) → (y670 - y845 ≤ (n850 : Int)) → To l E_X12_findBoundary (222, [(0, .inr (.inr 60)), (1, .inl f), (2, .inl y12), (3, .inl y450), (4, .inl y670), (5, .inl y780), (6, .inl y839), (7, .inl y845)], [], h846, 0, 0) (Q_X12_findBoundary h f) := by
                                        intro n850
                                        induction n850 using Nat.strongRecOn with
                                        | _ n850 ihn850 =>
                                        intro y845 h846 ry845 Ih846 fh846 c847 c849 c851
                                        obtain ⟨x852, ex852⟩ : ∃ y : Int, h846.2.2 60 28 = y := ⟨_, rfl⟩
                                        have rx852 := Ih846.atR (a := 60) (j := 28) rfl
                                        rw [ex852] at rx852
                                        refine to_iload (dat dk_X12_findBoundary 114 rfl) rfl (to_iload (dat dk_X12_findBoundary 115 rfl) rfl ?_)
                                        refine to_ifeq 236 (dat dk_X12_findBoundary 116 rfl) rfl (by omega) (fun c853 => ?_) (fun c853 => ?_)
                                        · skip
                                          refine to_iload (dat dk_X12_findBoundary 121 rfl) rfl ?_
                                          refine to_ige 273 (dat dk_X12_findBoundary 122 rfl) rfl ry845 ry670 (fun c854 => ?_) (fun c854 => ?_)
                                          · skip
                                            exact to_vret rfl (dat dk_X12_findBoundary 140 rfl) (rv_mk ⟨Ih846, fh846⟩)
                                          · skip
                                            refine to_aload_n (dat dk_X12_findBoundary 123 rfl) rfl (to_getR 77 g_c13_66 (dat dk_X12_findBoundary 124 rfl) (Ih846.atS rfl) (Ih846.atE rfl) (to_aload_n (dat dk_X12_findBoundary 125 rfl) rfl (to_getIv (y := x852) ex852 g_c13_234 (dat dk_X12_findBoundary 126 rfl) (Ih846.atS rfl) (to_aload_n (dat dk_X12_findBoundary 127 rfl) rfl (to_getR 75 g_c13_60 (dat dk_X12_findBoundary 128 rfl) (Ih846.atS rfl) (Ih846.atE rfl) (to_iload (dat dk_X12_findBoundary 129 rfl) rfl ?_))))))
                                            obtain ⟨x855, ex855⟩ : ∃ y : Int, h846.2.2 75 (Int.toNat y845) = y := ⟨_, rfl⟩
                                            have rx855 := Ih846.atR (a := 75) (j := Int.toNat y845) rfl
                                            rw [ex855] at rx855
                                            refine to_baldv (q := 1) ex855 (dat dk_X12_findBoundary 130 rfl) (by decide) (Ih846.atS rfl) rfl (by decide) (by omega) (to_bastw (dat dk_X12_findBoundary 131 rfl) (Ih846.atS rfl) rfl (by decide) (by omega) ?_)
                                            intro h858 wh858
                                            have I856 : Inv h858 := by rw [wh858]; exact Ih846.put (a := 77) (j := (Int.toNat x852)) (x := (b8 x855)) (-128) (127) rfl rfl (show (-128 : Int) ≤ (b8 x855) ∧ (b8 x855) ≤ 127 by have := b8_in x855; omega)
                                            have f857 : Fr [77, 228] h h858 := by rw [wh858]; exact Fr.putF (a := 77) (j := (Int.toNat x852)) (x := (b8 x855)) fh846 rfl
                                            refine to_aload_n (dat dk_X12_findBoundary 132 rfl) rfl (to_dup (dat dk_X12_findBoundary 133 rfl) rfl (to_getIv (y := x852) (by rw [wh858]; exact ex852) g_c13_234 (dat dk_X12_findBoundary 134 rfl) (I856.atS rfl) (to_iconst (dat dk_X12_findBoundary 135 rfl) (to_iadd (dat dk_X12_findBoundary 136 rfl) (to_putIw p_c13_234 (dat dk_X12_findBoundary 137 rfl) (I856.atS rfl) ?_)))))
                                            intro h861 wh861
                                            have I859 : Inv h861 := by rw [wh861]; exact I856.put (a := 60) (j := 28) (x := (x852 + 1)) (0) (1300) rfl rfl (show (0 : Int) ≤ (x852 + 1) ∧ (x852 + 1) ≤ 1300 by omega)
                                            have f860 : Fr [77, 228] h h861 := by rw [wh861]; exact Fr.putF (a := 60) (j := 28) (x := (x852 + 1)) f857 rfl
                                            refine to_iinc (L' := [(0, .inr (.inr 60)), (1, .inl f), (2, .inl y12), (3, .inl y450), (4, .inl y670), (5, .inl y780), (6, .inl y839), (7, .inl (y845 + 1))]) (dat dk_X12_findBoundary 138 rfl) rfl (by decide) rfl (to_goto (dat dk_X12_findBoundary 139 rfl) rfl ?_)
                                            have e862 : h861.2.2 60 28 = (x852 + 1) := (by rw [wh861]; exact wr_eq)
                                            exact ihn850 (n850 - 1) (by omega) (y845 + 1) h861 (by omega) I859 f860 (show y780 < (y845 + 1) ∧ (y845 + 1) ≤ 1302 by omega) (show h861.2.2 60 28 ≤ (y845 + 1) by omega) (show y670 - (y845 + 1) ≤ ((n850 - 1 : Nat) : Int) by omega)
                                        · skip
                                          refine to_iload (dat dk_X12_findBoundary 117 rfl) rfl (to_iconst (dat dk_X12_findBoundary 118 rfl) (to_isub (dat dk_X12_findBoundary 119 rfl) (to_goto (dat dk_X12_findBoundary 120 rfl) rfl ?_)))
                                          refine to_ige 273 (dat dk_X12_findBoundary 122 rfl) rfl ry845 (by omega) (fun c863 => ?_) (fun c863 => ?_)
                                          · skip
                                            exact to_vret rfl (dat dk_X12_findBoundary 140 rfl) (rv_mk ⟨Ih846, fh846⟩)
                                          · skip
                                            refine to_aload_n (dat dk_X12_findBoundary 123 rfl) rfl (to_getR 77 g_c13_66 (dat dk_X12_findBoundary 124 rfl) (Ih846.atS rfl) (Ih846.atE rfl) (to_aload_n (dat dk_X12_findBoundary 125 rfl) rfl (to_getIv (y := x852) ex852 g_c13_234 (dat dk_X12_findBoundary 126 rfl) (Ih846.atS rfl) (to_aload_n (dat dk_X12_findBoundary 127 rfl) rfl (to_getR 75 g_c13_60 (dat dk_X12_findBoundary 128 rfl) (Ih846.atS rfl) (Ih846.atE rfl) (to_iload (dat dk_X12_findBoundary 129 rfl) rfl ?_))))))
                                            obtain ⟨x864, ex864⟩ : ∃ y : Int, h846.2.2 75 (Int.toNat y845) = y := ⟨_, rfl⟩
                                            have rx864 := Ih846.atR (a := 75) (j := Int.toNat y845) rfl
                                            rw [ex864] at rx864
                                            refine to_baldv (q := 1) ex864 (dat dk_X12_findBoundary 130 rfl) (by decide) (Ih846.atS rfl) rfl (by decide) (by omega) (to_bastw (dat dk_X12_findBoundary 131 rfl) (Ih846.atS rfl) rfl (by decide) (by omega) ?_)
                                            intro h867 wh867
                                            have I865 : Inv h867 := by rw [wh867]; exact Ih846.put (a := 77) (j := (Int.toNat x852)) (x := (b8 x864)) (-128) (127) rfl rfl (show (-128 : Int) ≤ (b8 x864) ∧ (b8 x864) ≤ 127 by have := b8_in x864; omega)
                                            have f866 : Fr [77, 228] h h867 := by rw [wh867]; exact Fr.putF (a := 77) (j := (Int.toNat x852)) (x := (b8 x864)) fh846 rfl
                                            refine to_aload_n (dat dk_X12_findBoundary 132 rfl) rfl (to_dup (dat dk_X12_findBoundary 133 rfl) rfl (to_getIv (y := x852) (by rw [wh867]; exact ex852) g_c13_234 (dat dk_X12_findBoundary 134 rfl) (I865.atS rfl) (to_iconst (dat dk_X12_findBoundary 135 rfl) (to_iadd (dat dk_X12_findBoundary 136 rfl) (to_putIw p_c13_234 (dat dk_X12_findBoundary 137 rfl) (I865.atS rfl) ?_)))))
                                            intro h870 wh870
                                            have I868 : Inv h870 := by rw [wh870]; exact I865.put (a := 60) (j := 28) (x := (x852 + 1)) (0) (1300) rfl rfl (show (0 : Int) ≤ (x852 + 1) ∧ (x852 + 1) ≤ 1300 by omega)
                                            have f869 : Fr [77, 228] h h870 := by rw [wh870]; exact Fr.putF (a := 60) (j := 28) (x := (x852 + 1)) f866 rfl
                                            refine to_iinc (L' := [(0, .inr (.inr 60)), (1, .inl f), (2, .inl y12), (3, .inl y450), (4, .inl y670), (5, .inl y780), (6, .inl y839), (7, .inl (y845 + 1))]) (dat dk_X12_findBoundary 138 rfl) rfl (by decide) rfl (to_goto (dat dk_X12_findBoundary 139 rfl) rfl ?_)
                                            have e871 : h870.2.2 60 28 = (x852 + 1) := (by rw [wh870]; exact wr_eq)
                                            exact ihn850 (n850 - 1) (by omega) (y845 + 1) h870 (by omega) I868 f869 (show y780 < (y845 + 1) ∧ (y845 + 1) ≤ 1302 by omega) (show h870.2.2 60 28 ≤ (y845 + 1) by omega) (show y670 - (y845 + 1) ≤ ((n850 - 1 : Nat) : Int) by omega)
                                      exact lp222_n850 (y670 - y842).toNat y842 h5 ry842 I3 f4 (show y780 < y842 ∧ y842 ≤ 1302 by omega) (show h5.2.2 60 28 ≤ y842 by omega) (by omega)
                                    refine to_iload (dat dk_X12_findBoundary 104 rfl) rfl ?_
                                    refine to_ifeq 216 (dat dk_X12_findBoundary 105 rfl) rfl (by omega) (fun c872 => ?_) (fun c872 => ?_)
                                    · skip
                                      refine to_iload (dat dk_X12_findBoundary 110 rfl) rfl (to_iconst (dat dk_X12_findBoundary 111 rfl) (to_iadd (dat dk_X12_findBoundary 112 rfl) ?_))
                                      exact jn220_n844 (y780 + 1) (by omega) (show y780 + 1 ≤ (y780 + 1) ∧ (y780 + 1) ≤ y780 + 2 by omega)
                                    · skip
                                      refine to_iload (dat dk_X12_findBoundary 106 rfl) rfl (to_iconst (dat dk_X12_findBoundary 107 rfl) (to_iadd (dat dk_X12_findBoundary 108 rfl) (to_goto (dat dk_X12_findBoundary 109 rfl) rfl ?_)))
                                      exact jn220_n844 (y780 + 2) (by omega) (show y780 + 1 ≤ (y780 + 2) ∧ (y780 + 2) ≤ y780 + 2 by omega)
                                  refine to_iload (dat dk_X12_findBoundary 79 rfl) rfl (to_iload (dat dk_X12_findBoundary 80 rfl) rfl (to_isub (dat dk_X12_findBoundary 81 rfl) (to_iconst (dat dk_X12_findBoundary 82 rfl) ?_)))
                                  refine to_ile 201 (dat dk_X12_findBoundary 83 rfl) rfl (by omega) (by decide) (fun c873 => ?_) (fun c873 => ?_)
                                  · skip
                                    refine to_iconst (dat dk_X12_findBoundary 102 rfl) ?_
                                    exact jn202_n841 0 (by decide) (show (0 : Int) = 0 ∨ 2 < y670 - y780 by omega)
                                  · skip
                                    refine to_aload_n (dat dk_X12_findBoundary 84 rfl) rfl (to_getR 75 g_c13_60 (dat dk_X12_findBoundary 85 rfl) (I3.atS rfl) (I3.atE rfl) (to_iload (dat dk_X12_findBoundary 86 rfl) rfl (to_iconst (dat dk_X12_findBoundary 87 rfl) (to_iadd (dat dk_X12_findBoundary 88 rfl) ?_))))
                                    obtain ⟨x874, ex874⟩ : ∃ y : Int, h5.2.2 75 (Int.toNat (y780 + 1)) = y := ⟨_, rfl⟩
                                    have rx874 := I3.atR (a := 75) (j := Int.toNat (y780 + 1)) rfl
                                    rw [ex874] at rx874
                                    refine to_baldv (q := 1) ex874 (dat dk_X12_findBoundary 89 rfl) (by decide) (I3.atS rfl) rfl (by decide) (by omega) (to_bipush (dat dk_X12_findBoundary 90 rfl) (by decide) ?_)
                                    refine to_ine 201 (dat dk_X12_findBoundary 91 rfl) rfl (by omega) (by decide) (fun c875 => ?_) (fun c875 => ?_)
                                    · skip
                                      refine to_iconst (dat dk_X12_findBoundary 102 rfl) ?_
                                      exact jn202_n841 0 (by decide) (show (0 : Int) = 0 ∨ 2 < y670 - y780 by omega)
                                    · skip
                                      refine to_aload_n (dat dk_X12_findBoundary 92 rfl) rfl (to_getR 75 g_c13_60 (dat dk_X12_findBoundary 93 rfl) (I3.atS rfl) (I3.atE rfl) (to_iload (dat dk_X12_findBoundary 94 rfl) rfl (to_iconst (dat dk_X12_findBoundary 95 rfl) (to_isub (dat dk_X12_findBoundary 96 rfl) ?_))))
                                      obtain ⟨x876, ex876⟩ : ∃ y : Int, h5.2.2 75 (Int.toNat (y670 - 1)) = y := ⟨_, rfl⟩
                                      have rx876 := I3.atR (a := 75) (j := Int.toNat (y670 - 1)) rfl
                                      rw [ex876] at rx876
                                      refine to_baldv (q := 1) ex876 (dat dk_X12_findBoundary 97 rfl) (by decide) (I3.atS rfl) rfl (by decide) (by omega) (to_bipush (dat dk_X12_findBoundary 98 rfl) (by decide) ?_)
                                      refine to_ine 201 (dat dk_X12_findBoundary 99 rfl) rfl (by omega) (by decide) (fun c877 => ?_) (fun c877 => ?_)
                                      · skip
                                        refine to_iconst (dat dk_X12_findBoundary 102 rfl) ?_
                                        exact jn202_n841 0 (by decide) (show (0 : Int) = 0 ∨ 2 < y670 - y780 by omega)
                                      · skip
                                        refine to_iconst (dat dk_X12_findBoundary 100 rfl) (to_goto (dat dk_X12_findBoundary 101 rfl) rfl ?_)
                                        exact jn202_n841 1 (by decide) (show (1 : Int) = 0 ∨ 2 < y670 - y780 by omega)
                                · skip
                                  refine to_goto (dat dk_X12_findBoundary 78 rfl) rfl ?_
                                  refine to_pick [0, 1, 2] rfl ?_
                                  have e878 : h5.2.2 60 23 = x1 := (by rw [wh5]; exact ex1)
                                  exact ihn9 (n9 - 1) (by omega) y12 ry12 (show 0 ≤ y12 ∧ y12 ≤ h5.2.2 60 23 by omega) (show h5.2.2 60 23 - y12 ≤ ((n9 - 1 : Nat) : Int) by omega)
                            · skip
                              refine to_iinc (L' := [(0, .inr (.inr 60)), (1, .inl f), (2, .inl y12), (3, .inl y450), (4, .inl y670), (5, .inl (y780 + 1))]) (dat dk_X12_findBoundary 64 rfl) rfl (by decide) rfl (to_goto (dat dk_X12_findBoundary 65 rfl) rfl ?_)
                              exact ihn782 (n782 - 1) (by omega) (y780 + 1) (by omega) (show y450 ≤ (y780 + 1) ∧ (y780 + 1) ≤ y670 by omega) (show y670 - (y780 + 1) ≤ ((n782 - 1 : Nat) : Int) by omega)
                        exact lp106_n782 (y670 - y450).toNat y450 ry450 (show y450 ≤ y450 ∧ y450 ≤ y670 by omega) (by omega)
                      · skip
                        refine to_iinc (L' := [(0, .inr (.inr 60)), (1, .inl f), (2, .inl y12), (3, .inl y450), (4, .inl (y670 + (-1)))]) (dat dk_X12_findBoundary 51 rfl) rfl (by decide) rfl (to_goto (dat dk_X12_findBoundary 52 rfl) rfl ?_)
                        have e879 : h5.2.2 60 23 = x1 := (by rw [wh5]; exact ex1)
                        exact ihn673 (n673 - 1) (by omega) (y670 + (-1)) (by omega) (show y450 ≤ (y670 + (-1)) ∧ (y670 + (-1)) ≤ h5.2.2 60 23 by omega) (show (y670 + (-1)) ≤ ((n673 - 1 : Nat) : Int) by omega)
                  exact lp76_n673 (y12).toNat y12 ry12 (show y450 ≤ y12 ∧ y12 ≤ h5.2.2 60 23 by omega) (by omega)
                · skip
                  refine to_iinc (L' := [(0, .inr (.inr 60)), (1, .inl f), (2, .inl y12), (3, .inl (y450 + 1)), (4, .inl y12)]) (dat dk_X12_findBoundary 38 rfl) rfl (by decide) rfl (to_goto (dat dk_X12_findBoundary 39 rfl) rfl ?_)
                  exact ihn452 (n452 - 1) (by omega) (y450 + 1) (by omega) (show 0 ≤ (y450 + 1) ∧ (y450 + 1) ≤ y12 by omega) (show y12 - (y450 + 1) ≤ ((n452 - 1 : Nat) : Int) by omega)
            exact lp52_n452 (y12 - (y6 + 1)).toNat (y6 + 1) (by omega) (show 0 ≤ (y6 + 1) ∧ (y6 + 1) ≤ y12 by omega) (by omega)
          · skip
            refine to_iinc (L' := [(0, .inr (.inr 60)), (1, .inl f), (2, .inl y6), (3, .inl (y6 + 1)), (4, .inl (y12 + 1))]) (dat dk_X12_findBoundary 25 rfl) rfl (by decide) rfl (to_goto (dat dk_X12_findBoundary 26 rfl) rfl ?_)
            have e880 : h5.2.2 60 23 = x1 := (by rw [wh5]; exact ex1)
            exact ihn15 (n15 - 1) (by omega) (y12 + 1) (by omega) (show (y6 + 1) ≤ (y12 + 1) ∧ (y12 + 1) ≤ h5.2.2 60 23 by omega) (show h5.2.2 60 23 - (y12 + 1) ≤ ((n15 - 1 : Nat) : Int) by omega)
      exact lp22_n15 (h5.2.2 60 23 - (y6 + 1)).toNat (y6 + 1) (by omega) (show (y6 + 1) ≤ (y6 + 1) ∧ (y6 + 1) ≤ h5.2.2 60 23 by omega) (by omega)
  exact lp7_n9 (h5.2.2 60 23 - f).toNat f hf (show 0 ≤ f ∧ f ≤ h5.2.2 60 23 by omega) (by omega)
abbrev Q_X12_mark (h : Hp) (f : Int) (g : Int) : Option V → Hp → Nat → Nat → Prop := RI (fun x H => h = H ∧ (0 ≤ x ∧ x ≤ 2))
set_option maxRecDepth 100000 in
theorem ct_X12_mark (l : Launch) (h : Hp) (hI : Inv h) (f : Int) (hf : I32 f) (g : Int) (hg : I32 g) (g0 : 0 ≤ f ∧ f ≤ g) (g1 : g ≤ 240000) : Ct l D_X12_mark 1 20 [.inr (.inr 60), .inl f, .inl g] h (Q_X12_mark h f g) := by
  refine ct_of pn_X12_mark (Nat.le_of_ble_eq_true rfl) ?_
  show To l E_X12_mark (0, [(0, .inr (.inr 60)), (1, .inl f), (2, .inl g)], [], h, 0, 0) _
  refine to_iload_n (dat dk_X12_mark 0 rfl) rfl (to_iload_n (dat dk_X12_mark 1 rfl) rfl (to_isub (dat dk_X12_mark 2 rfl) (to_aload_n (dat dk_X12_mark 3 rfl) rfl ?_)))
  obtain ⟨x1, ex1⟩ : ∃ y : Int, h.2.2 60 28 = y := ⟨_, rfl⟩
  have rx1 := hI.atR (a := 60) (j := 28) rfl
  rw [ex1] at rx1
  refine to_getIv (y := x1) ex1 g_c13_234 (dat dk_X12_mark 4 rfl) (hI.atS rfl) (to_iconst (dat dk_X12_mark 5 rfl) (to_iadd (dat dk_X12_mark 6 rfl) ?_))
  refine to_ilt 36 (dat dk_X12_mark 7 rfl) rfl (by omega) (by omega) (fun c2 => ?_) (fun c2 => ?_)
  · skip
    refine to_iconst (dat dk_X12_mark 22 rfl) ?_
    exact to_iret rfl (dat dk_X12_mark 23 rfl) (ri_mk (by decide) ⟨rfl, (show 0 ≤ (0 : Int) ∧ (0 : Int) ≤ 2 by omega)⟩)
  · skip
    refine to_aload_n (dat dk_X12_mark 8 rfl) rfl (to_getR 63 g_c13_17 (dat dk_X12_mark 9 rfl) (hI.atS rfl) (hI.atE rfl) (to_iload_n (dat dk_X12_mark 10 rfl) rfl ?_))
    obtain ⟨x3, ex3⟩ : ∃ y : Int, h.2.2 63 (Int.toNat f) = y := ⟨_, rfl⟩
    have rx3 := hI.atR (a := 63) (j := Int.toNat f) rfl
    rw [ex3] at rx3
    refine to_baldv (q := 1) ex3 (dat dk_X12_mark 11 rfl) (by decide) (hI.atS rfl) rfl (by decide) (by omega) (to_bipush (dat dk_X12_mark 12 rfl) (by decide) ?_)
    refine to_ine 36 (dat dk_X12_mark 13 rfl) rfl (by omega) (by decide) (fun c4 => ?_) (fun c4 => ?_)
    · skip
      refine to_iconst (dat dk_X12_mark 22 rfl) ?_
      exact to_iret rfl (dat dk_X12_mark 23 rfl) (ri_mk (by decide) ⟨rfl, (show 0 ≤ (0 : Int) ∧ (0 : Int) ≤ 2 by omega)⟩)
    · skip
      refine to_aload_n (dat dk_X12_mark 14 rfl) rfl (to_getR 63 g_c13_17 (dat dk_X12_mark 15 rfl) (hI.atS rfl) (hI.atE rfl) (to_iload_n (dat dk_X12_mark 16 rfl) rfl (to_iconst (dat dk_X12_mark 17 rfl) (to_iadd (dat dk_X12_mark 18 rfl) ?_))))
      obtain ⟨x5, ex5⟩ : ∃ y : Int, h.2.2 63 (Int.toNat (f + 1)) = y := ⟨_, rfl⟩
      have rx5 := hI.atR (a := 63) (j := Int.toNat (f + 1)) rfl
      rw [ex5] at rx5
      refine to_baldv (q := 1) ex5 (dat dk_X12_mark 19 rfl) (by decide) (hI.atS rfl) rfl (by decide) (by omega) (to_bipush (dat dk_X12_mark 20 rfl) (by decide) ?_)
      refine to_ieq 38 (dat dk_X12_mark 21 rfl) rfl (by omega) (by decide) (fun c6 => ?_) (fun c6 => ?_)
      · skip
        refine to_iconst (dat dk_X12_mark 24 rfl) (to_istore_n (L' := [(0, .inr (.inr 60)), (1, .inl f), (2, .inl g), (3, .inl 0)]) (dat dk_X12_mark 25 rfl) (by decide) rfl ?_)
        have lp40_n9 : ∀ (n9 : Nat) (y7 : Int), (I32 y7) → (0 ≤ y7) → (h.2.2 60 28 - y7 ≤ (n9 : Int)) → To l E_X12_mark (40, [(0, .inr (.inr 60)), (1, .inl f), (2, .inl g), (3, .inl y7)], [], h, 0, 0) (Q_X12_mark h f g) := by
          intro n9
          induction n9 using Nat.strongRecOn with
          | _ n9 ihn9 =>
          intro y7 ry7 c8 c10
          refine to_iload_n (dat dk_X12_mark 26 rfl) rfl (to_aload_n (dat dk_X12_mark 27 rfl) rfl (to_getIv (y := x1) ex1 g_c13_234 (dat dk_X12_mark 28 rfl) (hI.atS rfl) ?_))
          refine to_ige 75 (dat dk_X12_mark 29 rfl) rfl ry7 (by omega) (fun c11 => ?_) (fun c11 => ?_)
          · skip
            refine to_iload_n (dat dk_X12_mark 47 rfl) rfl (to_iconst (dat dk_X12_mark 48 rfl) (to_iadd (dat dk_X12_mark 49 rfl) (to_aload_n (dat dk_X12_mark 50 rfl) rfl (to_getIv (y := x1) ex1 g_c13_234 (dat dk_X12_mark 51 rfl) (hI.atS rfl) (to_iadd (dat dk_X12_mark 52 rfl) (to_istore_n (L' := [(0, .inr (.inr 60)), (1, .inl f), (2, .inl g), (3, .inl ((f + 2) + x1))]) (dat dk_X12_mark 53 rfl) (by decide) rfl ?_))))))
            have jn120_n14 : ∀ (y12 : Int), (y12 = 0 ∨ y12 = 1) → (y12 = 0 ∨ ((f + 2) + x1) + 1 < g) → To l E_X12_mark (120, [(0, .inr (.inr 60)), (1, .inl f), (2, .inl g), (3, .inl ((f + 2) + x1))], [.inl y12], h, 0, 0) (Q_X12_mark h f g) := by
              intro y12 ry12 c13
              refine to_istore (L' := [(0, .inr (.inr 60)), (1, .inl f), (2, .inl g), (3, .inl ((f + 2) + x1)), (4, .inl y12)]) (dat dk_X12_mark 76 rfl) (by decide) rfl (to_iload (dat dk_X12_mark 77 rfl) rfl ?_)
              refine to_ifeq 130 (dat dk_X12_mark 78 rfl) rfl (by omega) (fun c15 => ?_) (fun c15 => ?_)
              · skip
                have lp130_n18 : ∀ (n18 : Nat) (y16 : Int), (I32 y16) → (0 ≤ y16 ∧ y16 ≤ g) → (g - y16 ≤ (n18 : Int)) → To l E_X12_mark (130, [(0, .inr (.inr 60)), (1, .inl f), (2, .inl g), (3, .inl y16), (4, .inl y12)], [], h, 0, 0) (Q_X12_mark h f g) := by
                  intro n18
                  induction n18 using Nat.strongRecOn with
                  | _ n18 ihn18 =>
                  intro y16 ry16 c17 c19
                  refine to_iload_n (dat dk_X12_mark 80 rfl) rfl (to_iload_n (dat dk_X12_mark 81 rfl) rfl ?_)
                  refine to_ige 153 (dat dk_X12_mark 82 rfl) rfl ry16 hg (fun c20 => ?_) (fun c20 => ?_)
                  · skip
                    refine to_iload_n (dat dk_X12_mark 91 rfl) rfl (to_iload_n (dat dk_X12_mark 92 rfl) rfl ?_)
                    refine to_ige 162 (dat dk_X12_mark 93 rfl) rfl ry16 hg (fun c21 => ?_) (fun c21 => ?_)
                    · skip
                      refine to_iload (dat dk_X12_mark 96 rfl) rfl ?_
                      refine to_ifeq 171 (dat dk_X12_mark 97 rfl) rfl (by omega) (fun c22 => ?_) (fun c22 => ?_)
                      · skip
                        refine to_iconst (dat dk_X12_mark 100 rfl) ?_
                        exact to_iret rfl (dat dk_X12_mark 101 rfl) (ri_mk (by decide) ⟨rfl, (show 0 ≤ (1 : Int) ∧ (1 : Int) ≤ 2 by omega)⟩)
                      · skip
                        refine to_iconst (dat dk_X12_mark 98 rfl) (to_goto (dat dk_X12_mark 99 rfl) rfl ?_)
                        exact to_iret rfl (dat dk_X12_mark 101 rfl) (ri_mk (by decide) ⟨rfl, (show 0 ≤ (2 : Int) ∧ (2 : Int) ≤ 2 by omega)⟩)
                    · skip
                      refine to_iconst (dat dk_X12_mark 94 rfl) (to_goto (dat dk_X12_mark 95 rfl) rfl ?_)
                      exact to_iret rfl (dat dk_X12_mark 101 rfl) (ri_mk (by decide) ⟨rfl, (show 0 ≤ (0 : Int) ∧ (0 : Int) ≤ 2 by omega)⟩)
                  · skip
                    refine to_aload_n (dat dk_X12_mark 83 rfl) rfl (to_getR 63 g_c13_17 (dat dk_X12_mark 84 rfl) (hI.atS rfl) (hI.atE rfl) (to_iload_n (dat dk_X12_mark 85 rfl) rfl ?_))
                    obtain ⟨x23, ex23⟩ : ∃ y : Int, h.2.2 63 (Int.toNat y16) = y := ⟨_, rfl⟩
                    have rx23 := hI.atR (a := 63) (j := Int.toNat y16) rfl
                    rw [ex23] at rx23
                    refine to_baldv (q := 1) ex23 (dat dk_X12_mark 86 rfl) (by decide) (hI.atS rfl) rfl (by decide) (by omega) ?_
                    refine to_cI ca_c13_182 (dat dk_X12_mark 87 rfl) (ct_X12_isBlank l h hI x23 (by omega)) rfl trivial rfl (fun x24 h25 rx24 p26 => ?_)
                    obtain ⟨rfl, zx24⟩ := p26
                    refine to_ifeq 153 (dat dk_X12_mark 88 rfl) rfl rx24 (fun c27 => ?_) (fun c27 => ?_)
                    · skip
                      refine to_iload_n (dat dk_X12_mark 91 rfl) rfl (to_iload_n (dat dk_X12_mark 92 rfl) rfl ?_)
                      refine to_ige 162 (dat dk_X12_mark 93 rfl) rfl ry16 hg (fun c28 => ?_) (fun c28 => ?_)
                      · skip
                        refine to_iload (dat dk_X12_mark 96 rfl) rfl ?_
                        refine to_ifeq 171 (dat dk_X12_mark 97 rfl) rfl (by omega) (fun c29 => ?_) (fun c29 => ?_)
                        · skip
                          refine to_iconst (dat dk_X12_mark 100 rfl) ?_
                          exact to_iret rfl (dat dk_X12_mark 101 rfl) (ri_mk (by decide) ⟨rfl, (show 0 ≤ (1 : Int) ∧ (1 : Int) ≤ 2 by omega)⟩)
                        · skip
                          refine to_iconst (dat dk_X12_mark 98 rfl) (to_goto (dat dk_X12_mark 99 rfl) rfl ?_)
                          exact to_iret rfl (dat dk_X12_mark 101 rfl) (ri_mk (by decide) ⟨rfl, (show 0 ≤ (2 : Int) ∧ (2 : Int) ≤ 2 by omega)⟩)
                      · skip
                        refine to_iconst (dat dk_X12_mark 94 rfl) (to_goto (dat dk_X12_mark 95 rfl) rfl ?_)
                        exact to_iret rfl (dat dk_X12_mark 101 rfl) (ri_mk (by decide) ⟨rfl, (show 0 ≤ (0 : Int) ∧ (0 : Int) ≤ 2 by omega)⟩)
                    · skip
                      refine to_iinc (L' := [(0, .inr (.inr 60)), (1, .inl f), (2, .inl g), (3, .inl (y16 + 1)), (4, .inl y12)]) (dat dk_X12_mark 89 rfl) rfl (by decide) rfl (to_goto (dat dk_X12_mark 90 rfl) rfl ?_)
                      exact ihn18 (n18 - 1) (by omega) (y16 + 1) (by omega) (show 0 ≤ (y16 + 1) ∧ (y16 + 1) ≤ g by omega) (show g - (y16 + 1) ≤ ((n18 - 1 : Nat) : Int) by omega)
                exact lp130_n18 (g - ((f + 2) + x1)).toNat ((f + 2) + x1) (by omega) (show 0 ≤ ((f + 2) + x1) ∧ ((f + 2) + x1) ≤ g by omega) (by omega)
              · skip
                refine to_iinc (L' := [(0, .inr (.inr 60)), (1, .inl f), (2, .inl g), (3, .inl (((f + 2) + x1) + 2)), (4, .inl y12)]) (dat dk_X12_mark 79 rfl) rfl (by decide) rfl ?_
                have lp130_n32 : ∀ (n32 : Nat) (y30 : Int), (I32 y30) → (0 ≤ y30 ∧ y30 ≤ g) → (g - y30 ≤ (n32 : Int)) → To l E_X12_mark (130, [(0, .inr (.inr 60)), (1, .inl f), (2, .inl g), (3, .inl y30), (4, .inl y12)], [], h, 0, 0) (Q_X12_mark h f g) := by
                  intro n32
                  induction n32 using Nat.strongRecOn with
                  | _ n32 ihn32 =>
                  intro y30 ry30 c31 c33
                  refine to_iload_n (dat dk_X12_mark 80 rfl) rfl (to_iload_n (dat dk_X12_mark 81 rfl) rfl ?_)
                  refine to_ige 153 (dat dk_X12_mark 82 rfl) rfl ry30 hg (fun c34 => ?_) (fun c34 => ?_)
                  · skip
                    refine to_iload_n (dat dk_X12_mark 91 rfl) rfl (to_iload_n (dat dk_X12_mark 92 rfl) rfl ?_)
                    refine to_ige 162 (dat dk_X12_mark 93 rfl) rfl ry30 hg (fun c35 => ?_) (fun c35 => ?_)
                    · skip
                      refine to_iload (dat dk_X12_mark 96 rfl) rfl ?_
                      refine to_ifeq 171 (dat dk_X12_mark 97 rfl) rfl (by omega) (fun c36 => ?_) (fun c36 => ?_)
                      · skip
                        refine to_iconst (dat dk_X12_mark 100 rfl) ?_
                        exact to_iret rfl (dat dk_X12_mark 101 rfl) (ri_mk (by decide) ⟨rfl, (show 0 ≤ (1 : Int) ∧ (1 : Int) ≤ 2 by omega)⟩)
                      · skip
                        refine to_iconst (dat dk_X12_mark 98 rfl) (to_goto (dat dk_X12_mark 99 rfl) rfl ?_)
                        exact to_iret rfl (dat dk_X12_mark 101 rfl) (ri_mk (by decide) ⟨rfl, (show 0 ≤ (2 : Int) ∧ (2 : Int) ≤ 2 by omega)⟩)
                    · skip
                      refine to_iconst (dat dk_X12_mark 94 rfl) (to_goto (dat dk_X12_mark 95 rfl) rfl ?_)
                      exact to_iret rfl (dat dk_X12_mark 101 rfl) (ri_mk (by decide) ⟨rfl, (show 0 ≤ (0 : Int) ∧ (0 : Int) ≤ 2 by omega)⟩)
                  · skip
                    refine to_aload_n (dat dk_X12_mark 83 rfl) rfl (to_getR 63 g_c13_17 (dat dk_X12_mark 84 rfl) (hI.atS rfl) (hI.atE rfl) (to_iload_n (dat dk_X12_mark 85 rfl) rfl ?_))
                    obtain ⟨x37, ex37⟩ : ∃ y : Int, h.2.2 63 (Int.toNat y30) = y := ⟨_, rfl⟩
                    have rx37 := hI.atR (a := 63) (j := Int.toNat y30) rfl
                    rw [ex37] at rx37
                    refine to_baldv (q := 1) ex37 (dat dk_X12_mark 86 rfl) (by decide) (hI.atS rfl) rfl (by decide) (by omega) ?_
                    refine to_cI ca_c13_182 (dat dk_X12_mark 87 rfl) (ct_X12_isBlank l h hI x37 (by omega)) rfl trivial rfl (fun x38 h39 rx38 p40 => ?_)
                    obtain ⟨rfl, zx38⟩ := p40
                    refine to_ifeq 153 (dat dk_X12_mark 88 rfl) rfl rx38 (fun c41 => ?_) (fun c41 => ?_)
                    · skip
                      refine to_iload_n (dat dk_X12_mark 91 rfl) rfl (to_iload_n (dat dk_X12_mark 92 rfl) rfl ?_)
                      refine to_ige 162 (dat dk_X12_mark 93 rfl) rfl ry30 hg (fun c42 => ?_) (fun c42 => ?_)
                      · skip
                        refine to_iload (dat dk_X12_mark 96 rfl) rfl ?_
                        refine to_ifeq 171 (dat dk_X12_mark 97 rfl) rfl (by omega) (fun c43 => ?_) (fun c43 => ?_)
                        · skip
                          refine to_iconst (dat dk_X12_mark 100 rfl) ?_
                          exact to_iret rfl (dat dk_X12_mark 101 rfl) (ri_mk (by decide) ⟨rfl, (show 0 ≤ (1 : Int) ∧ (1 : Int) ≤ 2 by omega)⟩)
                        · skip
                          refine to_iconst (dat dk_X12_mark 98 rfl) (to_goto (dat dk_X12_mark 99 rfl) rfl ?_)
                          exact to_iret rfl (dat dk_X12_mark 101 rfl) (ri_mk (by decide) ⟨rfl, (show 0 ≤ (2 : Int) ∧ (2 : Int) ≤ 2 by omega)⟩)
                      · skip
                        refine to_iconst (dat dk_X12_mark 94 rfl) (to_goto (dat dk_X12_mark 95 rfl) rfl ?_)
                        exact to_iret rfl (dat dk_X12_mark 101 rfl) (ri_mk (by decide) ⟨rfl, (show 0 ≤ (0 : Int) ∧ (0 : Int) ≤ 2 by omega)⟩)
                    · skip
                      refine to_iinc (L' := [(0, .inr (.inr 60)), (1, .inl f), (2, .inl g), (3, .inl (y30 + 1)), (4, .inl y12)]) (dat dk_X12_mark 89 rfl) rfl (by decide) rfl (to_goto (dat dk_X12_mark 90 rfl) rfl ?_)
                      exact ihn32 (n32 - 1) (by omega) (y30 + 1) (by omega) (show 0 ≤ (y30 + 1) ∧ (y30 + 1) ≤ g by omega) (show g - (y30 + 1) ≤ ((n32 - 1 : Nat) : Int) by omega)
                exact lp130_n32 (g - (((f + 2) + x1) + 2)).toNat (((f + 2) + x1) + 2) (by omega) (show 0 ≤ (((f + 2) + x1) + 2) ∧ (((f + 2) + x1) + 2) ≤ g by omega) (by omega)
            refine to_iload_n (dat dk_X12_mark 54 rfl) rfl (to_iconst (dat dk_X12_mark 55 rfl) (to_iadd (dat dk_X12_mark 56 rfl) (to_iload_n (dat dk_X12_mark 57 rfl) rfl ?_)))
            refine to_ige 119 (dat dk_X12_mark 58 rfl) rfl (by omega) hg (fun c44 => ?_) (fun c44 => ?_)
            · skip
              refine to_iconst (dat dk_X12_mark 75 rfl) ?_
              exact jn120_n14 0 (by decide) (show (0 : Int) = 0 ∨ ((f + 2) + x1) + 1 < g by omega)
            · skip
              refine to_aload_n (dat dk_X12_mark 59 rfl) rfl (to_getR 63 g_c13_17 (dat dk_X12_mark 60 rfl) (hI.atS rfl) (hI.atE rfl) (to_iload_n (dat dk_X12_mark 61 rfl) rfl ?_))
              obtain ⟨x45, ex45⟩ : ∃ y : Int, h.2.2 63 (Int.toNat ((f + 2) + x1)) = y := ⟨_, rfl⟩
              have rx45 := hI.atR (a := 63) (j := Int.toNat ((f + 2) + x1)) rfl
              rw [ex45] at rx45
              refine to_baldv (q := 1) ex45 (dat dk_X12_mark 62 rfl) (by decide) (hI.atS rfl) rfl (by decide) (by omega) (to_bipush (dat dk_X12_mark 63 rfl) (by decide) ?_)
              refine to_ine 119 (dat dk_X12_mark 64 rfl) rfl (by omega) (by decide) (fun c46 => ?_) (fun c46 => ?_)
              · skip
                refine to_iconst (dat dk_X12_mark 75 rfl) ?_
                exact jn120_n14 0 (by decide) (show (0 : Int) = 0 ∨ ((f + 2) + x1) + 1 < g by omega)
              · skip
                refine to_aload_n (dat dk_X12_mark 65 rfl) rfl (to_getR 63 g_c13_17 (dat dk_X12_mark 66 rfl) (hI.atS rfl) (hI.atE rfl) (to_iload_n (dat dk_X12_mark 67 rfl) rfl (to_iconst (dat dk_X12_mark 68 rfl) (to_iadd (dat dk_X12_mark 69 rfl) ?_))))
                obtain ⟨x47, ex47⟩ : ∃ y : Int, h.2.2 63 (Int.toNat (((f + 2) + x1) + 1)) = y := ⟨_, rfl⟩
                have rx47 := hI.atR (a := 63) (j := Int.toNat (((f + 2) + x1) + 1)) rfl
                rw [ex47] at rx47
                refine to_baldv (q := 1) ex47 (dat dk_X12_mark 70 rfl) (by decide) (hI.atS rfl) rfl (by decide) (by omega) (to_bipush (dat dk_X12_mark 71 rfl) (by decide) ?_)
                refine to_ine 119 (dat dk_X12_mark 72 rfl) rfl (by omega) (by decide) (fun c48 => ?_) (fun c48 => ?_)
                · skip
                  refine to_iconst (dat dk_X12_mark 75 rfl) ?_
                  exact jn120_n14 0 (by decide) (show (0 : Int) = 0 ∨ ((f + 2) + x1) + 1 < g by omega)
                · skip
                  refine to_iconst (dat dk_X12_mark 73 rfl) (to_goto (dat dk_X12_mark 74 rfl) rfl ?_)
                  exact jn120_n14 1 (by decide) (show (1 : Int) = 0 ∨ ((f + 2) + x1) + 1 < g by omega)
          · skip
            refine to_aload_n (dat dk_X12_mark 30 rfl) rfl (to_getR 63 g_c13_17 (dat dk_X12_mark 31 rfl) (hI.atS rfl) (hI.atE rfl) (to_iload_n (dat dk_X12_mark 32 rfl) rfl (to_iconst (dat dk_X12_mark 33 rfl) (to_iadd (dat dk_X12_mark 34 rfl) (to_iload_n (dat dk_X12_mark 35 rfl) rfl (to_iadd (dat dk_X12_mark 36 rfl) ?_))))))
            obtain ⟨x49, ex49⟩ : ∃ y : Int, h.2.2 63 (Int.toNat ((f + 2) + y7)) = y := ⟨_, rfl⟩
            have rx49 := hI.atR (a := 63) (j := Int.toNat ((f + 2) + y7)) rfl
            rw [ex49] at rx49
            refine to_baldv (q := 1) ex49 (dat dk_X12_mark 37 rfl) (by decide) (hI.atS rfl) rfl (by decide) (by omega) (to_aload_n (dat dk_X12_mark 38 rfl) rfl (to_getR 77 g_c13_66 (dat dk_X12_mark 39 rfl) (hI.atS rfl) (hI.atE rfl) (to_iload_n (dat dk_X12_mark 40 rfl) rfl ?_)))
            obtain ⟨x50, ex50⟩ : ∃ y : Int, h.2.2 77 (Int.toNat y7) = y := ⟨_, rfl⟩
            have rx50 := hI.atR (a := 77) (j := Int.toNat y7) rfl
            rw [ex50] at rx50
            refine to_baldv (q := 1) ex50 (dat dk_X12_mark 41 rfl) (by decide) (hI.atS rfl) rfl (by decide) (by omega) ?_
            refine to_ieq 69 (dat dk_X12_mark 42 rfl) rfl (by omega) (by omega) (fun c51 => ?_) (fun c51 => ?_)
            · skip
              refine to_iinc (L' := [(0, .inr (.inr 60)), (1, .inl f), (2, .inl g), (3, .inl (y7 + 1))]) (dat dk_X12_mark 45 rfl) rfl (by decide) rfl (to_goto (dat dk_X12_mark 46 rfl) rfl ?_)
              exact ihn9 (n9 - 1) (by omega) (y7 + 1) (by omega) (show 0 ≤ (y7 + 1) by omega) (show h.2.2 60 28 - (y7 + 1) ≤ ((n9 - 1 : Nat) : Int) by omega)
            · skip
              refine to_iconst (dat dk_X12_mark 43 rfl) ?_
              exact to_iret rfl (dat dk_X12_mark 44 rfl) (ri_mk (by decide) ⟨rfl, (show 0 ≤ (0 : Int) ∧ (0 : Int) ≤ 2 by omega)⟩)
        exact lp40_n9 (h.2.2 60 28 - (0 : Int)).toNat 0 (by decide) (show 0 ≤ (0 : Int) by omega) (by omega)
      · skip
        refine to_iconst (dat dk_X12_mark 22 rfl) ?_
        exact to_iret rfl (dat dk_X12_mark 23 rfl) (ri_mk (by decide) ⟨rfl, (show 0 ≤ (0 : Int) ∧ (0 : Int) ≤ 2 by omega)⟩)
abbrev Q_X12_addPart (h : Hp) (f : Int) (g : Int) : Option V → Hp → Nat → Nat → Prop := RV (fun H => Inv H ∧ Fr [81, 82, 233] h H ∧ (H.2.2 60 33 = h.2.2 60 33 + 1))
set_option maxRecDepth 100000 in
theorem ct_X12_addPart (l : Launch) (h : Hp) (hI : Inv h) (f : Int) (hf : I32 f) (g : Int) (hg : I32 g) (g0 : 0 ≤ f ∧ f ≤ 240000) (g1 : 0 ≤ g ∧ g ≤ 240000) (g2 : h.2.2 60 33 ≤ 1299) : Ct l D_X12_addPart 0 0 [.inr (.inr 60), .inl f, .inl g] h (Q_X12_addPart h f g) := by
  refine ct_of pn_X12_addPart (Nat.le_of_ble_eq_true rfl) ?_
  show To l E_X12_addPart (0, [(0, .inr (.inr 60)), (1, .inl f), (2, .inl g)], [], h, 0, 0) _
  obtain ⟨x1, ex1⟩ : ∃ y : Int, h.2.2 60 33 = y := ⟨_, rfl⟩
  have rx1 := hI.atR (a := 60) (j := 33) rfl
  rw [ex1] at rx1
  refine to_aload_n (dat dk_X12_addPart 0 rfl) rfl (to_getR 81 g_c13_78 (dat dk_X12_addPart 1 rfl) (hI.atS rfl) (hI.atE rfl) (to_aload_n (dat dk_X12_addPart 2 rfl) rfl (to_getIv (y := x1) ex1 g_c13_240 (dat dk_X12_addPart 3 rfl) (hI.atS rfl) (to_iload_n (dat dk_X12_addPart 4 rfl) rfl (to_iastw (dat dk_X12_addPart 5 rfl) (hI.atS rfl) rfl (by decide) (by omega) ?_)))))
  intro h4 wh4
  have I2 : Inv h4 := by rw [wh4]; exact hI.put (a := 81) (j := (Int.toNat x1)) (x := f) (0) (240000) rfl rfl (show (0 : Int) ≤ f ∧ f ≤ 240000 by omega)
  have f3 : Fr [81, 82, 233] h h4 := by rw [wh4]; exact Fr.putF (a := 81) (j := (Int.toNat x1)) (x := f) (Fr.rf _ _) rfl
  refine to_aload_n (dat dk_X12_addPart 6 rfl) rfl (to_getR 82 g_c13_81 (dat dk_X12_addPart 7 rfl) (I2.atS rfl) (I2.atE rfl) (to_aload_n (dat dk_X12_addPart 8 rfl) rfl (to_getIv (y := x1) (by rw [wh4]; exact ex1) g_c13_240 (dat dk_X12_addPart 9 rfl) (I2.atS rfl) (to_iload_n (dat dk_X12_addPart 10 rfl) rfl (to_iastw (dat dk_X12_addPart 11 rfl) (I2.atS rfl) rfl (by decide) (by omega) ?_)))))
  intro h7 wh7
  have I5 : Inv h7 := by rw [wh7]; exact I2.put (a := 82) (j := (Int.toNat x1)) (x := g) (0) (240000) rfl rfl (show (0 : Int) ≤ g ∧ g ≤ 240000 by omega)
  have f6 : Fr [81, 82, 233] h h7 := by rw [wh7]; exact Fr.putF (a := 82) (j := (Int.toNat x1)) (x := g) f3 rfl
  refine to_aload_n (dat dk_X12_addPart 12 rfl) rfl (to_dup (dat dk_X12_addPart 13 rfl) rfl (to_getIv (y := x1) (by rw [wh7]; exact (show h4.2.2 60 33 = x1 from (by rw [wh4]; exact ex1))) g_c13_240 (dat dk_X12_addPart 14 rfl) (I5.atS rfl) (to_iconst (dat dk_X12_addPart 15 rfl) (to_iadd (dat dk_X12_addPart 16 rfl) (to_putIw p_c13_240 (dat dk_X12_addPart 17 rfl) (I5.atS rfl) ?_)))))
  intro h10 wh10
  have I8 : Inv h10 := by rw [wh10]; exact I5.put (a := 60) (j := 33) (x := (x1 + 1)) (0) (1300) rfl rfl (show (0 : Int) ≤ (x1 + 1) ∧ (x1 + 1) ≤ 1300 by omega)
  have f9 : Fr [81, 82, 233] h h10 := by rw [wh10]; exact Fr.putF (a := 60) (j := 33) (x := (x1 + 1)) f6 rfl
  have e11 : h10.2.2 60 33 = (x1 + 1) := (by rw [wh10]; exact wr_eq)
  exact to_vret rfl (dat dk_X12_addPart 18 rfl) (rv_mk ⟨I8, f9, (show h10.2.2 60 33 = h.2.2 60 33 + 1 by omega)⟩)
abbrev Q_X12_push (h : Hp) (f : Int) (g : Int) (d : Int) : Option V → Hp → Nat → Nat → Prop := RV (fun H => Inv H ∧ Fr [78, 79, 80, 229] h H ∧ (H.2.2 60 29 = h.2.2 60 29 + 1))
set_option maxRecDepth 100000 in
theorem ct_X12_push (l : Launch) (h : Hp) (hI : Inv h) (f : Int) (hf : I32 f) (g : Int) (hg : I32 g) (d : Int) (hd : I32 d) (g0 : 0 ≤ f ∧ f ≤ 240000) (g1 : 0 ≤ g ∧ g ≤ 240000) (g2 : 0 ≤ d ∧ d ≤ 5) (g3 : h.2.2 60 29 ≤ 3999) : Ct l D_X12_push 0 0 [.inr (.inr 60), .inl f, .inl g, .inl d] h (Q_X12_push h f g d) := by
  refine ct_of pn_X12_push (Nat.le_of_ble_eq_true rfl) ?_
  show To l E_X12_push (0, [(0, .inr (.inr 60)), (1, .inl f), (2, .inl g), (3, .inl d)], [], h, 0, 0) _
  obtain ⟨x1, ex1⟩ : ∃ y : Int, h.2.2 60 29 = y := ⟨_, rfl⟩
  have rx1 := hI.atR (a := 60) (j := 29) rfl
  rw [ex1] at rx1
  refine to_aload_n (dat dk_X12_push 0 rfl) rfl (to_getR 78 g_c13_69 (dat dk_X12_push 1 rfl) (hI.atS rfl) (hI.atE rfl) (to_aload_n (dat dk_X12_push 2 rfl) rfl (to_getIv (y := x1) ex1 g_c13_251 (dat dk_X12_push 3 rfl) (hI.atS rfl) (to_iload_n (dat dk_X12_push 4 rfl) rfl (to_iastw (dat dk_X12_push 5 rfl) (hI.atS rfl) rfl (by decide) (by omega) ?_)))))
  intro h4 wh4
  have I2 : Inv h4 := by rw [wh4]; exact hI.put (a := 78) (j := (Int.toNat x1)) (x := f) (0) (240000) rfl rfl (show (0 : Int) ≤ f ∧ f ≤ 240000 by omega)
  have f3 : Fr [78, 79, 80, 229] h h4 := by rw [wh4]; exact Fr.putF (a := 78) (j := (Int.toNat x1)) (x := f) (Fr.rf _ _) rfl
  refine to_aload_n (dat dk_X12_push 6 rfl) rfl (to_getR 79 g_c13_72 (dat dk_X12_push 7 rfl) (I2.atS rfl) (I2.atE rfl) (to_aload_n (dat dk_X12_push 8 rfl) rfl (to_getIv (y := x1) (by rw [wh4]; exact ex1) g_c13_251 (dat dk_X12_push 9 rfl) (I2.atS rfl) (to_iload_n (dat dk_X12_push 10 rfl) rfl (to_iastw (dat dk_X12_push 11 rfl) (I2.atS rfl) rfl (by decide) (by omega) ?_)))))
  intro h7 wh7
  have I5 : Inv h7 := by rw [wh7]; exact I2.put (a := 79) (j := (Int.toNat x1)) (x := g) (0) (240000) rfl rfl (show (0 : Int) ≤ g ∧ g ≤ 240000 by omega)
  have f6 : Fr [78, 79, 80, 229] h h7 := by rw [wh7]; exact Fr.putF (a := 79) (j := (Int.toNat x1)) (x := g) f3 rfl
  refine to_aload_n (dat dk_X12_push 12 rfl) rfl (to_getR 80 g_c13_75 (dat dk_X12_push 13 rfl) (I5.atS rfl) (I5.atE rfl) (to_aload_n (dat dk_X12_push 14 rfl) rfl (to_getIv (y := x1) (by rw [wh7]; exact (show h4.2.2 60 29 = x1 from (by rw [wh4]; exact ex1))) g_c13_251 (dat dk_X12_push 15 rfl) (I5.atS rfl) (to_iload_n (dat dk_X12_push 16 rfl) rfl (to_iastw (dat dk_X12_push 17 rfl) (I5.atS rfl) rfl (by decide) (by omega) ?_)))))
  intro h10 wh10
  have I8 : Inv h10 := by rw [wh10]; exact I5.put (a := 80) (j := (Int.toNat x1)) (x := d) (0) (5) rfl rfl (show (0 : Int) ≤ d ∧ d ≤ 5 by omega)
  have f9 : Fr [78, 79, 80, 229] h h10 := by rw [wh10]; exact Fr.putF (a := 80) (j := (Int.toNat x1)) (x := d) f6 rfl
  refine to_aload_n (dat dk_X12_push 18 rfl) rfl (to_dup (dat dk_X12_push 19 rfl) rfl (to_getIv (y := x1) (by rw [wh10]; exact (show h7.2.2 60 29 = x1 from (by rw [wh7]; exact (show h4.2.2 60 29 = x1 from (by rw [wh4]; exact ex1))))) g_c13_251 (dat dk_X12_push 20 rfl) (I8.atS rfl) (to_iconst (dat dk_X12_push 21 rfl) (to_iadd (dat dk_X12_push 22 rfl) (to_putIw p_c13_251 (dat dk_X12_push 23 rfl) (I8.atS rfl) ?_)))))
  intro h13 wh13
  have I11 : Inv h13 := by rw [wh13]; exact I8.put (a := 60) (j := 29) (x := (x1 + 1)) (0) (4000) rfl rfl (show (0 : Int) ≤ (x1 + 1) ∧ (x1 + 1) ≤ 4000 by omega)
  have f12 : Fr [78, 79, 80, 229] h h13 := by rw [wh13]; exact Fr.putF (a := 60) (j := 29) (x := (x1 + 1)) f9 rfl
  have e14 : h13.2.2 60 29 = (x1 + 1) := (by rw [wh13]; exact wr_eq)
  exact to_vret rfl (dat dk_X12_push 24 rfl) (rv_mk ⟨I11, f12, (show h13.2.2 60 29 = h.2.2 60 29 + 1 by omega)⟩)
abbrev Q_X12_findParts (h : Hp) (f : Int) (g : Int) : Option V → Hp → Nat → Nat → Prop := RV (fun H => Inv H ∧ Fr [81, 82, 233] h H ∧ (H.2.2 60 33 ≤ g - f + 1))
set_option maxRecDepth 100000 in
theorem ct_X12_findParts (l : Launch) (h : Hp) (hI : Inv h) (f : Int) (hf : I32 f) (g : Int) (hg : I32 g) (g0 : 0 ≤ f ∧ f ≤ g) (g1 : g ≤ 240000) (g2 : g - f ≤ 1200) : Ct l D_X12_findParts 2 44 [.inr (.inr 60), .inl f, .inl g] h (Q_X12_findParts h f g) := by
  refine ct_of pn_X12_findParts (Nat.le_of_ble_eq_true rfl) ?_
  show To l E_X12_findParts (0, [(0, .inr (.inr 60)), (1, .inl f), (2, .inl g)], [], h, 0, 0) _
  obtain ⟨x1, ex1⟩ : ∃ y : Int, h.2.2 60 33 = y := ⟨_, rfl⟩
  have rx1 := hI.atR (a := 60) (j := 33) rfl
  rw [ex1] at rx1
  refine to_aload_n (dat dk_X12_findParts 0 rfl) rfl (to_iconst (dat dk_X12_findParts 1 rfl) (to_putIw p_c13_240 (dat dk_X12_findParts 2 rfl) (hI.atS rfl) ?_))
  intro h4 wh4
  have I2 : Inv h4 := by rw [wh4]; exact hI.put (a := 60) (j := 33) (x := 0) (0) (1300) rfl rfl (show (0 : Int) ≤ 0 ∧ 0 ≤ 1300 by decide)
  have f3 : Fr [81, 82, 233] h h4 := by rw [wh4]; exact Fr.putF (a := 60) (j := 33) (x := 0) (Fr.rf _ _) rfl
  refine to_iconst (dat dk_X12_findParts 3 rfl) (to_istore_n (L' := [(0, .inr (.inr 60)), (1, .inl f), (2, .inl g), (3, .inl (-1))]) (dat dk_X12_findParts 4 rfl) (by decide) rfl (to_iload_n (dat dk_X12_findParts 5 rfl) rfl (to_istore (L' := [(0, .inr (.inr 60)), (1, .inl f), (2, .inl g), (3, .inl (-1)), (4, .inl f)]) (dat dk_X12_findParts 6 rfl) (by decide) rfl ?_)))
  have e10 : h4.2.2 60 33 = (0 : Int) := (by rw [wh4]; exact wr_eq)
  have lp10_n12 : ∀ (n12 : Nat) (y5 : Int) (y6 : Int) (h7 : Hp), (I32 y5) → (I32 y6) → (Inv h7) → (Fr [81, 82, 233] h h7) → (f ≤ y6 ∧ y6 ≤ g) → (-1 ≤ y5 ∧ y5 ≤ y6) → (h7.2.2 60 33 ≤ y6 - f) → (g - y6 ≤ (n12 : Int)) → To l E_X12_findParts (10, [(0, .inr (.inr 60)), (1, .inl f), (2, .inl g), (3, .inl y5), (4, .inl y6)], [], h7, 0, 0) (Q_X12_findParts h f g) := by
    intro n12
    induction n12 using Nat.strongRecOn with
    | _ n12 ihn12 =>
    intro y5 y6 h7 ry5 ry6 Ih7 fh7 c8 c9 c11 c13
    obtain ⟨x14, ex14⟩ : ∃ y : Int, h7.2.2 60 33 = y := ⟨_, rfl⟩
    have rx14 := Ih7.atR (a := 60) (j := 33) rfl
    rw [ex14] at rx14
    refine to_iload (dat dk_X12_findParts 7 rfl) rfl (to_iload_n (dat dk_X12_findParts 8 rfl) rfl ?_)
    refine to_ige 130 (dat dk_X12_findParts 9 rfl) rfl ry6 hg (fun c15 => ?_) (fun c15 => ?_)
    · skip
      refine to_iload_n (dat dk_X12_findParts 70 rfl) rfl (to_iconst (dat dk_X12_findParts 71 rfl) ?_)
      refine to_ieq 141 (dat dk_X12_findParts 72 rfl) rfl ry5 (by decide) (fun c16 => ?_) (fun c16 => ?_)
      · skip
        exact to_vret rfl (dat dk_X12_findParts 77 rfl) (rv_mk ⟨Ih7, fh7, (show h7.2.2 60 33 ≤ g - f + 1 by omega)⟩)
      · skip
        refine to_aload_n (dat dk_X12_findParts 73 rfl) rfl (to_iload_n (dat dk_X12_findParts 74 rfl) rfl (to_iload_n (dat dk_X12_findParts 75 rfl) rfl ?_))
        refine to_cV ca_c13_247 (dat dk_X12_findParts 76 rfl) (ct_X12_addPart l h7 Ih7 y5 ry5 g hg (show 0 ≤ y5 ∧ y5 ≤ 240000 by omega) (show 0 ≤ g ∧ g ≤ 240000 by omega) (show h7.2.2 60 33 ≤ 1299 by omega)) rfl ⟨_, _, rfl, (Ih7.atS rfl)⟩ rfl (fun h18 p19 => ?_)
        obtain ⟨Ih18, fh18, p19_0⟩ := p19
        have f20 : Fr [81, 82, 233] h h18 := Fr.sub fh7 fh18 (sub_self _)
        obtain ⟨x21, ex21⟩ : ∃ y : Int, h18.2.2 60 33 = y := ⟨_, rfl⟩
        have rx21 := Ih18.atR (a := 60) (j := 33) rfl
        rw [ex21] at rx21
        exact to_vret rfl (dat dk_X12_findParts 77 rfl) (rv_mk ⟨Ih18, f20, (show h18.2.2 60 33 ≤ g - f + 1 by omega)⟩)
    · skip
      refine to_aload_n (dat dk_X12_findParts 10 rfl) rfl (to_getR 63 g_c13_17 (dat dk_X12_findParts 11 rfl) (Ih7.atS rfl) (Ih7.atE rfl) (to_iload (dat dk_X12_findParts 12 rfl) rfl (to_iload_n (dat dk_X12_findParts 13 rfl) rfl ?_)))
      refine to_cI ca_c13_174 (dat dk_X12_findParts 14 rfl) (ct_X12_lineEnd l h7 Ih7 63 240000 rfl y6 ry6 g hg (show 0 ≤ y6 by omega) (show g ≤ (240000 : Int) by omega)) rfl trivial rfl (fun x22 h23 rx22 p24 => ?_)
      obtain ⟨rfl, p24_0, p24_1⟩ := p24
      refine to_istore (L' := [(0, .inr (.inr 60)), (1, .inl f), (2, .inl g), (3, .inl y5), (4, .inl y6), (5, .inl x22)]) (dat dk_X12_findParts 15 rfl) (by decide) rfl ?_
      have jn42_n27 : ∀ (y25 : Int), (I32 y25) → ((x22 < g ∧ y25 = x22 + 1) ∨ (g ≤ x22 ∧ y25 = g)) → To l E_X12_findParts (42, [(0, .inr (.inr 60)), (1, .inl f), (2, .inl g), (3, .inl y5), (4, .inl y6), (5, .inl x22)], [.inl y25], h7, 0, 0) (Q_X12_findParts h f g) := by
        intro y25 ry25 c26
        refine to_istore (L' := [(0, .inr (.inr 60)), (1, .inl f), (2, .inl g), (3, .inl y5), (4, .inl y6), (5, .inl x22), (6, .inl y25)]) (dat dk_X12_findParts 24 rfl) (by decide) rfl (to_aload_n (dat dk_X12_findParts 25 rfl) rfl (to_iload (dat dk_X12_findParts 26 rfl) rfl (to_aload_n (dat dk_X12_findParts 27 rfl) rfl (to_getR 63 g_c13_17 (dat dk_X12_findParts 28 rfl) (Ih7.atS rfl) (Ih7.atE rfl) (to_iload (dat dk_X12_findParts 29 rfl) rfl (to_iload (dat dk_X12_findParts 30 rfl) rfl (to_iload_n (dat dk_X12_findParts 31 rfl) rfl ?_)))))))
        refine to_cI ca_c13_178 (dat dk_X12_findParts 32 rfl) (ct_X12_textEnd l h7 Ih7 63 240000 rfl y6 ry6 x22 rx22 g hg (show 0 ≤ y6 by omega) (show g ≤ (240000 : Int) by omega)) rfl trivial rfl (fun x28 h29 rx28 p30 => ?_)
        obtain ⟨rfl, p30_0, p30_1⟩ := p30
        refine to_cI ca_c13_243 (dat dk_X12_findParts 33 rfl) (ct_X12_mark l h7 Ih7 y6 ry6 x28 rx28 (show 0 ≤ y6 ∧ y6 ≤ x28 by omega) (show x28 ≤ 240000 by omega)) rfl ⟨_, _, rfl, (Ih7.atS rfl)⟩ rfl (fun x31 h32 rx31 p33 => ?_)
        obtain ⟨rfl, p33_0⟩ := p33
        refine to_istore (L' := [(0, .inr (.inr 60)), (1, .inl f), (2, .inl g), (3, .inl y5), (4, .inl y6), (5, .inl x22), (6, .inl y25), (7, .inl x31)]) (dat dk_X12_findParts 34 rfl) (by decide) rfl ?_
        have jn103_n36 : ∀ (h34 : Hp), (Inv h34) → (Fr [81, 82, 233] h h34) → (h34.2.2 60 33 ≤ y6 - f + 1) → To l E_X12_findParts (103, [(0, .inr (.inr 60)), (1, .inl f), (2, .inl g), (3, .inl y5), (4, .inl y6), (5, .inl x22), (6, .inl y25), (7, .inl x31)], [], h34, 0, 0) (Q_X12_findParts h f g) := by
          intro h34 Ih34 fh34 c35
          obtain ⟨x37, ex37⟩ : ∃ y : Int, h34.2.2 60 33 = y := ⟨_, rfl⟩
          have rx37 := Ih34.atR (a := 60) (j := 33) rfl
          rw [ex37] at rx37
          refine to_iload (dat dk_X12_findParts 56 rfl) rfl (to_iconst (dat dk_X12_findParts 57 rfl) ?_)
          refine to_ine 110 (dat dk_X12_findParts 58 rfl) rfl rx31 (by decide) (fun c38 => ?_) (fun c38 => ?_)
          · skip
            have jn122_n41 : ∀ (y39 : Int), (I32 y39) → (-1 ≤ y39 ∧ y39 ≤ y25) → To l E_X12_findParts (122, [(0, .inr (.inr 60)), (1, .inl f), (2, .inl g), (3, .inl y5), (4, .inl y6), (5, .inl x22), (6, .inl y25), (7, .inl x31)], [.inl y39], h34, 0, 0) (Q_X12_findParts h f g) := by
              intro y39 ry39 c40
              refine to_istore_n (L' := [(0, .inr (.inr 60)), (1, .inl f), (2, .inl g), (3, .inl y39), (4, .inl y6), (5, .inl x22), (6, .inl y25), (7, .inl x31)]) (dat dk_X12_findParts 66 rfl) (by decide) rfl (to_iload (dat dk_X12_findParts 67 rfl) rfl (to_istore (L' := [(0, .inr (.inr 60)), (1, .inl f), (2, .inl g), (3, .inl y39), (4, .inl y25), (5, .inl x22), (6, .inl y25), (7, .inl x31)]) (dat dk_X12_findParts 68 rfl) (by decide) rfl (to_goto (dat dk_X12_findParts 69 rfl) rfl ?_)))
              refine to_pick [0, 1, 2, 3, 4] rfl ?_
              exact ihn12 (n12 - 1) (by omega) y39 y25 h34 ry39 ry25 Ih34 fh34 (show f ≤ y25 ∧ y25 ≤ g by omega) (show -1 ≤ y39 ∧ y39 ≤ y25 by omega) (show h34.2.2 60 33 ≤ y25 - f by omega) (show g - y25 ≤ ((n12 - 1 : Nat) : Int) by omega)
            refine to_iload (dat dk_X12_findParts 60 rfl) rfl (to_iconst (dat dk_X12_findParts 61 rfl) ?_)
            refine to_ine 121 (dat dk_X12_findParts 62 rfl) rfl rx31 (by decide) (fun c42 => ?_) (fun c42 => ?_)
            · skip
              refine to_iload_n (dat dk_X12_findParts 65 rfl) rfl ?_
              exact jn122_n41 y5 ry5 (show -1 ≤ y5 ∧ y5 ≤ y25 by omega)
            · skip
              refine to_iload (dat dk_X12_findParts 63 rfl) rfl (to_goto (dat dk_X12_findParts 64 rfl) rfl ?_)
              exact jn122_n41 y25 ry25 (show -1 ≤ y25 ∧ y25 ≤ y25 by omega)
          · skip
            exact to_vret rfl (dat dk_X12_findParts 59 rfl) (rv_mk ⟨Ih34, fh34, (show h34.2.2 60 33 ≤ g - f + 1 by omega)⟩)
        refine to_iload (dat dk_X12_findParts 35 rfl) rfl ?_
        refine to_ifle 103 (dat dk_X12_findParts 36 rfl) rfl rx31 (fun c43 => ?_) (fun c43 => ?_)
        · skip
          exact jn103_n36 h7 Ih7 fh7 (show h7.2.2 60 33 ≤ y6 - f + 1 by omega)
        · skip
          refine to_iload_n (dat dk_X12_findParts 37 rfl) rfl (to_iconst (dat dk_X12_findParts 38 rfl) ?_)
          refine to_ieq 103 (dat dk_X12_findParts 39 rfl) rfl ry5 (by decide) (fun c44 => ?_) (fun c44 => ?_)
          · skip
            exact jn103_n36 h7 Ih7 fh7 (show h7.2.2 60 33 ≤ y6 - f + 1 by omega)
          · skip
            refine to_aload_n (dat dk_X12_findParts 40 rfl) rfl (to_iload_n (dat dk_X12_findParts 41 rfl) rfl (to_iload (dat dk_X12_findParts 42 rfl) rfl (to_iload_n (dat dk_X12_findParts 43 rfl) rfl ?_)))
            refine to_ile 99 (dat dk_X12_findParts 44 rfl) rfl ry6 ry5 (fun c45 => ?_) (fun c45 => ?_)
            · skip
              refine to_iload_n (dat dk_X12_findParts 54 rfl) rfl ?_
              refine to_cV ca_c13_247 (dat dk_X12_findParts 55 rfl) (ct_X12_addPart l h7 Ih7 y5 ry5 y5 ry5 (show 0 ≤ y5 ∧ y5 ≤ 240000 by omega) (show 0 ≤ y5 ∧ y5 ≤ 240000 by omega) (show h7.2.2 60 33 ≤ 1299 by omega)) rfl ⟨_, _, rfl, (Ih7.atS rfl)⟩ rfl (fun h47 p48 => ?_)
              obtain ⟨Ih47, fh47, p48_0⟩ := p48
              have f49 : Fr [81, 82, 233] h h47 := Fr.sub fh7 fh47 (sub_self _)
              obtain ⟨x50, ex50⟩ : ∃ y : Int, h47.2.2 60 33 = y := ⟨_, rfl⟩
              have rx50 := Ih47.atR (a := 60) (j := 33) rfl
              rw [ex50] at rx50
              exact jn103_n36 h47 Ih47 f49 (show h47.2.2 60 33 ≤ y6 - f + 1 by omega)
            · skip
              refine to_aload_n (dat dk_X12_findParts 45 rfl) rfl (to_getR 63 g_c13_17 (dat dk_X12_findParts 46 rfl) (Ih7.atS rfl) (Ih7.atE rfl) (to_iload_n (dat dk_X12_findParts 47 rfl) rfl (to_iload (dat dk_X12_findParts 48 rfl) rfl (to_iconst (dat dk_X12_findParts 49 rfl) (to_isub (dat dk_X12_findParts 50 rfl) (to_iload (dat dk_X12_findParts 51 rfl) rfl ?_))))))
              refine to_cI ca_c13_178 (dat dk_X12_findParts 52 rfl) (ct_X12_textEnd l h7 Ih7 63 240000 rfl y5 ry5 (y6 - 1) (by omega) y6 ry6 (show 0 ≤ y5 by omega) (show y6 ≤ (240000 : Int) by omega)) rfl trivial rfl (fun x51 h52 rx51 p53 => ?_)
              obtain ⟨rfl, p53_0, p53_1⟩ := p53
              refine to_goto (dat dk_X12_findParts 53 rfl) rfl ?_
              refine to_cV ca_c13_247 (dat dk_X12_findParts 55 rfl) (ct_X12_addPart l h7 Ih7 y5 ry5 x51 rx51 (show 0 ≤ y5 ∧ y5 ≤ 240000 by omega) (show 0 ≤ x51 ∧ x51 ≤ 240000 by omega) (show h7.2.2 60 33 ≤ 1299 by omega)) rfl ⟨_, _, rfl, (Ih7.atS rfl)⟩ rfl (fun h55 p56 => ?_)
              obtain ⟨Ih55, fh55, p56_0⟩ := p56
              have f57 : Fr [81, 82, 233] h h55 := Fr.sub fh7 fh55 (sub_self _)
              obtain ⟨x58, ex58⟩ : ∃ y : Int, h55.2.2 60 33 = y := ⟨_, rfl⟩
              have rx58 := Ih55.atR (a := 60) (j := 33) rfl
              rw [ex58] at rx58
              exact jn103_n36 h55 Ih55 f57 (show h55.2.2 60 33 ≤ y6 - f + 1 by omega)
      refine to_iload (dat dk_X12_findParts 16 rfl) rfl (to_iload_n (dat dk_X12_findParts 17 rfl) rfl ?_)
      refine to_ige 41 (dat dk_X12_findParts 18 rfl) rfl rx22 hg (fun c59 => ?_) (fun c59 => ?_)
      · skip
        refine to_iload_n (dat dk_X12_findParts 23 rfl) rfl ?_
        exact jn42_n27 g hg (show (x22 < g ∧ g = x22 + 1) ∨ (g ≤ x22 ∧ g = g) by omega)
      · skip
        refine to_iload (dat dk_X12_findParts 19 rfl) rfl (to_iconst (dat dk_X12_findParts 20 rfl) (to_iadd (dat dk_X12_findParts 21 rfl) (to_goto (dat dk_X12_findParts 22 rfl) rfl ?_)))
        exact jn42_n27 (x22 + 1) (by omega) (show (x22 < g ∧ (x22 + 1) = x22 + 1) ∨ (g ≤ x22 ∧ (x22 + 1) = g) by omega)
  exact lp10_n12 (g - f).toNat (-1) f h4 (by decide) hf I2 f3 (show f ≤ f ∧ f ≤ g by omega) (show -1 ≤ (-1 : Int) ∧ (-1 : Int) ≤ f by omega) (show h4.2.2 60 33 ≤ f - f by omega) (by omega)
