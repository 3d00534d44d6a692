/-! Contracts, by program. -/
abbrev Q_X5_readWord_vx (h : Hp) : Option V → Hp → Nat → Nat → Prop := RI (fun x H => Inv H ∧ Fr [56] h H ∧ (x = wk (qr h) (qn h) (Int.toNat (h.2.2 56 1)) (skp noSg (qr h) (qn h) (Int.toNat (h.2.2 56 1)))) ∧ (x = 7 ∨ (H.2.2 56 2 = wb (qr h) (qn h) (Int.toNat (h.2.2 56 1)) (skp noSg (qr h) (qn h) (Int.toNat (h.2.2 56 1))) ∧ h.2.2 56 1 < H.2.2 56 2 ∧ H.2.2 56 2 ≤ H.2.2 6 1)) ∧ (H.2.2 56 1 = h.2.2 56 1))
set_option maxRecDepth 100000 in
theorem ct_X5_readWord_vx (l : Launch) (h : Hp) (hI : Inv h) (g0 : 0 ≤ h.2.2 56 1 ∧ h.2.2 56 1 < h.2.2 6 1) (g1 : h.2.2 56 3 = 8) (g2 : noSg (qr h (Int.toNat (h.2.2 56 1))) = true) : Ct l D_X5_readWord 7 155 [.inr (.inr 56)] h (Q_X5_readWord_vx h) := by
  refine ct_of pn_X5_readWord (Nat.le_of_ble_eq_true rfl) ?_
  show To l E_X5_readWord (0, [(0, .inr (.inr 56))], [], h, 0, 0) _
  have zq := qn_is hI
  obtain ⟨x1, ex1⟩ : ∃ y : Int, h.2.2 56 2 = y := ⟨_, rfl⟩
  have rx1 := hI.atR (a := 56) (j := 2) rfl
  rw [ex1] at rx1
  obtain ⟨x2, ex2⟩ : ∃ y : Int, h.2.2 56 1 = y := ⟨_, rfl⟩
  have rx2 := hI.atR (a := 56) (j := 1) rfl
  rw [ex2] at rx2
  obtain ⟨x3, ex3⟩ : ∃ y : Int, h.2.2 6 1 = y := ⟨_, rfl⟩
  have rx3 := hI.atR (a := 6) (j := 1) rfl
  rw [ex3] at rx3
  obtain ⟨x4, ex4⟩ : ∃ y : Int, h.2.2 56 3 = y := ⟨_, rfl⟩
  have rx4 := hI.atR (a := 56) (j := 3) rfl
  rw [ex4] at rx4
  obtain ⟨x5, ex5⟩ : ∃ y : Int, h.2.2 56 4 = y := ⟨_, rfl⟩
  have rx5 := hI.atR (a := 56) (j := 4) rfl
  rw [ex5] at rx5
  obtain ⟨x6, ex6⟩ : ∃ y : Int, h.2.2 56 5 = y := ⟨_, rfl⟩
  have rx6 := hI.atR (a := 56) (j := 5) rfl
  rw [ex6] at rx6
  refine to_aload_n (dat dk_X5_readWord 0 rfl) rfl (to_aload_n (dat dk_X5_readWord 1 rfl) rfl ?_)
  refine to_cI ca_c6_59 (dat dk_X5_readWord 2 rfl) (ct_X5_wordStop_vx l h hI (show h.2.2 56 1 ≤ h.2.2 6 1 by omega)) rfl ⟨_, _, rfl, (hI.atS rfl)⟩ rfl (fun x7 h8 rx7 p9 => ?_)
  obtain ⟨rfl, p9_0⟩ := p9
  refine to_putIw p_c6_56 (dat dk_X5_readWord 3 rfl) (hI.atS rfl) ?_
  intro h12 wh12
  have I10 : Inv h12 := by rw [wh12]; exact hI.put (a := 56) (j := 5) (x := x7) (0) (1201) rfl rfl (show (0 : Int) ≤ x7 ∧ x7 ≤ 1201 by omega)
  have f11 : Fr [56] h h12 := by rw [wh12]; exact Fr.putF (a := 56) (j := 5) (x := x7) (Fr.rf _ _) rfl
  have t13 : qr h12 = qr h := by rw [wh12]; exact qr_wr rfl
  have t14 : qn h12 = qn h := by rw [wh12]; exact qn_wr rfl
  refine to_aload_n (dat dk_X5_readWord 4 rfl) rfl (to_aload_n (dat dk_X5_readWord 5 rfl) rfl (to_getIv (y := x7) (by rw [wh12]; exact wr_eq) g_c6_56 (dat dk_X5_readWord 6 rfl) (I10.atS rfl) (to_putIw p_c6_15 (dat dk_X5_readWord 7 rfl) (I10.atS rfl) ?_)))
  intro h17 wh17
  have I15 : Inv h17 := by rw [wh17]; exact I10.put (a := 56) (j := 2) (x := x7) (0) (1202) rfl rfl (show (0 : Int) ≤ x7 ∧ x7 ≤ 1202 by omega)
  have f16 : Fr [56] h h17 := by rw [wh17]; exact Fr.putF (a := 56) (j := 2) (x := x7) f11 rfl
  have t18 : qr h17 = qr h12 := by rw [wh17]; exact qr_wr rfl
  have t19 : qn h17 = qn h12 := by rw [wh17]; exact qn_wr rfl
  have zE20 : Int.toNat x7 = (skp noSg (qr h) (qn h) (Int.toNat (h.2.2 56 1))) := by have := p9_0; omega
  have zl : (skp noSg (qr h) (qn h) (Int.toNat (h.2.2 56 1))) ≤ qn h := skp_le (by omega)
  have zg : (Int.toNat (h.2.2 56 1)) < (skp noSg (qr h) (qn h) (Int.toNat (h.2.2 56 1))) := skp_gt (by omega) g2
  have zw := wk_n (r := qr h) (n := qn h) (p := (Int.toNat (h.2.2 56 1))) (e := (skp noSg (qr h) (qn h) (Int.toNat (h.2.2 56 1))))
  refine to_aload_n (dat dk_X5_readWord 8 rfl) rfl (to_getR 6 g_c6_9 (dat dk_X5_readWord 9 rfl) (I15.atS rfl) (I15.atE rfl) (to_aload_n (dat dk_X5_readWord 10 rfl) rfl (to_getIv (y := x2) (by rw [wh17]; exact (show h12.2.2 56 1 = x2 from (by rw [wh12]; exact ex2))) g_c6_29 (dat dk_X5_readWord 11 rfl) (I15.atS rfl) (to_aload_n (dat dk_X5_readWord 12 rfl) rfl (to_getIv (y := x7) (by rw [wh17]; exact (show h12.2.2 56 5 = x7 from (by rw [wh12]; exact wr_eq))) g_c6_56 (dat dk_X5_readWord 13 rfl) (I15.atS rfl) (to_ldcS (q := 137) (tx := "or") (List.mem_of_getElem? (i := 18) rfl) (dat dk_X5_readWord 14 rfl) (to_iconst (dat dk_X5_readWord 15 rfl) ?_)))))))
  have e21 : h17.2.2 6 1 = x3 := (by rw [wh17]; exact (show h12.2.2 6 1 = x3 from (by rw [wh12]; exact ex3)))
  refine to_cI ca_c6_64 (dat dk_X5_readWord 16 rfl) (ct_X1_is_vx l h17 I15 x2 (by omega) x7 rx7 1000137 2 (List.mem_of_getElem? (i := 18) rfl) 0 (by decide) (show (0 : Int) = 0 by omega) (show 0 ≤ x2 ∧ x2 ≤ x7 ∧ x7 ≤ h17.2.2 6 1 by omega)) rfl ⟨_, _, rfl, (I15.atS rfl)⟩ rfl (fun x22 h23 rx22 p24 => ?_)
  obtain ⟨rfl, zx22, p24_0⟩ := p24
  rw [(t18.trans t13), ← ex2, zE20, (show cod 1000137 = wOR by rw [cod_eq]; decide +kernel)] at p24_0
  refine to_ifeq 39 (dat dk_X5_readWord 17 rfl) rfl rx22 (fun c25 => ?_) (fun c25 => ?_)
  · skip
    refine to_aload_n (dat dk_X5_readWord 20 rfl) rfl (to_getR 6 g_c6_9 (dat dk_X5_readWord 21 rfl) (I15.atS rfl) (I15.atE rfl) (to_aload_n (dat dk_X5_readWord 22 rfl) rfl (to_getIv (y := x2) (by rw [wh17]; exact (show h12.2.2 56 1 = x2 from (by rw [wh12]; exact ex2))) g_c6_29 (dat dk_X5_readWord 23 rfl) (I15.atS rfl) (to_aload_n (dat dk_X5_readWord 24 rfl) rfl (to_getIv (y := x7) (by rw [wh17]; exact (show h12.2.2 56 5 = x7 from (by rw [wh12]; exact wr_eq))) g_c6_56 (dat dk_X5_readWord 25 rfl) (I15.atS rfl) (to_ldcS (q := 139) (tx := "and") (List.mem_of_getElem? (i := 19) rfl) (dat dk_X5_readWord 26 rfl) (to_iconst (dat dk_X5_readWord 27 rfl) ?_)))))))
    refine to_cI ca_c6_64 (dat dk_X5_readWord 28 rfl) (ct_X1_is_vx l h17 I15 x2 (by omega) x7 rx7 1000139 3 (List.mem_of_getElem? (i := 19) rfl) 0 (by decide) (show (0 : Int) = 0 by omega) (show 0 ≤ x2 ∧ x2 ≤ x7 ∧ x7 ≤ h17.2.2 6 1 by omega)) rfl ⟨_, _, rfl, (I15.atS rfl)⟩ rfl (fun x26 h27 rx26 p28 => ?_)
    obtain ⟨rfl, zx26, p28_0⟩ := p28
    rw [(t18.trans t13), ← ex2, zE20, (show cod 1000139 = wAND by rw [cod_eq]; decide +kernel)] at p28_0
    refine to_ifeq 62 (dat dk_X5_readWord 29 rfl) rfl rx26 (fun c29 => ?_) (fun c29 => ?_)
    · skip
      refine to_aload_n (dat dk_X5_readWord 32 rfl) rfl (to_getR 6 g_c6_9 (dat dk_X5_readWord 33 rfl) (I15.atS rfl) (I15.atE rfl) (to_aload_n (dat dk_X5_readWord 34 rfl) rfl (to_getIv (y := x2) (by rw [wh17]; exact (show h12.2.2 56 1 = x2 from (by rw [wh12]; exact ex2))) g_c6_29 (dat dk_X5_readWord 35 rfl) (I15.atS rfl) (to_aload_n (dat dk_X5_readWord 36 rfl) rfl (to_getIv (y := x7) (by rw [wh17]; exact (show h12.2.2 56 5 = x7 from (by rw [wh12]; exact wr_eq))) g_c6_56 (dat dk_X5_readWord 37 rfl) (I15.atS rfl) (to_ldcS (q := 141) (tx := "not") (List.mem_of_getElem? (i := 20) rfl) (dat dk_X5_readWord 38 rfl) (to_iconst (dat dk_X5_readWord 39 rfl) ?_)))))))
      refine to_cI ca_c6_64 (dat dk_X5_readWord 40 rfl) (ct_X1_is_vx l h17 I15 x2 (by omega) x7 rx7 1000141 3 (List.mem_of_getElem? (i := 20) rfl) 0 (by decide) (show (0 : Int) = 0 by omega) (show 0 ≤ x2 ∧ x2 ≤ x7 ∧ x7 ≤ h17.2.2 6 1 by omega)) rfl ⟨_, _, rfl, (I15.atS rfl)⟩ rfl (fun x30 h31 rx30 p32 => ?_)
      obtain ⟨rfl, zx30, p32_0⟩ := p32
      rw [(t18.trans t13), ← ex2, zE20, (show cod 1000141 = wNOT by rw [cod_eq]; decide +kernel)] at p32_0
      refine to_ifeq 85 (dat dk_X5_readWord 41 rfl) rfl rx30 (fun c33 => ?_) (fun c33 => ?_)
      · skip
        refine to_aload_n (dat dk_X5_readWord 44 rfl) rfl ?_
        have e34 : h17.2.2 56 1 = x2 := (by rw [wh17]; exact (show h12.2.2 56 1 = x2 from (by rw [wh12]; exact ex2)))
        have e35 : h17.2.2 56 3 = x4 := (by rw [wh17]; exact (show h12.2.2 56 3 = x4 from (by rw [wh12]; exact ex4)))
        have e36 : h17.2.2 56 2 = x7 := (by rw [wh17]; exact wr_eq)
        have e37 : h17.2.2 56 5 = x7 := (by rw [wh17]; exact (show h12.2.2 56 5 = x7 from (by rw [wh12]; exact wr_eq)))
        refine to_cV ca_c6_72 (dat dk_X5_readWord 45 rfl) (ct_X5_readField_vx l h17 I15 (show 0 ≤ h17.2.2 56 1 ∧ h17.2.2 56 1 < h17.2.2 6 1 by omega) (show h17.2.2 56 3 = 8 by omega)) rfl ⟨_, _, rfl, (I15.atS rfl)⟩ rfl (fun h39 p40 => ?_)
        obtain ⟨Ih39, fh39, p40_0, p40_1, p40_2, p40_3, p40_4⟩ := p40
        have f41 : Fr [56] h h39 := Fr.sub f16 fh39 (sub_self _)
        have t42 : qr h39 = qr h17 := qr_fr fh39 I15 rfl
        have t43 : qn h39 = qn h17 := qn_fr fh39 I15 rfl
        obtain ⟨x44, ex44⟩ : ∃ y : Int, h39.2.2 56 3 = y := ⟨_, rfl⟩
        have rx44 := Ih39.atR (a := 56) (j := 3) rfl
        rw [ex44] at rx44
        obtain ⟨x45, ex45⟩ : ∃ y : Int, h39.2.2 56 4 = y := ⟨_, rfl⟩
        have rx45 := Ih39.atR (a := 56) (j := 4) rfl
        rw [ex45] at rx45
        obtain ⟨x46, ex46⟩ : ∃ y : Int, h39.2.2 56 1 = y := ⟨_, rfl⟩
        have rx46 := Ih39.atR (a := 56) (j := 1) rfl
        rw [ex46] at rx46
        obtain ⟨x47, ex47⟩ : ∃ y : Int, h39.2.2 56 2 = y := ⟨_, rfl⟩
        have rx47 := Ih39.atR (a := 56) (j := 2) rfl
        rw [ex47] at rx47
        obtain ⟨x48, ex48⟩ : ∃ y : Int, h39.2.2 56 5 = y := ⟨_, rfl⟩
        have rx48 := Ih39.atR (a := 56) (j := 5) rfl
        rw [ex48] at rx48
        have zp49 : h17.2.2 56 1 = h.2.2 56 1 := by omega
        rw [(t18.trans t13), (t19.trans t14), zp49] at p40_0
        rw [(t18.trans t13), (t19.trans t14), zp49] at p40_1
        have zf := fld_in (r := qr h) (p := (Int.toNat (h.2.2 56 1))) (e := (skp noSg (qr h) (qn h) (Int.toNat (h.2.2 56 1)))) (by omega)
        have zo := oneQ_n (r := qr h) (n := qn h) (p := (Int.toNat (h.2.2 56 1))) (e := (skp noSg (qr h) (qn h) (Int.toNat (h.2.2 56 1)))) (noSg_34 g2).1
        have jn133_n51 : (3 < h39.2.2 56 3 ∨ h39.2.2 56 4 ≠ h39.2.2 56 5 ∨ h39.2.2 6 1 ≤ h39.2.2 56 5 ∨ qr h (skp noSg (qr h) (qn h) (Int.toNat (h.2.2 56 1))) ≠ 34) → To l E_X5_readWord (133, [(0, .inr (.inr 56))], [], h39, 0, 0) (Q_X5_readWord_vx h) := by
          intro  c50
          have jn149_n54 : ∀ (y52 : Int), (y52 = 0 ∨ y52 = 1) → ((y52 = 1 ∧ h39.2.2 56 4 < h39.2.2 56 5) ∨ (y52 = 0 ∧ h39.2.2 56 5 ≤ h39.2.2 56 4)) → To l E_X5_readWord (149, [(0, .inr (.inr 56))], [.inl y52], h39, 0, 0) (Q_X5_readWord_vx h) := by
            intro y52 ry52 c53
            refine to_istore_n (L' := [(0, .inr (.inr 56)), (1, .inl y52)]) (dat dk_X5_readWord 75 rfl) (by decide) rfl ?_
            have jn201_n60 : ∀ (y55 : Int) (h56 : Hp), (y55 = 0 ∨ y55 = 1) → (Inv h56) → (Fr [56] h h56) → ((y55 = 1 ∧ oneQ (qr h) (qn h) (Int.toNat (h.2.2 56 1)) (skp noSg (qr h) (qn h) (Int.toNat (h.2.2 56 1))) = (((skp noSg (qr h) (qn h) (Int.toNat (h.2.2 56 1))) : Nat) : Int)) ∨ (y55 = 0 ∧ oneQ (qr h) (qn h) (Int.toNat (h.2.2 56 1)) (skp noSg (qr h) (qn h) (Int.toNat (h.2.2 56 1))) = -1)) → (h56.2.2 56 2 = (((skp noSg (qr h) (qn h) (Int.toNat (h.2.2 56 1))) : Nat) : Int)) → (h56.2.2 56 1 = h.2.2 56 1) → To l E_X5_readWord (201, [(0, .inr (.inr 56)), (1, .inl y55)], [], h56, 0, 0) (Q_X5_readWord_vx h) := by
              intro y55 h56 ry55 Ih56 fh56 c57 c58 c59
              obtain ⟨x61, ex61⟩ : ∃ y : Int, h56.2.2 56 2 = y := ⟨_, rfl⟩
              have rx61 := Ih56.atR (a := 56) (j := 2) rfl
              rw [ex61] at rx61
              obtain ⟨x62, ex62⟩ : ∃ y : Int, h56.2.2 56 1 = y := ⟨_, rfl⟩
              have rx62 := Ih56.atR (a := 56) (j := 1) rfl
              rw [ex62] at rx62
              refine to_iload_n (dat dk_X5_readWord 101 rfl) rfl ?_
              refine to_ifeq 210 (dat dk_X5_readWord 102 rfl) rfl (by omega) (fun c63 => ?_) (fun c63 => ?_)
              · skip
                refine to_bipush (dat dk_X5_readWord 105 rfl) (by decide) ?_
                have e64 : h56.2.2 6 1 = x3 := ((Fr.get fh56 (by have := hI.1.1; omega) rfl).trans ex3)
                exact to_iret rfl (dat dk_X5_readWord 106 rfl) (ri_mk (by decide) ⟨Ih56, fh56, (show (7 : Int) = wk (qr h) (qn h) (Int.toNat (h.2.2 56 1)) (skp noSg (qr h) (qn h) (Int.toNat (h.2.2 56 1))) by omega), (show (7 : Int) = 7 ∨ (h56.2.2 56 2 = wb (qr h) (qn h) (Int.toNat (h.2.2 56 1)) (skp noSg (qr h) (qn h) (Int.toNat (h.2.2 56 1))) ∧ h.2.2 56 1 < h56.2.2 56 2 ∧ h56.2.2 56 2 ≤ h56.2.2 6 1) by omega), (show h56.2.2 56 1 = h.2.2 56 1 by omega)⟩)
              · skip
                refine to_bipush (dat dk_X5_readWord 103 rfl) (by decide) (to_goto (dat dk_X5_readWord 104 rfl) rfl ?_)
                have e65 : h56.2.2 6 1 = x3 := ((Fr.get fh56 (by have := hI.1.1; omega) rfl).trans ex3)
                exact to_iret rfl (dat dk_X5_readWord 106 rfl) (ri_mk (by decide) ⟨Ih56, fh56, (show (6 : Int) = wk (qr h) (qn h) (Int.toNat (h.2.2 56 1)) (skp noSg (qr h) (qn h) (Int.toNat (h.2.2 56 1))) by omega), (show (6 : Int) = 7 ∨ (h56.2.2 56 2 = wb (qr h) (qn h) (Int.toNat (h.2.2 56 1)) (skp noSg (qr h) (qn h) (Int.toNat (h.2.2 56 1))) ∧ h.2.2 56 1 < h56.2.2 56 2 ∧ h56.2.2 56 2 ≤ h56.2.2 6 1) by omega), (show h56.2.2 56 1 = h.2.2 56 1 by omega)⟩)
            refine to_aload_n (dat dk_X5_readWord 76 rfl) rfl (to_getIv (y := x44) ex44 g_c6_36 (dat dk_X5_readWord 77 rfl) (Ih39.atS rfl) (to_bipush (dat dk_X5_readWord 78 rfl) (by decide) ?_))
            refine to_ine 187 (dat dk_X5_readWord 79 rfl) rfl (by omega) (by decide) (fun c66 => ?_) (fun c66 => ?_)
            · skip
              refine to_aload_n (dat dk_X5_readWord 94 rfl) rfl (to_getIv (y := x44) ex44 g_c6_36 (dat dk_X5_readWord 95 rfl) (Ih39.atS rfl) (to_bipush (dat dk_X5_readWord 96 rfl) (by decide) ?_))
              refine to_ine 201 (dat dk_X5_readWord 97 rfl) rfl (by omega) (by decide) (fun c67 => ?_) (fun c67 => ?_)
              · skip
                exact jn201_n60 y52 h39 (by omega) Ih39 f41 (show (y52 = 1 ∧ oneQ (qr h) (qn h) (Int.toNat (h.2.2 56 1)) (skp noSg (qr h) (qn h) (Int.toNat (h.2.2 56 1))) = (((skp noSg (qr h) (qn h) (Int.toNat (h.2.2 56 1))) : Nat) : Int)) ∨ (y52 = 0 ∧ oneQ (qr h) (qn h) (Int.toNat (h.2.2 56 1)) (skp noSg (qr h) (qn h) (Int.toNat (h.2.2 56 1))) = -1) by omega) (show h39.2.2 56 2 = (((skp noSg (qr h) (qn h) (Int.toNat (h.2.2 56 1))) : Nat) : Int) by omega) (show h39.2.2 56 1 = h.2.2 56 1 by omega)
              · skip
                refine to_aload_n (dat dk_X5_readWord 98 rfl) rfl ?_
                have e68 : h39.2.2 6 1 = x3 := ((Fr.get fh39 (by have := I15.1.1; omega) rfl).trans e21)
                refine to_cI ca_c6_78 (dat dk_X5_readWord 99 rfl) (ct_X5_readDays_vx l h39 Ih39 (show h39.2.2 56 4 ≤ h39.2.2 56 5 ∧ h39.2.2 56 5 ≤ h39.2.2 6 1 by omega)) rfl ⟨_, _, rfl, (Ih39.atS rfl)⟩ rfl (fun x69 h70 rx69 p71 => ?_)
                obtain ⟨Ih70, fh70, zx69, p71_0, p71_1, p71_2⟩ := p71
                have f72 : Fr [56] h h70 := Fr.sub f41 fh70 (sub_self _)
                have t73 : qr h70 = qr h39 := qr_fr fh70 Ih39 rfl
                have t74 : qn h70 = qn h39 := qn_fr fh70 Ih39 rfl
                obtain ⟨x75, ex75⟩ : ∃ y : Int, h70.2.2 56 1 = y := ⟨_, rfl⟩
                have rx75 := Ih70.atR (a := 56) (j := 1) rfl
                rw [ex75] at rx75
                obtain ⟨x76, ex76⟩ : ∃ y : Int, h70.2.2 56 2 = y := ⟨_, rfl⟩
                have rx76 := Ih70.atR (a := 56) (j := 2) rfl
                rw [ex76] at rx76
                rw [(t42.trans (t18.trans t13)), show Int.toNat (h39.2.2 56 4) = ((Int.toNat (h.2.2 56 1)) + (FN (fld (qr h) (Int.toNat (h.2.2 56 1)) (skp noSg (qr h) (qn h) (Int.toNat (h.2.2 56 1))))).length) by omega, show Int.toNat (h39.2.2 56 5) = (skp noSg (qr h) (qn h) (Int.toNat (h.2.2 56 1))) by omega] at p71_0
                have zd := datOK_n (r := qr h) (n := qn h) (a := ((Int.toNat (h.2.2 56 1)) + (FN (fld (qr h) (Int.toNat (h.2.2 56 1)) (skp noSg (qr h) (qn h) (Int.toNat (h.2.2 56 1))))).length)) (b := (skp noSg (qr h) (qn h) (Int.toNat (h.2.2 56 1)))) (by omega)
                refine to_istore_n (L' := [(0, .inr (.inr 56)), (1, .inl x69)]) (dat dk_X5_readWord 100 rfl) (by decide) rfl ?_
                exact jn201_n60 x69 h70 (by omega) Ih70 f72 (show (x69 = 1 ∧ oneQ (qr h) (qn h) (Int.toNat (h.2.2 56 1)) (skp noSg (qr h) (qn h) (Int.toNat (h.2.2 56 1))) = (((skp noSg (qr h) (qn h) (Int.toNat (h.2.2 56 1))) : Nat) : Int)) ∨ (x69 = 0 ∧ oneQ (qr h) (qn h) (Int.toNat (h.2.2 56 1)) (skp noSg (qr h) (qn h) (Int.toNat (h.2.2 56 1))) = -1) by omega) (show h70.2.2 56 2 = (((skp noSg (qr h) (qn h) (Int.toNat (h.2.2 56 1))) : Nat) : Int) by omega) (show h70.2.2 56 1 = h.2.2 56 1 by omega)
            · skip
              have jn183_n79 : ∀ (y77 : Int), (y77 = 0 ∨ y77 = 1) → ((y77 = 1 ∧ 0 ≤ numV (qr h) ((Int.toNat (h.2.2 56 1)) + (FN (fld (qr h) (Int.toNat (h.2.2 56 1)) (skp noSg (qr h) (qn h) (Int.toNat (h.2.2 56 1))))).length) (skp noSg (qr h) (qn h) (Int.toNat (h.2.2 56 1)))) ∨ (y77 = 0 ∧ numV (qr h) ((Int.toNat (h.2.2 56 1)) + (FN (fld (qr h) (Int.toNat (h.2.2 56 1)) (skp noSg (qr h) (qn h) (Int.toNat (h.2.2 56 1))))).length) (skp noSg (qr h) (qn h) (Int.toNat (h.2.2 56 1))) = -1)) → To l E_X5_readWord (183, [(0, .inr (.inr 56)), (1, .inl y52)], [.inl y77], h39, 0, 0) (Q_X5_readWord_vx h) := by
                intro y77 ry77 c78
                refine to_istore_n (L' := [(0, .inr (.inr 56)), (1, .inl y77)]) (dat dk_X5_readWord 92 rfl) (by decide) rfl (to_goto (dat dk_X5_readWord 93 rfl) rfl ?_)
                exact jn201_n60 y77 h39 (by omega) Ih39 f41 (show (y77 = 1 ∧ oneQ (qr h) (qn h) (Int.toNat (h.2.2 56 1)) (skp noSg (qr h) (qn h) (Int.toNat (h.2.2 56 1))) = (((skp noSg (qr h) (qn h) (Int.toNat (h.2.2 56 1))) : Nat) : Int)) ∨ (y77 = 0 ∧ oneQ (qr h) (qn h) (Int.toNat (h.2.2 56 1)) (skp noSg (qr h) (qn h) (Int.toNat (h.2.2 56 1))) = -1) by omega) (show h39.2.2 56 2 = (((skp noSg (qr h) (qn h) (Int.toNat (h.2.2 56 1))) : Nat) : Int) by omega) (show h39.2.2 56 1 = h.2.2 56 1 by omega)
              refine to_aload_n (dat dk_X5_readWord 80 rfl) rfl (to_getR 6 g_c6_9 (dat dk_X5_readWord 81 rfl) (Ih39.atS rfl) (Ih39.atE rfl) (to_aload_n (dat dk_X5_readWord 82 rfl) rfl (to_getIv (y := x45) ex45 g_c6_53 (dat dk_X5_readWord 83 rfl) (Ih39.atS rfl) (to_aload_n (dat dk_X5_readWord 84 rfl) rfl (to_getIv (y := x48) ex48 g_c6_56 (dat dk_X5_readWord 85 rfl) (Ih39.atS rfl) ?_)))))
              have e80 : h39.2.2 6 1 = x3 := ((Fr.get fh39 (by have := I15.1.1; omega) rfl).trans e21)
              refine to_cI ca_c6_75 (dat dk_X5_readWord 86 rfl) (ct_X1_numberIn_vx l h39 Ih39 x45 (by omega) x48 (by omega) (show 0 ≤ x45 ∧ x45 ≤ h39.2.2 6 1 by omega) (show 0 ≤ x48 ∧ x48 ≤ h39.2.2 6 1 by omega)) rfl ⟨_, _, rfl, (Ih39.atS rfl)⟩ rfl (fun x81 h82 rx81 p83 => ?_)
              obtain ⟨rfl, p83_0⟩ := p83
              rw [(t42.trans (t18.trans t13)), zE20, show Int.toNat x45 = ((Int.toNat (h.2.2 56 1)) + (FN (fld (qr h) (Int.toNat (h.2.2 56 1)) (skp noSg (qr h) (qn h) (Int.toNat (h.2.2 56 1))))).length) by omega] at p83_0
              have zn := numV_in (r := qr h) (a := ((Int.toNat (h.2.2 56 1)) + (FN (fld (qr h) (Int.toNat (h.2.2 56 1)) (skp noSg (qr h) (qn h) (Int.toNat (h.2.2 56 1))))).length)) (b := (skp noSg (qr h) (qn h) (Int.toNat (h.2.2 56 1))))
              have zz : ((Int.toNat (h.2.2 56 1)) + (FN (fld (qr h) (Int.toNat (h.2.2 56 1)) (skp noSg (qr h) (qn h) (Int.toNat (h.2.2 56 1))))).length) ≠ (skp noSg (qr h) (qn h) (Int.toNat (h.2.2 56 1))) ∨ numV (qr h) ((Int.toNat (h.2.2 56 1)) + (FN (fld (qr h) (Int.toNat (h.2.2 56 1)) (skp noSg (qr h) (qn h) (Int.toNat (h.2.2 56 1))))).length) (skp noSg (qr h) (qn h) (Int.toNat (h.2.2 56 1))) = -1 := if q : ((Int.toNat (h.2.2 56 1)) + (FN (fld (qr h) (Int.toNat (h.2.2 56 1)) (skp noSg (qr h) (qn h) (Int.toNat (h.2.2 56 1))))).length) = (skp noSg (qr h) (qn h) (Int.toNat (h.2.2 56 1))) then Or.inr (numV_no (numOK_no1 (by omega))) else Or.inl q
              refine to_iconst (dat dk_X5_readWord 87 rfl) ?_
              refine to_ieq 182 (dat dk_X5_readWord 88 rfl) rfl rx81 (by decide) (fun c84 => ?_) (fun c84 => ?_)
              · skip
                refine to_iconst (dat dk_X5_readWord 91 rfl) ?_
                exact jn183_n79 0 (by decide) (show ((0 : Int) = 1 ∧ 0 ≤ numV (qr h) ((Int.toNat (h.2.2 56 1)) + (FN (fld (qr h) (Int.toNat (h.2.2 56 1)) (skp noSg (qr h) (qn h) (Int.toNat (h.2.2 56 1))))).length) (skp noSg (qr h) (qn h) (Int.toNat (h.2.2 56 1)))) ∨ ((0 : Int) = 0 ∧ numV (qr h) ((Int.toNat (h.2.2 56 1)) + (FN (fld (qr h) (Int.toNat (h.2.2 56 1)) (skp noSg (qr h) (qn h) (Int.toNat (h.2.2 56 1))))).length) (skp noSg (qr h) (qn h) (Int.toNat (h.2.2 56 1))) = -1) by omega)
              · skip
                refine to_iconst (dat dk_X5_readWord 89 rfl) (to_goto (dat dk_X5_readWord 90 rfl) rfl ?_)
                exact jn183_n79 1 (by decide) (show ((1 : Int) = 1 ∧ 0 ≤ numV (qr h) ((Int.toNat (h.2.2 56 1)) + (FN (fld (qr h) (Int.toNat (h.2.2 56 1)) (skp noSg (qr h) (qn h) (Int.toNat (h.2.2 56 1))))).length) (skp noSg (qr h) (qn h) (Int.toNat (h.2.2 56 1)))) ∨ ((1 : Int) = 0 ∧ numV (qr h) ((Int.toNat (h.2.2 56 1)) + (FN (fld (qr h) (Int.toNat (h.2.2 56 1)) (skp noSg (qr h) (qn h) (Int.toNat (h.2.2 56 1))))).length) (skp noSg (qr h) (qn h) (Int.toNat (h.2.2 56 1))) = -1) by omega)
          refine to_aload_n (dat dk_X5_readWord 67 rfl) rfl (to_getIv (y := x45) ex45 g_c6_53 (dat dk_X5_readWord 68 rfl) (Ih39.atS rfl) (to_aload_n (dat dk_X5_readWord 69 rfl) rfl (to_getIv (y := x48) ex48 g_c6_56 (dat dk_X5_readWord 70 rfl) (Ih39.atS rfl) ?_)))
          refine to_ige 148 (dat dk_X5_readWord 71 rfl) rfl (by omega) (by omega) (fun c85 => ?_) (fun c85 => ?_)
          · skip
            refine to_iconst (dat dk_X5_readWord 74 rfl) ?_
            exact jn149_n54 0 (by decide) (show ((0 : Int) = 1 ∧ h39.2.2 56 4 < h39.2.2 56 5) ∨ ((0 : Int) = 0 ∧ h39.2.2 56 5 ≤ h39.2.2 56 4) by omega)
          · skip
            refine to_iconst (dat dk_X5_readWord 72 rfl) (to_goto (dat dk_X5_readWord 73 rfl) rfl ?_)
            exact jn149_n54 1 (by decide) (show ((1 : Int) = 1 ∧ h39.2.2 56 4 < h39.2.2 56 5) ∨ ((1 : Int) = 0 ∧ h39.2.2 56 5 ≤ h39.2.2 56 4) by omega)
        refine to_aload_n (dat dk_X5_readWord 46 rfl) rfl (to_getIv (y := x44) ex44 g_c6_36 (dat dk_X5_readWord 47 rfl) (Ih39.atS rfl) (to_iconst (dat dk_X5_readWord 48 rfl) ?_))
        refine to_igt 133 (dat dk_X5_readWord 49 rfl) rfl (by omega) (by decide) (fun c86 => ?_) (fun c86 => ?_)
        · skip
          have e87 : h39.2.2 6 1 = x3 := ((Fr.get fh39 (by have := I15.1.1; omega) rfl).trans e21)
          exact jn133_n51  (show 3 < h39.2.2 56 3 ∨ h39.2.2 56 4 ≠ h39.2.2 56 5 ∨ h39.2.2 6 1 ≤ h39.2.2 56 5 ∨ qr h (skp noSg (qr h) (qn h) (Int.toNat (h.2.2 56 1))) ≠ 34 by omega)
        · skip
          refine to_aload_n (dat dk_X5_readWord 50 rfl) rfl (to_getIv (y := x45) ex45 g_c6_53 (dat dk_X5_readWord 51 rfl) (Ih39.atS rfl) (to_aload_n (dat dk_X5_readWord 52 rfl) rfl (to_getIv (y := x48) ex48 g_c6_56 (dat dk_X5_readWord 53 rfl) (Ih39.atS rfl) ?_)))
          refine to_ine 133 (dat dk_X5_readWord 54 rfl) rfl (by omega) (by omega) (fun c88 => ?_) (fun c88 => ?_)
          · skip
            have e89 : h39.2.2 6 1 = x3 := ((Fr.get fh39 (by have := I15.1.1; omega) rfl).trans e21)
            exact jn133_n51  (show 3 < h39.2.2 56 3 ∨ h39.2.2 56 4 ≠ h39.2.2 56 5 ∨ h39.2.2 6 1 ≤ h39.2.2 56 5 ∨ qr h (skp noSg (qr h) (qn h) (Int.toNat (h.2.2 56 1))) ≠ 34 by omega)
          · skip
            refine to_aload_n (dat dk_X5_readWord 55 rfl) rfl (to_getR 6 g_c6_9 (dat dk_X5_readWord 56 rfl) (Ih39.atS rfl) (Ih39.atE rfl) (to_aload_n (dat dk_X5_readWord 57 rfl) rfl (to_getIv (y := x48) ex48 g_c6_56 (dat dk_X5_readWord 58 rfl) (Ih39.atS rfl) ?_)))
            have e90 : h39.2.2 6 1 = x3 := ((Fr.get fh39 (by have := I15.1.1; omega) rfl).trans e21)
            refine to_cI ca_c6_32 (dat dk_X5_readWord 59 rfl) (ct_X1_byteAt_v6x l h39 Ih39 x48 (by omega)) rfl ⟨_, _, rfl, (Ih39.atS rfl)⟩ rfl (fun x91 h92 rx91 p93 => ?_)
            obtain ⟨rfl, p93_0⟩ := p93
            rw [(t42.trans (t18.trans t13)), zE20] at p93_0
            have zq := qr_in hI (skp noSg (qr h) (qn h) (Int.toNat (h.2.2 56 1)))
            refine to_bipush (dat dk_X5_readWord 60 rfl) (by decide) ?_
            refine to_ine 133 (dat dk_X5_readWord 61 rfl) rfl rx91 (by decide) (fun c94 => ?_) (fun c94 => ?_)
            · skip
              exact jn133_n51  (show 3 < h39.2.2 56 3 ∨ h39.2.2 56 4 ≠ h39.2.2 56 5 ∨ h39.2.2 6 1 ≤ h39.2.2 56 5 ∨ qr h (skp noSg (qr h) (qn h) (Int.toNat (h.2.2 56 1))) ≠ 34 by omega)
            · skip
              refine to_aload_n (dat dk_X5_readWord 62 rfl) rfl (to_aload_n (dat dk_X5_readWord 63 rfl) rfl (to_getIv (y := x48) ex48 g_c6_56 (dat dk_X5_readWord 64 rfl) (Ih39.atS rfl) ?_))
              refine to_cI ca_c6_43 (dat dk_X5_readWord 65 rfl) (ct_X5_readPhrase_vx l h39 Ih39 x48 (by omega) (show 0 ≤ x48 ∧ x48 < h39.2.2 6 1 by omega)) rfl ⟨_, _, rfl, (Ih39.atS rfl)⟩ rfl (fun x95 h96 rx95 p97 => ?_)
              obtain ⟨Ih96, fh96, p97_0, p97_1, p97_2⟩ := p97
              have f98 : Fr [56] h h96 := Fr.sub f41 fh96 (sub_self _)
              have t99 : qr h96 = qr h39 := qr_fr fh96 Ih39 rfl
              have t100 : qn h96 = qn h39 := qn_fr fh96 Ih39 rfl
              obtain ⟨x101, ex101⟩ : ∃ y : Int, h96.2.2 56 2 = y := ⟨_, rfl⟩
              have rx101 := Ih96.atR (a := 56) (j := 2) rfl
              rw [ex101] at rx101
              obtain ⟨x102, ex102⟩ : ∃ y : Int, h96.2.2 56 1 = y := ⟨_, rfl⟩
              have rx102 := Ih96.atR (a := 56) (j := 1) rfl
              rw [ex102] at rx102
              have e103 : h96.2.2 6 1 = x3 := ((Fr.get fh96 (by have := Ih39.1.1; omega) rfl).trans e90)
              rw [(t42.trans (t18.trans t13)), (t43.trans (t19.trans t14)), show Int.toNat (x48 + 1) = (skp noSg (qr h) (qn h) (Int.toNat (h.2.2 56 1))) + 1 by omega] at p97_0
              exact to_iret rfl (dat dk_X5_readWord 66 rfl) (ri_mk rx95 ⟨Ih96, f98, (show x95 = wk (qr h) (qn h) (Int.toNat (h.2.2 56 1)) (skp noSg (qr h) (qn h) (Int.toNat (h.2.2 56 1))) by omega), (show x95 = 7 ∨ (h96.2.2 56 2 = wb (qr h) (qn h) (Int.toNat (h.2.2 56 1)) (skp noSg (qr h) (qn h) (Int.toNat (h.2.2 56 1))) ∧ h.2.2 56 1 < h96.2.2 56 2 ∧ h96.2.2 56 2 ≤ h96.2.2 6 1) by omega), (show h96.2.2 56 1 = h.2.2 56 1 by omega)⟩)
      · skip
        refine to_iconst (dat dk_X5_readWord 42 rfl) ?_
        have e104 : h17.2.2 56 2 = x7 := (by rw [wh17]; exact wr_eq)
        have e105 : h17.2.2 56 1 = x2 := (by rw [wh17]; exact (show h12.2.2 56 1 = x2 from (by rw [wh12]; exact ex2)))
        exact to_iret rfl (dat dk_X5_readWord 43 rfl) (ri_mk (by decide) ⟨I15, f16, (show (5 : Int) = wk (qr h) (qn h) (Int.toNat (h.2.2 56 1)) (skp noSg (qr h) (qn h) (Int.toNat (h.2.2 56 1))) by omega), (show (5 : Int) = 7 ∨ (h17.2.2 56 2 = wb (qr h) (qn h) (Int.toNat (h.2.2 56 1)) (skp noSg (qr h) (qn h) (Int.toNat (h.2.2 56 1))) ∧ h.2.2 56 1 < h17.2.2 56 2 ∧ h17.2.2 56 2 ≤ h17.2.2 6 1) by omega), (show h17.2.2 56 1 = h.2.2 56 1 by omega)⟩)
    · skip
      refine to_iconst (dat dk_X5_readWord 30 rfl) ?_
      have e106 : h17.2.2 56 2 = x7 := (by rw [wh17]; exact wr_eq)
      have e107 : h17.2.2 56 1 = x2 := (by rw [wh17]; exact (show h12.2.2 56 1 = x2 from (by rw [wh12]; exact ex2)))
      exact to_iret rfl (dat dk_X5_readWord 31 rfl) (ri_mk (by decide) ⟨I15, f16, (show (4 : Int) = wk (qr h) (qn h) (Int.toNat (h.2.2 56 1)) (skp noSg (qr h) (qn h) (Int.toNat (h.2.2 56 1))) by omega), (show (4 : Int) = 7 ∨ (h17.2.2 56 2 = wb (qr h) (qn h) (Int.toNat (h.2.2 56 1)) (skp noSg (qr h) (qn h) (Int.toNat (h.2.2 56 1))) ∧ h.2.2 56 1 < h17.2.2 56 2 ∧ h17.2.2 56 2 ≤ h17.2.2 6 1) by omega), (show h17.2.2 56 1 = h.2.2 56 1 by omega)⟩)
  · skip
    refine to_iconst (dat dk_X5_readWord 18 rfl) ?_
    have e108 : h17.2.2 56 2 = x7 := (by rw [wh17]; exact wr_eq)
    have e109 : h17.2.2 56 1 = x2 := (by rw [wh17]; exact (show h12.2.2 56 1 = x2 from (by rw [wh12]; exact ex2)))
    exact to_iret rfl (dat dk_X5_readWord 19 rfl) (ri_mk (by decide) ⟨I15, f16, (show (3 : Int) = wk (qr h) (qn h) (Int.toNat (h.2.2 56 1)) (skp noSg (qr h) (qn h) (Int.toNat (h.2.2 56 1))) by omega), (show (3 : Int) = 7 ∨ (h17.2.2 56 2 = wb (qr h) (qn h) (Int.toNat (h.2.2 56 1)) (skp noSg (qr h) (qn h) (Int.toNat (h.2.2 56 1))) ∧ h.2.2 56 1 < h17.2.2 56 2 ∧ h17.2.2 56 2 ≤ h17.2.2 6 1) by omega), (show h17.2.2 56 1 = h.2.2 56 1 by omega)⟩)
abbrev Q_X5_next_vx (h : Hp) : Option V → Hp → Nat → Nat → Prop := RI (fun x H => Inv H ∧ Fr [56] h H ∧ (H.2.2 56 1 = ((skp isBl (qr h) (qn h) (Int.toNat (h.2.2 56 2))) : Nat)) ∧ (x = tkK (qr h) (qn h) (skp isBl (qr h) (qn h) (Int.toNat (h.2.2 56 2)))) ∧ (x = 0 ∨ x = 7 ∨ (H.2.2 56 2 = tkB (qr h) (qn h) (skp isBl (qr h) (qn h) (Int.toNat (h.2.2 56 2))) ∧ H.2.2 56 1 < H.2.2 56 2 ∧ H.2.2 56 2 ≤ H.2.2 6 1)))
set_option maxRecDepth 100000 in
theorem ct_X5_next_vx (l : Launch) (h : Hp) (hI : Inv h) (g0 : h.2.2 56 2 ≤ h.2.2 6 1) : Ct l D_X5_next 8 176 [.inr (.inr 56)] h (Q_X5_next_vx h) := by
  refine ct_of pn_X5_next (Nat.le_of_ble_eq_true rfl) ?_
  show To l E_X5_next (0, [(0, .inr (.inr 56))], [], h, 0, 0) _
  have zq := qn_is hI
  obtain ⟨x1, ex1⟩ : ∃ y : Int, h.2.2 56 1 = y := ⟨_, rfl⟩
  have rx1 := hI.atR (a := 56) (j := 1) rfl
  rw [ex1] at rx1
  obtain ⟨x2, ex2⟩ : ∃ y : Int, h.2.2 56 2 = y := ⟨_, rfl⟩
  have rx2 := hI.atR (a := 56) (j := 2) rfl
  rw [ex2] at rx2
  obtain ⟨x3, ex3⟩ : ∃ y : Int, h.2.2 6 1 = y := ⟨_, rfl⟩
  have rx3 := hI.atR (a := 6) (j := 1) rfl
  rw [ex3] at rx3
  refine to_aload_n (dat dk_X5_next 0 rfl) rfl (to_aload_n (dat dk_X5_next 1 rfl) rfl (to_getR 6 g_c6_9 (dat dk_X5_next 2 rfl) (hI.atS rfl) (hI.atE rfl) (to_aload_n (dat dk_X5_next 3 rfl) rfl (to_getIv (y := x2) ex2 g_c6_15 (dat dk_X5_next 4 rfl) (hI.atS rfl) (to_aload_n (dat dk_X5_next 5 rfl) rfl (to_getR 6 g_c6_9 (dat dk_X5_next 6 rfl) (hI.atS rfl) (hI.atE rfl) ?_))))))
  refine to_cI ca_c6_19 (dat dk_X5_next 7 rfl) (ct_X1_size l h hI 6 rfl) rfl ⟨_, _, rfl, (hI.atS rfl)⟩ rfl (fun x4 h5 rx4 p6 => ?_)
  obtain ⟨rfl, p6_0⟩ := p6
  refine to_cI ca_c6_25 (dat dk_X5_next 8 rfl) (ct_X1_blanksOn_vx l h hI x2 (by omega) x4 rx4 (show 0 ≤ x2 ∧ x2 ≤ x4 by omega) (show x4 = h.2.2 6 1 by omega)) rfl ⟨_, _, rfl, (hI.atS rfl)⟩ rfl (fun x7 h8 rx7 p9 => ?_)
  obtain ⟨rfl, p9_0⟩ := p9
  rw [← ex2] at p9_0
  have zP10 : Int.toNat x7 = (skp isBl (qr h) (qn h) (Int.toNat (h.2.2 56 2))) := by have := p9_0; omega
  have zl : (skp isBl (qr h) (qn h) (Int.toNat (h.2.2 56 2))) ≤ qn h := skp_le (by omega)
  have zg : Int.toNat (h.2.2 56 2) ≤ (skp isBl (qr h) (qn h) (Int.toNat (h.2.2 56 2))) := skp_ge
  have zt := tk_n (r := qr h) (n := qn h) (p := (skp isBl (qr h) (qn h) (Int.toNat (h.2.2 56 2))))
  have zq := qr_in hI (skp isBl (qr h) (qn h) (Int.toNat (h.2.2 56 2)))
  refine to_putIw p_c6_29 (dat dk_X5_next 9 rfl) (hI.atS rfl) ?_
  intro h13 wh13
  have I11 : Inv h13 := by rw [wh13]; exact hI.put (a := 56) (j := 1) (x := x7) (0) (1201) rfl rfl (show (0 : Int) ≤ x7 ∧ x7 ≤ 1201 by omega)
  have f12 : Fr [56] h h13 := by rw [wh13]; exact Fr.putF (a := 56) (j := 1) (x := x7) (Fr.rf _ _) rfl
  have t14 : qr h13 = qr h := by rw [wh13]; exact qr_wr rfl
  have t15 : qn h13 = qn h := by rw [wh13]; exact qn_wr rfl
  refine to_aload_n (dat dk_X5_next 10 rfl) rfl (to_getR 6 g_c6_9 (dat dk_X5_next 11 rfl) (I11.atS rfl) (I11.atE rfl) (to_aload_n (dat dk_X5_next 12 rfl) rfl (to_getIv (y := x7) (by rw [wh13]; exact wr_eq) g_c6_29 (dat dk_X5_next 13 rfl) (I11.atS rfl) ?_)))
  have e16 : h13.2.2 6 1 = x3 := (by rw [wh13]; exact ex3)
  refine to_cI ca_c6_32 (dat dk_X5_next 14 rfl) (ct_X1_byteAt_v6x l h13 I11 x7 rx7) rfl ⟨_, _, rfl, (I11.atS rfl)⟩ rfl (fun x17 h18 rx17 p19 => ?_)
  obtain ⟨rfl, p19_0⟩ := p19
  rw [t14, zP10] at p19_0
  refine to_istore_n (L' := [(0, .inr (.inr 56)), (1, .inl x17)]) (dat dk_X5_next 15 rfl) (by decide) rfl (to_aload_n (dat dk_X5_next 16 rfl) rfl (to_aload_n (dat dk_X5_next 17 rfl) rfl (to_getIv (y := x7) (by rw [wh13]; exact wr_eq) g_c6_29 (dat dk_X5_next 18 rfl) (I11.atS rfl) (to_iconst (dat dk_X5_next 19 rfl) (to_iadd (dat dk_X5_next 20 rfl) (to_putIw p_c6_15 (dat dk_X5_next 21 rfl) (I11.atS rfl) ?_))))))
  intro h22 wh22
  have I20 : Inv h22 := by rw [wh22]; exact I11.put (a := 56) (j := 2) (x := (x7 + 1)) (0) (1202) rfl rfl (show (0 : Int) ≤ (x7 + 1) ∧ (x7 + 1) ≤ 1202 by omega)
  have f21 : Fr [56] h h22 := by rw [wh22]; exact Fr.putF (a := 56) (j := 2) (x := (x7 + 1)) f12 rfl
  have t23 : qr h22 = qr h13 := by rw [wh22]; exact qr_wr rfl
  have t24 : qn h22 = qn h13 := by rw [wh22]; exact qn_wr rfl
  refine to_aload_n (dat dk_X5_next 22 rfl) rfl (to_bipush (dat dk_X5_next 23 rfl) (by decide) (to_putIw p_c6_36 (dat dk_X5_next 24 rfl) (I20.atS rfl) ?_))
  intro h27 wh27
  have I25 : Inv h27 := by rw [wh27]; exact I20.put (a := 56) (j := 3) (x := 8) (0) (8) rfl rfl (show (0 : Int) ≤ 8 ∧ 8 ≤ 8 by decide)
  have f26 : Fr [56] h h27 := by rw [wh27]; exact Fr.putF (a := 56) (j := 3) (x := 8) f21 rfl
  have t28 : qr h27 = qr h22 := by rw [wh27]; exact qr_wr rfl
  have t29 : qn h27 = qn h22 := by rw [wh27]; exact qn_wr rfl
  refine to_aload_n (dat dk_X5_next 25 rfl) rfl (to_iconst (dat dk_X5_next 26 rfl) (to_putZw p_c6_39 (dat dk_X5_next 27 rfl) (I25.atS rfl) (by decide) ?_))
  intro h32 wh32
  have I30 : Inv h32 := by rw [wh32]; exact I25.put (a := 56) (j := 6) (x := 0) (0) (1) rfl rfl (show (0 : Int) ≤ 0 ∧ 0 ≤ 1 by decide)
  have f31 : Fr [56] h h32 := by rw [wh32]; exact Fr.putF (a := 56) (j := 6) (x := 0) f26 rfl
  have t33 : qr h32 = qr h27 := by rw [wh32]; exact qr_wr rfl
  have t34 : qn h32 = qn h27 := by rw [wh32]; exact qn_wr rfl
  refine to_iload_n (dat dk_X5_next 28 rfl) rfl ?_
  refine to_look (d := 115) (ps := [((-1), 100), (34, 106), (40, 102), (41, 104)]) (dat dk_X5_next 29 rfl) (by decide) rfl rfl rx17 ⟨fun c35 => ?_, fun c39 => ⟨fun c35 => ?_, fun c38 => ⟨fun c35 => ?_, fun c37 => ⟨fun c35 => ?_, fun c36 => ?_⟩⟩⟩⟩
  · skip
    refine to_iconst (dat dk_X5_next 30 rfl) ?_
    have e40 : h32.2.2 56 1 = x7 := (by rw [wh32]; exact (show h27.2.2 56 1 = x7 from (by rw [wh27]; exact (show h22.2.2 56 1 = x7 from (by rw [wh22]; exact (show h13.2.2 56 1 = x7 from (by rw [wh13]; exact wr_eq)))))))
    have e41 : h32.2.2 56 2 = (x7 + 1) := (by rw [wh32]; exact (show h27.2.2 56 2 = (x7 + 1) from (by rw [wh27]; exact (show h22.2.2 56 2 = (x7 + 1) from (by rw [wh22]; exact wr_eq)))))
    have e42 : h32.2.2 6 1 = x3 := (by rw [wh32]; exact (show h27.2.2 6 1 = x3 from (by rw [wh27]; exact (show h22.2.2 6 1 = x3 from (by rw [wh22]; exact e16)))))
    exact to_iret rfl (dat dk_X5_next 31 rfl) (ri_mk (by decide) ⟨I30, f31, (show h32.2.2 56 1 = ((skp isBl (qr h) (qn h) (Int.toNat (h.2.2 56 2))) : Nat) by omega), (show (0 : Int) = tkK (qr h) (qn h) (skp isBl (qr h) (qn h) (Int.toNat (h.2.2 56 2))) by omega), (show (0 : Int) = 0 ∨ (0 : Int) = 7 ∨ (h32.2.2 56 2 = tkB (qr h) (qn h) (skp isBl (qr h) (qn h) (Int.toNat (h.2.2 56 2))) ∧ h32.2.2 56 1 < h32.2.2 56 2 ∧ h32.2.2 56 2 ≤ h32.2.2 6 1) by omega)⟩)
  · skip
    refine to_aload_n (dat dk_X5_next 36 rfl) rfl (to_aload_n (dat dk_X5_next 37 rfl) rfl (to_getIv (y := x7) (by rw [wh32]; exact (show h27.2.2 56 1 = x7 from (by rw [wh27]; exact (show h22.2.2 56 1 = x7 from (by rw [wh22]; exact (show h13.2.2 56 1 = x7 from (by rw [wh13]; exact wr_eq))))))) g_c6_29 (dat dk_X5_next 38 rfl) (I30.atS rfl) ?_))
    have e43 : h32.2.2 6 1 = x3 := (by rw [wh32]; exact (show h27.2.2 6 1 = x3 from (by rw [wh27]; exact (show h22.2.2 6 1 = x3 from (by rw [wh22]; exact e16)))))
    have e44 : h32.2.2 56 1 = x7 := (by rw [wh32]; exact (show h27.2.2 56 1 = x7 from (by rw [wh27]; exact (show h22.2.2 56 1 = x7 from (by rw [wh22]; exact (show h13.2.2 56 1 = x7 from (by rw [wh13]; exact wr_eq)))))))
    refine to_cI ca_c6_43 (dat dk_X5_next 39 rfl) (ct_X5_readPhrase_vx l h32 I30 x7 rx7 (show 0 ≤ x7 ∧ x7 < h32.2.2 6 1 by omega)) rfl ⟨_, _, rfl, (I30.atS rfl)⟩ rfl (fun x45 h46 rx45 p47 => ?_)
    obtain ⟨Ih46, fh46, p47_0, p47_1, p47_2⟩ := p47
    have f48 : Fr [56] h h46 := Fr.sub f31 fh46 (sub_self _)
    have t49 : qr h46 = qr h32 := qr_fr fh46 I30 rfl
    have t50 : qn h46 = qn h32 := qn_fr fh46 I30 rfl
    obtain ⟨x51, ex51⟩ : ∃ y : Int, h46.2.2 56 2 = y := ⟨_, rfl⟩
    have rx51 := Ih46.atR (a := 56) (j := 2) rfl
    rw [ex51] at rx51
    obtain ⟨x52, ex52⟩ : ∃ y : Int, h46.2.2 56 1 = y := ⟨_, rfl⟩
    have rx52 := Ih46.atR (a := 56) (j := 1) rfl
    rw [ex52] at rx52
    have e53 : h46.2.2 6 1 = x3 := ((Fr.get fh46 (by have := I30.1.1; omega) rfl).trans e43)
    rw [(t33.trans (t28.trans (t23.trans t14))), (t34.trans (t29.trans (t24.trans t15))), show Int.toNat (x7 + 1) = (skp isBl (qr h) (qn h) (Int.toNat (h.2.2 56 2))) + 1 by omega] at p47_0
    exact to_iret rfl (dat dk_X5_next 40 rfl) (ri_mk rx45 ⟨Ih46, f48, (show h46.2.2 56 1 = ((skp isBl (qr h) (qn h) (Int.toNat (h.2.2 56 2))) : Nat) by omega), (show x45 = tkK (qr h) (qn h) (skp isBl (qr h) (qn h) (Int.toNat (h.2.2 56 2))) by omega), (show x45 = 0 ∨ x45 = 7 ∨ (h46.2.2 56 2 = tkB (qr h) (qn h) (skp isBl (qr h) (qn h) (Int.toNat (h.2.2 56 2))) ∧ h46.2.2 56 1 < h46.2.2 56 2 ∧ h46.2.2 56 2 ≤ h46.2.2 6 1) by omega)⟩)
  · skip
    refine to_iconst (dat dk_X5_next 32 rfl) ?_
    have e54 : h32.2.2 56 1 = x7 := (by rw [wh32]; exact (show h27.2.2 56 1 = x7 from (by rw [wh27]; exact (show h22.2.2 56 1 = x7 from (by rw [wh22]; exact (show h13.2.2 56 1 = x7 from (by rw [wh13]; exact wr_eq)))))))
    have e55 : h32.2.2 56 2 = (x7 + 1) := (by rw [wh32]; exact (show h27.2.2 56 2 = (x7 + 1) from (by rw [wh27]; exact (show h22.2.2 56 2 = (x7 + 1) from (by rw [wh22]; exact wr_eq)))))
    have e56 : h32.2.2 6 1 = x3 := (by rw [wh32]; exact (show h27.2.2 6 1 = x3 from (by rw [wh27]; exact (show h22.2.2 6 1 = x3 from (by rw [wh22]; exact e16)))))
    exact to_iret rfl (dat dk_X5_next 33 rfl) (ri_mk (by decide) ⟨I30, f31, (show h32.2.2 56 1 = ((skp isBl (qr h) (qn h) (Int.toNat (h.2.2 56 2))) : Nat) by omega), (show (1 : Int) = tkK (qr h) (qn h) (skp isBl (qr h) (qn h) (Int.toNat (h.2.2 56 2))) by omega), (show (1 : Int) = 0 ∨ (1 : Int) = 7 ∨ (h32.2.2 56 2 = tkB (qr h) (qn h) (skp isBl (qr h) (qn h) (Int.toNat (h.2.2 56 2))) ∧ h32.2.2 56 1 < h32.2.2 56 2 ∧ h32.2.2 56 2 ≤ h32.2.2 6 1) by omega)⟩)
  · skip
    refine to_iconst (dat dk_X5_next 34 rfl) ?_
    have e57 : h32.2.2 56 1 = x7 := (by rw [wh32]; exact (show h27.2.2 56 1 = x7 from (by rw [wh27]; exact (show h22.2.2 56 1 = x7 from (by rw [wh22]; exact (show h13.2.2 56 1 = x7 from (by rw [wh13]; exact wr_eq)))))))
    have e58 : h32.2.2 56 2 = (x7 + 1) := (by rw [wh32]; exact (show h27.2.2 56 2 = (x7 + 1) from (by rw [wh27]; exact (show h22.2.2 56 2 = (x7 + 1) from (by rw [wh22]; exact wr_eq)))))
    have e59 : h32.2.2 6 1 = x3 := (by rw [wh32]; exact (show h27.2.2 6 1 = x3 from (by rw [wh27]; exact (show h22.2.2 6 1 = x3 from (by rw [wh22]; exact e16)))))
    exact to_iret rfl (dat dk_X5_next 35 rfl) (ri_mk (by decide) ⟨I30, f31, (show h32.2.2 56 1 = ((skp isBl (qr h) (qn h) (Int.toNat (h.2.2 56 2))) : Nat) by omega), (show (2 : Int) = tkK (qr h) (qn h) (skp isBl (qr h) (qn h) (Int.toNat (h.2.2 56 2))) by omega), (show (2 : Int) = 0 ∨ (2 : Int) = 7 ∨ (h32.2.2 56 2 = tkB (qr h) (qn h) (skp isBl (qr h) (qn h) (Int.toNat (h.2.2 56 2))) ∧ h32.2.2 56 1 < h32.2.2 56 2 ∧ h32.2.2 56 2 ≤ h32.2.2 6 1) by omega)⟩)
  · skip
    refine to_aload_n (dat dk_X5_next 41 rfl) rfl ?_
    have e60 : h32.2.2 56 1 = x7 := (by rw [wh32]; exact (show h27.2.2 56 1 = x7 from (by rw [wh27]; exact (show h22.2.2 56 1 = x7 from (by rw [wh22]; exact (show h13.2.2 56 1 = x7 from (by rw [wh13]; exact wr_eq)))))))
    have e61 : h32.2.2 6 1 = x3 := (by rw [wh32]; exact (show h27.2.2 6 1 = x3 from (by rw [wh27]; exact (show h22.2.2 6 1 = x3 from (by rw [wh22]; exact e16)))))
    have e62 : h32.2.2 56 3 = (8 : Int) := (by rw [wh32]; exact (show h27.2.2 56 3 = (8 : Int) from (by rw [wh27]; exact wr_eq)))
    refine to_cI ca_c6_46 (dat dk_X5_next 42 rfl) (ct_X5_readWord_vx l h32 I30 (show 0 ≤ h32.2.2 56 1 ∧ h32.2.2 56 1 < h32.2.2 6 1 by omega) (show h32.2.2 56 3 = 8 by omega) (by rw [(t33.trans (t28.trans (t23.trans t14))), show Int.toNat (h32.2.2 56 1) = (skp isBl (qr h) (qn h) (Int.toNat (h.2.2 56 2))) by omega]; exact noSg_of (skp_stop (P := isBl) (r := qr h) (n := qn h) (p := Int.toNat (h.2.2 56 2)) (by omega)) (by omega) (by omega) (by omega))) rfl ⟨_, _, rfl, (I30.atS rfl)⟩ rfl (fun x63 h64 rx63 p65 => ?_)
    obtain ⟨Ih64, fh64, p65_0, p65_1, p65_2⟩ := p65
    have f66 : Fr [56] h h64 := Fr.sub f31 fh64 (sub_self _)
    have t67 : qr h64 = qr h32 := qr_fr fh64 I30 rfl
    have t68 : qn h64 = qn h32 := qn_fr fh64 I30 rfl
    obtain ⟨x69, ex69⟩ : ∃ y : Int, h64.2.2 56 2 = y := ⟨_, rfl⟩
    have rx69 := Ih64.atR (a := 56) (j := 2) rfl
    rw [ex69] at rx69
    obtain ⟨x70, ex70⟩ : ∃ y : Int, h64.2.2 56 1 = y := ⟨_, rfl⟩
    have rx70 := Ih64.atR (a := 56) (j := 1) rfl
    rw [ex70] at rx70
    have e71 : h64.2.2 6 1 = x3 := ((Fr.get fh64 (by have := I30.1.1; omega) rfl).trans e61)
    have zp72 : Int.toNat (h32.2.2 56 1) = (skp isBl (qr h) (qn h) (Int.toNat (h.2.2 56 2))) := by omega
    rw [(t33.trans (t28.trans (t23.trans t14))), (t34.trans (t29.trans (t24.trans t15))), zp72] at p65_0
    rw [(t33.trans (t28.trans (t23.trans t14))), (t34.trans (t29.trans (t24.trans t15))), zp72] at p65_1
    exact to_iret rfl (dat dk_X5_next 43 rfl) (ri_mk rx63 ⟨Ih64, f66, (show h64.2.2 56 1 = ((skp isBl (qr h) (qn h) (Int.toNat (h.2.2 56 2))) : Nat) by omega), (show x63 = tkK (qr h) (qn h) (skp isBl (qr h) (qn h) (Int.toNat (h.2.2 56 2))) by omega), (show x63 = 0 ∨ x63 = 7 ∨ (h64.2.2 56 2 = tkB (qr h) (qn h) (skp isBl (qr h) (qn h) (Int.toNat (h.2.2 56 2))) ∧ h64.2.2 56 1 < h64.2.2 56 2 ∧ h64.2.2 56 2 ≤ h64.2.2 6 1) by omega)⟩)
