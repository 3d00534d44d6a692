/-! Contracts, by program. -/
abbrev Q_X5_readWord_vx (h : Hp) : Option V → Hp → Nat → Nat → Prop := RI (fun x H => Inv H ∧ Fr [56] h H ∧ (x = wk (qr h) (qn h) (Int.toNat (h.2.2 56 1)) (skp noSg (qr h) (qn h) (Int.toNat (h.2.2 56 1)))) ∧ (x = 7 ∨ (H.2.2 56 2 = wb (qr h) (qn h) (Int.toNat (h.2.2 56 1)) (skp noSg (qr h) (qn h) (Int.toNat (h.2.2 56 1))) ∧ h.2.2 56 1 < H.2.2 56 2 ∧ H.2.2 56 2 ≤ H.2.2 6 1)) ∧ (H.2.2 56 1 = h.2.2 56 1))
set_option maxRecDepth 100000 in
theorem ct_X5_readWord_vx (l : Launch) (h : Hp) (hI : Inv h) (g0 : 0 ≤ h.2.2 56 1 ∧ h.2.2 56 1 < h.2.2 6 1) (g1 : h.2.2 56 3 = 8) (g2 : noSg (qr h (Int.toNat (h.2.2 56 1))) = true) : Ct l D_X5_readWord 7 155 [.inr (.inr 56)] h (Q_X5_readWord_vx h) := by
  refine ct_of pn_X5_readWord (Nat.le_of_ble_eq_true rfl) ?_
  show To l E_X5_readWord (0, [(0, .inr (.inr 56))], [], h, 0, 0) _
  have zq := qn_is hI
  obtain ⟨x1, ex1⟩ : ∃ y : Int, h.2.2 56 2 = y := ⟨_, rfl⟩
  have rx1 := hI.atR (a := 56) (j := 2) rfl
  rw [ex1] at rx1
  obtain ⟨x2, ex2⟩ : ∃ y : Int, h.2.2 56 1 = y := ⟨_, rfl⟩
  have rx2 := hI.atR (a := 56) (j := 1) rfl
  rw [ex2] at rx2
  obtain ⟨x3, ex3⟩ : ∃ y : Int, h.2.2 6 1 = y := ⟨_, rfl⟩
  have rx3 := hI.atR (a := 6) (j := 1) rfl
  rw [ex3] at rx3
  obtain ⟨x4, ex4⟩ : ∃ y : Int, h.2.2 56 3 = y := ⟨_, rfl⟩
  have rx4 := hI.atR (a := 56) (j := 3) rfl
  rw [ex4] at rx4
  obtain ⟨x5, ex5⟩ : ∃ y : Int, h.2.2 56 4 = y := ⟨_, rfl⟩
  have rx5 := hI.atR (a := 56) (j := 4) rfl
  rw [ex5] at rx5
  obtain ⟨x6, ex6⟩ : ∃ y : Int, h.2.2 56 5 = y := ⟨_, rfl⟩
  have rx6 := hI.atR (a := 56) (j := 5) rfl
  rw [ex6] at rx6
  refine to_aload_n (dat dk_X5_readWord 0 rfl) rfl (to_aload_n (dat dk_X5_readWord 1 rfl) rfl ?_)
  refine to_cI ca_c6_59 (dat dk_X5_readWord 2 rfl) (ct_X5_wordStop_vx l h hI (show h.2.2 56 1 ≤ h.2.2 6 1 by omega)) rfl ⟨_, _, rfl, (hI.atS rfl)⟩ rfl (fun x7 h8 rx7 p9 => ?_)
  obtain ⟨rfl, p9_0⟩ := p9
  have zE10 : Int.toNat x7 = (skp noSg (qr h) (qn h) (Int.toNat (h.2.2 56 1))) := by have := p9_0; omega
  have zW : x7 = (((skp noSg (qr h) (qn h) (Int.toNat (h.2.2 56 1))) : Nat) : Int) := p9_0
  have zl : (skp noSg (qr h) (qn h) (Int.toNat (h.2.2 56 1))) ≤ qn h := skp_le (by omega)
  have zg : (Int.toNat (h.2.2 56 1)) < (skp noSg (qr h) (qn h) (Int.toNat (h.2.2 56 1))) := skp_gt (by omega) g2
  have zq34 := (noSg_34 g2).1
  refine to_putIw p_c6_56 (dat dk_X5_readWord 3 rfl) (hI.atS rfl) ?_
  intro h13 wh13
  have I11 : Inv h13 := by rw [wh13]; exact hI.put (a := 56) (j := 5) (x := x7) (0) (1201) rfl rfl (show (0 : Int) ≤ x7 ∧ x7 ≤ 1201 by omega)
  have f12 : Fr [56] h h13 := by rw [wh13]; exact Fr.putF (a := 56) (j := 5) (x := x7) (Fr.rf _ _) rfl
  have t14 : qr h13 = qr h := by rw [wh13]; exact qr_wr rfl
  have t15 : qn h13 = qn h := by rw [wh13]; exact qn_wr rfl
  refine to_aload_n (dat dk_X5_readWord 4 rfl) rfl (to_aload_n (dat dk_X5_readWord 5 rfl) rfl (to_getIv (y := x7) (by rw [wh13]; exact wr_eq) g_c6_56 (dat dk_X5_readWord 6 rfl) (I11.atS rfl) (to_putIw p_c6_15 (dat dk_X5_readWord 7 rfl) (I11.atS rfl) ?_)))
  intro h18 wh18
  have I16 : Inv h18 := by rw [wh18]; exact I11.put (a := 56) (j := 2) (x := x7) (0) (1202) rfl rfl (show (0 : Int) ≤ x7 ∧ x7 ≤ 1202 by omega)
  have f17 : Fr [56] h h18 := by rw [wh18]; exact Fr.putF (a := 56) (j := 2) (x := x7) f12 rfl
  have t19 : qr h18 = qr h13 := by rw [wh18]; exact qr_wr rfl
  have t20 : qn h18 = qn h13 := by rw [wh18]; exact qn_wr rfl
  refine to_aload_n (dat dk_X5_readWord 8 rfl) rfl (to_getR 6 g_c6_9 (dat dk_X5_readWord 9 rfl) (I16.atS rfl) (I16.atE rfl) (to_aload_n (dat dk_X5_readWord 10 rfl) rfl (to_getIv (y := x2) (by rw [wh18]; exact (show h13.2.2 56 1 = x2 from (by rw [wh13]; exact ex2))) g_c6_29 (dat dk_X5_readWord 11 rfl) (I16.atS rfl) (to_aload_n (dat dk_X5_readWord 12 rfl) rfl (to_getIv (y := x7) (by rw [wh18]; exact (show h13.2.2 56 5 = x7 from (by rw [wh13]; exact wr_eq))) g_c6_56 (dat dk_X5_readWord 13 rfl) (I16.atS rfl) (to_ldcS (q := 137) (tx := "or") (List.mem_of_getElem? (i := 18) rfl) (dat dk_X5_readWord 14 rfl) (to_iconst (dat dk_X5_readWord 15 rfl) ?_)))))))
  have e21 : h18.2.2 6 1 = x3 := (by rw [wh18]; exact (show h13.2.2 6 1 = x3 from (by rw [wh13]; exact ex3)))
  refine to_cI ca_c6_64 (dat dk_X5_readWord 16 rfl) (ct_X1_is_vx l h18 I16 x2 (by omega) x7 rx7 1000137 2 (List.mem_of_getElem? (i := 18) rfl) 0 (by decide) (show (0 : Int) = 0 by omega) (show 0 ≤ x2 ∧ x2 ≤ x7 ∧ x7 ≤ h18.2.2 6 1 by omega)) rfl ⟨_, _, rfl, (I16.atS rfl)⟩ rfl (fun x22 h23 rx22 p24 => ?_)
  obtain ⟨rfl, zx22, p24_0⟩ := p24
  rw [(t19.trans t14), ← ex2, zE10, (show cod 1000137 = wOR by rw [cod_eq]; decide +kernel)] at p24_0
  refine to_ifeq 39 (dat dk_X5_readWord 17 rfl) rfl rx22 (fun c25 => ?_) (fun c25 => ?_)
  · skip
    have zb1 := bi_f (b := isW (qr h) (Int.toNat (h.2.2 56 1)) (skp noSg (qr h) (qn h) (Int.toNat (h.2.2 56 1))) wOR) (by omega)
    refine to_aload_n (dat dk_X5_readWord 20 rfl) rfl (to_getR 6 g_c6_9 (dat dk_X5_readWord 21 rfl) (I16.atS rfl) (I16.atE rfl) (to_aload_n (dat dk_X5_readWord 22 rfl) rfl (to_getIv (y := x2) (by rw [wh18]; exact (show h13.2.2 56 1 = x2 from (by rw [wh13]; exact ex2))) g_c6_29 (dat dk_X5_readWord 23 rfl) (I16.atS rfl) (to_aload_n (dat dk_X5_readWord 24 rfl) rfl (to_getIv (y := x7) (by rw [wh18]; exact (show h13.2.2 56 5 = x7 from (by rw [wh13]; exact wr_eq))) g_c6_56 (dat dk_X5_readWord 25 rfl) (I16.atS rfl) (to_ldcS (q := 139) (tx := "and") (List.mem_of_getElem? (i := 19) rfl) (dat dk_X5_readWord 26 rfl) (to_iconst (dat dk_X5_readWord 27 rfl) ?_)))))))
    refine to_cI ca_c6_64 (dat dk_X5_readWord 28 rfl) (ct_X1_is_vx l h18 I16 x2 (by omega) x7 rx7 1000139 3 (List.mem_of_getElem? (i := 19) rfl) 0 (by decide) (show (0 : Int) = 0 by omega) (show 0 ≤ x2 ∧ x2 ≤ x7 ∧ x7 ≤ h18.2.2 6 1 by omega)) rfl ⟨_, _, rfl, (I16.atS rfl)⟩ rfl (fun x26 h27 rx26 p28 => ?_)
    obtain ⟨rfl, zx26, p28_0⟩ := p28
    rw [(t19.trans t14), ← ex2, zE10, (show cod 1000139 = wAND by rw [cod_eq]; decide +kernel)] at p28_0
    refine to_ifeq 62 (dat dk_X5_readWord 29 rfl) rfl rx26 (fun c29 => ?_) (fun c29 => ?_)
    · skip
      have zb2 := bi_f (b := isW (qr h) (Int.toNat (h.2.2 56 1)) (skp noSg (qr h) (qn h) (Int.toNat (h.2.2 56 1))) wAND) (by omega)
      refine to_aload_n (dat dk_X5_readWord 32 rfl) rfl (to_getR 6 g_c6_9 (dat dk_X5_readWord 33 rfl) (I16.atS rfl) (I16.atE rfl) (to_aload_n (dat dk_X5_readWord 34 rfl) rfl (to_getIv (y := x2) (by rw [wh18]; exact (show h13.2.2 56 1 = x2 from (by rw [wh13]; exact ex2))) g_c6_29 (dat dk_X5_readWord 35 rfl) (I16.atS rfl) (to_aload_n (dat dk_X5_readWord 36 rfl) rfl (to_getIv (y := x7) (by rw [wh18]; exact (show h13.2.2 56 5 = x7 from (by rw [wh13]; exact wr_eq))) g_c6_56 (dat dk_X5_readWord 37 rfl) (I16.atS rfl) (to_ldcS (q := 141) (tx := "not") (List.mem_of_getElem? (i := 20) rfl) (dat dk_X5_readWord 38 rfl) (to_iconst (dat dk_X5_readWord 39 rfl) ?_)))))))
      refine to_cI ca_c6_64 (dat dk_X5_readWord 40 rfl) (ct_X1_is_vx l h18 I16 x2 (by omega) x7 rx7 1000141 3 (List.mem_of_getElem? (i := 20) rfl) 0 (by decide) (show (0 : Int) = 0 by omega) (show 0 ≤ x2 ∧ x2 ≤ x7 ∧ x7 ≤ h18.2.2 6 1 by omega)) rfl ⟨_, _, rfl, (I16.atS rfl)⟩ rfl (fun x30 h31 rx30 p32 => ?_)
      obtain ⟨rfl, zx30, p32_0⟩ := p32
      rw [(t19.trans t14), ← ex2, zE10, (show cod 1000141 = wNOT by rw [cod_eq]; decide +kernel)] at p32_0
      refine to_ifeq 85 (dat dk_X5_readWord 41 rfl) rfl rx30 (fun c33 => ?_) (fun c33 => ?_)
      · skip
        have zb3 := bi_f (b := isW (qr h) (Int.toNat (h.2.2 56 1)) (skp noSg (qr h) (qn h) (Int.toNat (h.2.2 56 1))) wNOT) (by omega)
        refine to_aload_n (dat dk_X5_readWord 44 rfl) rfl ?_
        have e34 : h18.2.2 56 1 = x2 := (by rw [wh18]; exact (show h13.2.2 56 1 = x2 from (by rw [wh13]; exact ex2)))
        have e35 : h18.2.2 56 3 = x4 := (by rw [wh18]; exact (show h13.2.2 56 3 = x4 from (by rw [wh13]; exact ex4)))
        have e36 : h18.2.2 56 2 = x7 := (by rw [wh18]; exact wr_eq)
        have e37 : h18.2.2 56 5 = x7 := (by rw [wh18]; exact (show h13.2.2 56 5 = x7 from (by rw [wh13]; exact wr_eq)))
        refine to_cV ca_c6_72 (dat dk_X5_readWord 45 rfl) (ct_X5_readField_vx l h18 I16 (show 0 ≤ h18.2.2 56 1 ∧ h18.2.2 56 1 < h18.2.2 6 1 by omega) (show h18.2.2 56 3 = 8 by omega)) rfl ⟨_, _, rfl, (I16.atS rfl)⟩ rfl (fun h39 p40 => ?_)
        obtain ⟨Ih39, fh39, p40_0, p40_1, p40_2, p40_3, p40_4⟩ := p40
        have f41 : Fr [56] h h39 := Fr.sub f17 fh39 (sub_self _)
        have t42 : qr h39 = qr h18 := qr_fr fh39 I16 rfl
        have t43 : qn h39 = qn h18 := qn_fr fh39 I16 rfl
        obtain ⟨x44, ex44⟩ : ∃ y : Int, h39.2.2 56 3 = y := ⟨_, rfl⟩
        have rx44 := Ih39.atR (a := 56) (j := 3) rfl
        rw [ex44] at rx44
        obtain ⟨x45, ex45⟩ : ∃ y : Int, h39.2.2 56 4 = y := ⟨_, rfl⟩
        have rx45 := Ih39.atR (a := 56) (j := 4) rfl
        rw [ex45] at rx45
        obtain ⟨x46, ex46⟩ : ∃ y : Int, h39.2.2 56 1 = y := ⟨_, rfl⟩
        have rx46 := Ih39.atR (a := 56) (j := 1) rfl
        rw [ex46] at rx46
        obtain ⟨x47, ex47⟩ : ∃ y : Int, h39.2.2 56 2 = y := ⟨_, rfl⟩
        have rx47 := Ih39.atR (a := 56) (j := 2) rfl
        rw [ex47] at rx47
        obtain ⟨x48, ex48⟩ : ∃ y : Int, h39.2.2 56 5 = y := ⟨_, rfl⟩
        have rx48 := Ih39.atR (a := 56) (j := 5) rfl
        rw [ex48] at rx48
        have zp49 : h18.2.2 56 1 = h.2.2 56 1 := by omega
        rw [(t19.trans t14), (t20.trans t15), zp49] at p40_0
        rw [(t19.trans t14), (t20.trans t15), zp49] at p40_1
        have zf := fld_in (r := qr h) (p := (Int.toNat (h.2.2 56 1))) (e := (skp noSg (qr h) (qn h) (Int.toNat (h.2.2 56 1)))) (by omega)
        have zra := p40_0
        have zrb := p40_1
        have zrc := p40_2
        have zrd := p40_3
        have zre := p40_4
        have zE50 : Int.toNat x48 = (skp noSg (qr h) (qn h) (Int.toNat (h.2.2 56 1))) := by omega
        try clear p9
        try clear p9_0
        try clear p24
        try clear zx22
        try clear p24_0
        try clear c25
        try clear p28
        try clear zx26
        try clear p28_0
        try clear c29
        try clear p32
        try clear zx30
        try clear p32_0
        try clear c33
        try clear p40
        try clear p40_0
        try clear p40_1
        try clear p40_2
        try clear p40_3
        try clear p40_4
        have jn133_n52 : (3 < h39.2.2 56 3 ∨ h39.2.2 56 4 ≠ h39.2.2 56 5 ∨ h39.2.2 6 1 ≤ h39.2.2 56 5 ∨ qr h (skp noSg (qr h) (qn h) (Int.toNat (h.2.2 56 1))) ≠ 34) → To l E_X5_readWord (133, [(0, .inr (.inr 56))], [], h39, 0, 0) (Q_X5_readWord_vx h) := by
          intro  c51
          have jn149_n56 : ∀ (y53 : Int), (y53 = 0 ∨ y53 = 1) → ((y53 = 1 ∧ h39.2.2 56 4 < h39.2.2 56 5) ∨ (y53 = 0 ∧ h39.2.2 56 5 ≤ h39.2.2 56 4)) → (3 < h39.2.2 56 3 ∨ h39.2.2 56 4 ≠ h39.2.2 56 5 ∨ h39.2.2 6 1 ≤ h39.2.2 56 5 ∨ qr h (skp noSg (qr h) (qn h) (Int.toNat (h.2.2 56 1))) ≠ 34) → To l E_X5_readWord (149, [(0, .inr (.inr 56))], [.inl y53], h39, 0, 0) (Q_X5_readWord_vx h) := by
            intro y53 ry53 c54 c55
            try clear c51
            refine to_istore_n (L' := [(0, .inr (.inr 56)), (1, .inl y53)]) (dat dk_X5_readWord 75 rfl) (by decide) rfl ?_
            have jn201_n62 : ∀ (y57 : Int) (h58 : Hp), (y57 = 0 ∨ y57 = 1) → (Inv h58) → (Fr [56] h h58) → ((y57 = 1 ∧ oneQ (qr h) (qn h) (Int.toNat (h.2.2 56 1)) (skp noSg (qr h) (qn h) (Int.toNat (h.2.2 56 1))) = (((skp noSg (qr h) (qn h) (Int.toNat (h.2.2 56 1))) : Nat) : Int)) ∨ (y57 = 0 ∧ oneQ (qr h) (qn h) (Int.toNat (h.2.2 56 1)) (skp noSg (qr h) (qn h) (Int.toNat (h.2.2 56 1))) = -1)) → (h58.2.2 56 2 = (((skp noSg (qr h) (qn h) (Int.toNat (h.2.2 56 1))) : Nat) : Int)) → (h58.2.2 56 1 = h.2.2 56 1) → To l E_X5_readWord (201, [(0, .inr (.inr 56)), (1, .inl y57)], [], h58, 0, 0) (Q_X5_readWord_vx h) := by
              intro y57 h58 ry57 Ih58 fh58 c59 c60 c61
              try clear c54
              try clear c55
              obtain ⟨x63, ex63⟩ : ∃ y : Int, h58.2.2 56 2 = y := ⟨_, rfl⟩
              have rx63 := Ih58.atR (a := 56) (j := 2) rfl
              rw [ex63] at rx63
              obtain ⟨x64, ex64⟩ : ∃ y : Int, h58.2.2 56 1 = y := ⟨_, rfl⟩
              have rx64 := Ih58.atR (a := 56) (j := 1) rfl
              rw [ex64] at rx64
              refine to_iload_n (dat dk_X5_readWord 101 rfl) rfl ?_
              refine to_ifeq 210 (dat dk_X5_readWord 102 rfl) rfl (by omega) (fun c65 => ?_) (fun c65 => ?_)
              · skip
                refine to_bipush (dat dk_X5_readWord 105 rfl) (by decide) ?_
                have e66 : h58.2.2 6 1 = x3 := ((Fr.get fh58 (by have := hI.1.1; omega) rfl).trans ex3)
                exact to_iret rfl (dat dk_X5_readWord 106 rfl) (ri_mk (by decide) ⟨Ih58, fh58, (wk_7 zb1 zb2 zb3 (by omega)).symm, (Or.inl rfl), (show h58.2.2 56 1 = h.2.2 56 1 by omega)⟩)
              · skip
                refine to_bipush (dat dk_X5_readWord 103 rfl) (by decide) (to_goto (dat dk_X5_readWord 104 rfl) rfl ?_)
                have e67 : h58.2.2 6 1 = x3 := ((Fr.get fh58 (by have := hI.1.1; omega) rfl).trans ex3)
                exact to_iret rfl (dat dk_X5_readWord 106 rfl) (ri_mk (by decide) ⟨Ih58, fh58, (by have z := wk_6 (n := qn h) zb1 zb2 zb3 (show oneQ (qr h) (qn h) (Int.toNat (h.2.2 56 1)) (skp noSg (qr h) (qn h) (Int.toNat (h.2.2 56 1))) = (((skp noSg (qr h) (qn h) (Int.toNat (h.2.2 56 1))) : Nat) : Int) by omega) (by omega); omega), (Or.inr <| by have z := wk_6 (n := qn h) zb1 zb2 zb3 (show oneQ (qr h) (qn h) (Int.toNat (h.2.2 56 1)) (skp noSg (qr h) (qn h) (Int.toNat (h.2.2 56 1))) = (((skp noSg (qr h) (qn h) (Int.toNat (h.2.2 56 1))) : Nat) : Int) by omega) (by omega); omega), (show h58.2.2 56 1 = h.2.2 56 1 by omega)⟩)
            refine to_aload_n (dat dk_X5_readWord 76 rfl) rfl (to_getIv (y := x44) ex44 g_c6_36 (dat dk_X5_readWord 77 rfl) (Ih39.atS rfl) (to_bipush (dat dk_X5_readWord 78 rfl) (by decide) ?_))
            refine to_ine 187 (dat dk_X5_readWord 79 rfl) rfl (by omega) (by decide) (fun c68 => ?_) (fun c68 => ?_)
            · skip
              refine to_aload_n (dat dk_X5_readWord 94 rfl) rfl (to_getIv (y := x44) ex44 g_c6_36 (dat dk_X5_readWord 95 rfl) (Ih39.atS rfl) (to_bipush (dat dk_X5_readWord 96 rfl) (by decide) ?_))
              refine to_ine 201 (dat dk_X5_readWord 97 rfl) rfl (by omega) (by decide) (fun c69 => ?_) (fun c69 => ?_)
              · skip
                have e70 : h39.2.2 6 1 = x3 := ((Fr.get fh39 (by have := I16.1.1; omega) rfl).trans e21)
                exact jn201_n62 y53 h39 (by omega) Ih39 f41 (if zA : fld (qr h) (Int.toNat (h.2.2 56 1)) (skp noSg (qr h) (qn h) (Int.toNat (h.2.2 56 1))) = 8 then Or.inl ⟨by have := (FN_len (fld (qr h) (Int.toNat (h.2.2 56 1)) (skp noSg (qr h) (qn h) (Int.toNat (h.2.2 56 1))))).2.2 zA; omega, o8 zq34 zA⟩ else if zB : ((Int.toNat (h.2.2 56 1)) + (FN (fld (qr h) (Int.toNat (h.2.2 56 1)) (skp noSg (qr h) (qn h) (Int.toNat (h.2.2 56 1))))).length) = (skp noSg (qr h) (qn h) (Int.toNat (h.2.2 56 1))) then Or.inr ⟨by omega, oNo zq34 zA zB (by omega)⟩ else Or.inl ⟨by omega, oEl zq34 zA zB (by omega) (by omega)⟩) (show h39.2.2 56 2 = (((skp noSg (qr h) (qn h) (Int.toNat (h.2.2 56 1))) : Nat) : Int) by omega) (show h39.2.2 56 1 = h.2.2 56 1 by omega)
              · skip
                refine to_aload_n (dat dk_X5_readWord 98 rfl) rfl ?_
                have e71 : h39.2.2 6 1 = x3 := ((Fr.get fh39 (by have := I16.1.1; omega) rfl).trans e21)
                refine to_cI ca_c6_78 (dat dk_X5_readWord 99 rfl) (ct_X5_readDays_vx l h39 Ih39 (show h39.2.2 56 4 ≤ h39.2.2 56 5 ∧ h39.2.2 56 5 ≤ h39.2.2 6 1 by omega)) rfl ⟨_, _, rfl, (Ih39.atS rfl)⟩ rfl (fun x72 h73 rx72 p74 => ?_)
                obtain ⟨Ih73, fh73, zx72, p74_0, p74_1, p74_2⟩ := p74
                have f75 : Fr [56] h h73 := Fr.sub f41 fh73 (sub_self _)
                have t76 : qr h73 = qr h39 := qr_fr fh73 Ih39 rfl
                have t77 : qn h73 = qn h39 := qn_fr fh73 Ih39 rfl
                obtain ⟨x78, ex78⟩ : ∃ y : Int, h73.2.2 56 1 = y := ⟨_, rfl⟩
                have rx78 := Ih73.atR (a := 56) (j := 1) rfl
                rw [ex78] at rx78
                obtain ⟨x79, ex79⟩ : ∃ y : Int, h73.2.2 56 2 = y := ⟨_, rfl⟩
                have rx79 := Ih73.atR (a := 56) (j := 2) rfl
                rw [ex79] at rx79
                rw [(t42.trans (t19.trans t14)), show Int.toNat (h39.2.2 56 4) = ((Int.toNat (h.2.2 56 1)) + (FN (fld (qr h) (Int.toNat (h.2.2 56 1)) (skp noSg (qr h) (qn h) (Int.toNat (h.2.2 56 1))))).length) by omega, show Int.toNat (h39.2.2 56 5) = (skp noSg (qr h) (qn h) (Int.toNat (h.2.2 56 1))) by omega] at p74_0
                refine to_istore_n (L' := [(0, .inr (.inr 56)), (1, .inl x72)]) (dat dk_X5_readWord 100 rfl) (by decide) rfl ?_
                have e80 : h73.2.2 6 1 = x3 := ((Fr.get fh73 (by have := Ih39.1.1; omega) rfl).trans e71)
                exact jn201_n62 x72 h73 (by omega) Ih73 f75 (if zB : ((Int.toNat (h.2.2 56 1)) + (FN (fld (qr h) (Int.toNat (h.2.2 56 1)) (skp noSg (qr h) (qn h) (Int.toNat (h.2.2 56 1))))).length) = (skp noSg (qr h) (qn h) (Int.toNat (h.2.2 56 1))) then Or.inr ⟨by have := dat_0 (r := qr h) zB; omega, oNo zq34 (by omega) zB (by omega)⟩ else if zC : bi (datOK (qr h) ((Int.toNat (h.2.2 56 1)) + (FN (fld (qr h) (Int.toNat (h.2.2 56 1)) (skp noSg (qr h) (qn h) (Int.toNat (h.2.2 56 1))))).length) (skp noSg (qr h) (qn h) (Int.toNat (h.2.2 56 1)))) = 1 then Or.inl ⟨by omega, o7y zq34 (by omega) zB zC⟩ else Or.inr ⟨by have := bi_z (datOK (qr h) ((Int.toNat (h.2.2 56 1)) + (FN (fld (qr h) (Int.toNat (h.2.2 56 1)) (skp noSg (qr h) (qn h) (Int.toNat (h.2.2 56 1))))).length) (skp noSg (qr h) (qn h) (Int.toNat (h.2.2 56 1)))); omega, o7n zq34 (by omega) zB (by have := bi_z (datOK (qr h) ((Int.toNat (h.2.2 56 1)) + (FN (fld (qr h) (Int.toNat (h.2.2 56 1)) (skp noSg (qr h) (qn h) (Int.toNat (h.2.2 56 1))))).length) (skp noSg (qr h) (qn h) (Int.toNat (h.2.2 56 1)))); omega)⟩) (show h73.2.2 56 2 = (((skp noSg (qr h) (qn h) (Int.toNat (h.2.2 56 1))) : Nat) : Int) by omega) (show h73.2.2 56 1 = h.2.2 56 1 by omega)
            · skip
              have jn183_n84 : ∀ (y81 : Int), (y81 = 0 ∨ y81 = 1) → ((y81 = 1 ∧ 0 ≤ numV (qr h) ((Int.toNat (h.2.2 56 1)) + (FN (fld (qr h) (Int.toNat (h.2.2 56 1)) (skp noSg (qr h) (qn h) (Int.toNat (h.2.2 56 1))))).length) (skp noSg (qr h) (qn h) (Int.toNat (h.2.2 56 1)))) ∨ (y81 = 0 ∧ numV (qr h) ((Int.toNat (h.2.2 56 1)) + (FN (fld (qr h) (Int.toNat (h.2.2 56 1)) (skp noSg (qr h) (qn h) (Int.toNat (h.2.2 56 1))))).length) (skp noSg (qr h) (qn h) (Int.toNat (h.2.2 56 1))) = -1)) → (h39.2.2 56 3 = 6) → To l E_X5_readWord (183, [(0, .inr (.inr 56)), (1, .inl y53)], [.inl y81], h39, 0, 0) (Q_X5_readWord_vx h) := by
                intro y81 ry81 c82 c83
                try clear c54
                try clear c55
                try clear c68
                refine to_istore_n (L' := [(0, .inr (.inr 56)), (1, .inl y81)]) (dat dk_X5_readWord 92 rfl) (by decide) rfl (to_goto (dat dk_X5_readWord 93 rfl) rfl ?_)
                have e85 : h39.2.2 6 1 = x3 := ((Fr.get fh39 (by have := I16.1.1; omega) rfl).trans e21)
                exact jn201_n62 y81 h39 (by omega) Ih39 f41 (if zB : ((Int.toNat (h.2.2 56 1)) + (FN (fld (qr h) (Int.toNat (h.2.2 56 1)) (skp noSg (qr h) (qn h) (Int.toNat (h.2.2 56 1))))).length) = (skp noSg (qr h) (qn h) (Int.toNat (h.2.2 56 1))) then Or.inr ⟨by have := numV_no (numOK_no1 (r := qr h) (a := ((Int.toNat (h.2.2 56 1)) + (FN (fld (qr h) (Int.toNat (h.2.2 56 1)) (skp noSg (qr h) (qn h) (Int.toNat (h.2.2 56 1))))).length)) (b := (skp noSg (qr h) (qn h) (Int.toNat (h.2.2 56 1)))) (by omega)); omega, oNo zq34 (by omega) zB (by omega)⟩ else (by rcases c82 with ⟨z1, z2⟩ | ⟨z1, z2⟩; exact Or.inl ⟨z1, o6y zq34 (by omega) zB z2⟩; exact Or.inr ⟨z1, o6n zq34 (by omega) zB z2⟩)) (show h39.2.2 56 2 = (((skp noSg (qr h) (qn h) (Int.toNat (h.2.2 56 1))) : Nat) : Int) by omega) (show h39.2.2 56 1 = h.2.2 56 1 by omega)
              refine to_aload_n (dat dk_X5_readWord 80 rfl) rfl (to_getR 6 g_c6_9 (dat dk_X5_readWord 81 rfl) (Ih39.atS rfl) (Ih39.atE rfl) (to_aload_n (dat dk_X5_readWord 82 rfl) rfl (to_getIv (y := x45) ex45 g_c6_53 (dat dk_X5_readWord 83 rfl) (Ih39.atS rfl) (to_aload_n (dat dk_X5_readWord 84 rfl) rfl (to_getIv (y := x48) ex48 g_c6_56 (dat dk_X5_readWord 85 rfl) (Ih39.atS rfl) ?_)))))
              have e86 : h39.2.2 6 1 = x3 := ((Fr.get fh39 (by have := I16.1.1; omega) rfl).trans e21)
              refine to_cI ca_c6_75 (dat dk_X5_readWord 86 rfl) (ct_X1_numberIn_vx l h39 Ih39 x45 (by omega) x48 (by omega) (show 0 ≤ x45 ∧ x45 ≤ h39.2.2 6 1 by omega) (show 0 ≤ x48 ∧ x48 ≤ h39.2.2 6 1 by omega)) rfl ⟨_, _, rfl, (Ih39.atS rfl)⟩ rfl (fun x87 h88 rx87 p89 => ?_)
              obtain ⟨rfl, p89_0⟩ := p89
              rw [(t42.trans (t19.trans t14)), zE50, show Int.toNat x45 = ((Int.toNat (h.2.2 56 1)) + (FN (fld (qr h) (Int.toNat (h.2.2 56 1)) (skp noSg (qr h) (qn h) (Int.toNat (h.2.2 56 1))))).length) by omega] at p89_0
              have zn := numV_in (r := qr h) (a := ((Int.toNat (h.2.2 56 1)) + (FN (fld (qr h) (Int.toNat (h.2.2 56 1)) (skp noSg (qr h) (qn h) (Int.toNat (h.2.2 56 1))))).length)) (b := (skp noSg (qr h) (qn h) (Int.toNat (h.2.2 56 1))))
              refine to_iconst (dat dk_X5_readWord 87 rfl) ?_
              refine to_ieq 182 (dat dk_X5_readWord 88 rfl) rfl rx87 (by decide) (fun c90 => ?_) (fun c90 => ?_)
              · skip
                refine to_iconst (dat dk_X5_readWord 91 rfl) ?_
                exact jn183_n84 0 (by decide) (show ((0 : Int) = 1 ∧ 0 ≤ numV (qr h) ((Int.toNat (h.2.2 56 1)) + (FN (fld (qr h) (Int.toNat (h.2.2 56 1)) (skp noSg (qr h) (qn h) (Int.toNat (h.2.2 56 1))))).length) (skp noSg (qr h) (qn h) (Int.toNat (h.2.2 56 1)))) ∨ ((0 : Int) = 0 ∧ numV (qr h) ((Int.toNat (h.2.2 56 1)) + (FN (fld (qr h) (Int.toNat (h.2.2 56 1)) (skp noSg (qr h) (qn h) (Int.toNat (h.2.2 56 1))))).length) (skp noSg (qr h) (qn h) (Int.toNat (h.2.2 56 1))) = -1) by omega) (show h39.2.2 56 3 = 6 by omega)
              · skip
                refine to_iconst (dat dk_X5_readWord 89 rfl) (to_goto (dat dk_X5_readWord 90 rfl) rfl ?_)
                exact jn183_n84 1 (by decide) (show ((1 : Int) = 1 ∧ 0 ≤ numV (qr h) ((Int.toNat (h.2.2 56 1)) + (FN (fld (qr h) (Int.toNat (h.2.2 56 1)) (skp noSg (qr h) (qn h) (Int.toNat (h.2.2 56 1))))).length) (skp noSg (qr h) (qn h) (Int.toNat (h.2.2 56 1)))) ∨ ((1 : Int) = 0 ∧ numV (qr h) ((Int.toNat (h.2.2 56 1)) + (FN (fld (qr h) (Int.toNat (h.2.2 56 1)) (skp noSg (qr h) (qn h) (Int.toNat (h.2.2 56 1))))).length) (skp noSg (qr h) (qn h) (Int.toNat (h.2.2 56 1))) = -1) by omega) (show h39.2.2 56 3 = 6 by omega)
          refine to_aload_n (dat dk_X5_readWord 67 rfl) rfl (to_getIv (y := x45) ex45 g_c6_53 (dat dk_X5_readWord 68 rfl) (Ih39.atS rfl) (to_aload_n (dat dk_X5_readWord 69 rfl) rfl (to_getIv (y := x48) ex48 g_c6_56 (dat dk_X5_readWord 70 rfl) (Ih39.atS rfl) ?_)))
          refine to_ige 148 (dat dk_X5_readWord 71 rfl) rfl (by omega) (by omega) (fun c91 => ?_) (fun c91 => ?_)
          · skip
            refine to_iconst (dat dk_X5_readWord 74 rfl) ?_
            exact jn149_n56 0 (by decide) (show ((0 : Int) = 1 ∧ h39.2.2 56 4 < h39.2.2 56 5) ∨ ((0 : Int) = 0 ∧ h39.2.2 56 5 ≤ h39.2.2 56 4) by omega) c51
          · skip
            refine to_iconst (dat dk_X5_readWord 72 rfl) (to_goto (dat dk_X5_readWord 73 rfl) rfl ?_)
            exact jn149_n56 1 (by decide) (show ((1 : Int) = 1 ∧ h39.2.2 56 4 < h39.2.2 56 5) ∨ ((1 : Int) = 0 ∧ h39.2.2 56 5 ≤ h39.2.2 56 4) by omega) c51
        refine to_aload_n (dat dk_X5_readWord 46 rfl) rfl (to_getIv (y := x44) ex44 g_c6_36 (dat dk_X5_readWord 47 rfl) (Ih39.atS rfl) (to_iconst (dat dk_X5_readWord 48 rfl) ?_))
        refine to_igt 133 (dat dk_X5_readWord 49 rfl) rfl (by omega) (by decide) (fun c92 => ?_) (fun c92 => ?_)
        · skip
          have e93 : h39.2.2 6 1 = x3 := ((Fr.get fh39 (by have := I16.1.1; omega) rfl).trans e21)
          exact jn133_n52  (show 3 < h39.2.2 56 3 ∨ h39.2.2 56 4 ≠ h39.2.2 56 5 ∨ h39.2.2 6 1 ≤ h39.2.2 56 5 ∨ qr h (skp noSg (qr h) (qn h) (Int.toNat (h.2.2 56 1))) ≠ 34 by omega)
        · skip
          refine to_aload_n (dat dk_X5_readWord 50 rfl) rfl (to_getIv (y := x45) ex45 g_c6_53 (dat dk_X5_readWord 51 rfl) (Ih39.atS rfl) (to_aload_n (dat dk_X5_readWord 52 rfl) rfl (to_getIv (y := x48) ex48 g_c6_56 (dat dk_X5_readWord 53 rfl) (Ih39.atS rfl) ?_)))
          refine to_ine 133 (dat dk_X5_readWord 54 rfl) rfl (by omega) (by omega) (fun c94 => ?_) (fun c94 => ?_)
          · skip
            have e95 : h39.2.2 6 1 = x3 := ((Fr.get fh39 (by have := I16.1.1; omega) rfl).trans e21)
            exact jn133_n52  (show 3 < h39.2.2 56 3 ∨ h39.2.2 56 4 ≠ h39.2.2 56 5 ∨ h39.2.2 6 1 ≤ h39.2.2 56 5 ∨ qr h (skp noSg (qr h) (qn h) (Int.toNat (h.2.2 56 1))) ≠ 34 by omega)
          · skip
            refine to_aload_n (dat dk_X5_readWord 55 rfl) rfl (to_getR 6 g_c6_9 (dat dk_X5_readWord 56 rfl) (Ih39.atS rfl) (Ih39.atE rfl) (to_aload_n (dat dk_X5_readWord 57 rfl) rfl (to_getIv (y := x48) ex48 g_c6_56 (dat dk_X5_readWord 58 rfl) (Ih39.atS rfl) ?_)))
            have e96 : h39.2.2 6 1 = x3 := ((Fr.get fh39 (by have := I16.1.1; omega) rfl).trans e21)
            refine to_cI ca_c6_32 (dat dk_X5_readWord 59 rfl) (ct_X1_byteAt_v6x l h39 Ih39 x48 (by omega)) rfl ⟨_, _, rfl, (Ih39.atS rfl)⟩ rfl (fun x97 h98 rx97 p99 => ?_)
            obtain ⟨rfl, p99_0⟩ := p99
            rw [(t42.trans (t19.trans t14)), zE50] at p99_0
            have zq9 := qr_in hI (skp noSg (qr h) (qn h) (Int.toNat (h.2.2 56 1)))
            refine to_bipush (dat dk_X5_readWord 60 rfl) (by decide) ?_
            refine to_ine 133 (dat dk_X5_readWord 61 rfl) rfl rx97 (by decide) (fun c100 => ?_) (fun c100 => ?_)
            · skip
              exact jn133_n52  (show 3 < h39.2.2 56 3 ∨ h39.2.2 56 4 ≠ h39.2.2 56 5 ∨ h39.2.2 6 1 ≤ h39.2.2 56 5 ∨ qr h (skp noSg (qr h) (qn h) (Int.toNat (h.2.2 56 1))) ≠ 34 by omega)
            · skip
              have zA : fld (qr h) (Int.toNat (h.2.2 56 1)) (skp noSg (qr h) (qn h) (Int.toNat (h.2.2 56 1))) < 4 := by omega
              have zB : ((Int.toNat (h.2.2 56 1)) + (FN (fld (qr h) (Int.toNat (h.2.2 56 1)) (skp noSg (qr h) (qn h) (Int.toNat (h.2.2 56 1))))).length) = (skp noSg (qr h) (qn h) (Int.toNat (h.2.2 56 1))) := by omega
              have zC : (skp noSg (qr h) (qn h) (Int.toNat (h.2.2 56 1))) < qn h := by omega
              have zD : qr h (skp noSg (qr h) (qn h) (Int.toNat (h.2.2 56 1))) = 34 := by omega
              try clear c92
              try clear c94
              try clear p99
              try clear p99_0
              try clear c100
              refine to_aload_n (dat dk_X5_readWord 62 rfl) rfl (to_aload_n (dat dk_X5_readWord 63 rfl) rfl (to_getIv (y := x48) ex48 g_c6_56 (dat dk_X5_readWord 64 rfl) (Ih39.atS rfl) ?_))
              refine to_cI ca_c6_43 (dat dk_X5_readWord 65 rfl) (ct_X5_readPhrase_vx l h39 Ih39 x48 (by omega) (show 0 ≤ x48 ∧ x48 < h39.2.2 6 1 by omega)) rfl ⟨_, _, rfl, (Ih39.atS rfl)⟩ rfl (fun x101 h102 rx101 p103 => ?_)
              obtain ⟨Ih102, fh102, p103_0, p103_1, p103_2⟩ := p103
              have f104 : Fr [56] h h102 := Fr.sub f41 fh102 (sub_self _)
              have t105 : qr h102 = qr h39 := qr_fr fh102 Ih39 rfl
              have t106 : qn h102 = qn h39 := qn_fr fh102 Ih39 rfl
              obtain ⟨x107, ex107⟩ : ∃ y : Int, h102.2.2 56 2 = y := ⟨_, rfl⟩
              have rx107 := Ih102.atR (a := 56) (j := 2) rfl
              rw [ex107] at rx107
              obtain ⟨x108, ex108⟩ : ∃ y : Int, h102.2.2 56 1 = y := ⟨_, rfl⟩
              have rx108 := Ih102.atR (a := 56) (j := 1) rfl
              rw [ex108] at rx108
              have e109 : h102.2.2 6 1 = x3 := ((Fr.get fh102 (by have := Ih39.1.1; omega) rfl).trans e96)
              rw [(t42.trans (t19.trans t14)), (t43.trans (t20.trans t15)), show Int.toNat (x48 + 1) = (skp noSg (qr h) (qn h) (Int.toNat (h.2.2 56 1))) + 1 by omega] at p103_0
              exact to_iret rfl (dat dk_X5_readWord 66 rfl) (ri_mk rx101 ⟨Ih102, f104, (by rcases p103_0 with ⟨z1, z2⟩ | ⟨z1, z2, z3⟩; exact z1.trans (wk_7 zb1 zb2 zb3 (oPh7 zq34 zA zB zC zD z2)).symm; exact z1.trans (wk_6 zb1 zb2 zb3 (oPh6 zq34 zA zB zC zD z2) (by have := phE_in (qr h) (qn h) ((skp noSg (qr h) (qn h) (Int.toNat (h.2.2 56 1))) + 1); omega)).1.symm), (by rcases p103_0 with ⟨z1, z2⟩ | ⟨z1, z2, z3⟩; exact Or.inl z1; exact Or.inr (by have z := wk_6 zb1 zb2 zb3 (oPh6 zq34 zA zB zC zD z2) (by have := phE_in (qr h) (qn h) ((skp noSg (qr h) (qn h) (Int.toNat (h.2.2 56 1))) + 1); omega); omega)), (show h102.2.2 56 1 = h.2.2 56 1 by omega)⟩)
      · skip
        refine to_iconst (dat dk_X5_readWord 42 rfl) ?_
        have e110 : h18.2.2 56 2 = x7 := (by rw [wh18]; exact wr_eq)
        have e111 : h18.2.2 56 1 = x2 := (by rw [wh18]; exact (show h13.2.2 56 1 = x2 from (by rw [wh13]; exact ex2)))
        exact to_iret rfl (dat dk_X5_readWord 43 rfl) (ri_mk (by decide) ⟨I16, f17, (by have z := wk_not (n := qn h) zb1 zb2 (bi_t (b := isW (qr h) (Int.toNat (h.2.2 56 1)) (skp noSg (qr h) (qn h) (Int.toNat (h.2.2 56 1))) wNOT) (by omega)); omega), (Or.inr <| by have z := wk_not (n := qn h) zb1 zb2 (bi_t (b := isW (qr h) (Int.toNat (h.2.2 56 1)) (skp noSg (qr h) (qn h) (Int.toNat (h.2.2 56 1))) wNOT) (by omega)); omega), (show h18.2.2 56 1 = h.2.2 56 1 by omega)⟩)
    · skip
      refine to_iconst (dat dk_X5_readWord 30 rfl) ?_
      have e112 : h18.2.2 56 2 = x7 := (by rw [wh18]; exact wr_eq)
      have e113 : h18.2.2 56 1 = x2 := (by rw [wh18]; exact (show h13.2.2 56 1 = x2 from (by rw [wh13]; exact ex2)))
      exact to_iret rfl (dat dk_X5_readWord 31 rfl) (ri_mk (by decide) ⟨I16, f17, (by have z := wk_and (n := qn h) zb1 (bi_t (b := isW (qr h) (Int.toNat (h.2.2 56 1)) (skp noSg (qr h) (qn h) (Int.toNat (h.2.2 56 1))) wAND) (by omega)); omega), (Or.inr <| by have z := wk_and (n := qn h) zb1 (bi_t (b := isW (qr h) (Int.toNat (h.2.2 56 1)) (skp noSg (qr h) (qn h) (Int.toNat (h.2.2 56 1))) wAND) (by omega)); omega), (show h18.2.2 56 1 = h.2.2 56 1 by omega)⟩)
  · skip
    refine to_iconst (dat dk_X5_readWord 18 rfl) ?_
    have e114 : h18.2.2 56 2 = x7 := (by rw [wh18]; exact wr_eq)
    have e115 : h18.2.2 56 1 = x2 := (by rw [wh18]; exact (show h13.2.2 56 1 = x2 from (by rw [wh13]; exact ex2)))
    exact to_iret rfl (dat dk_X5_readWord 19 rfl) (ri_mk (by decide) ⟨I16, f17, (by have z := wk_or (n := qn h) (bi_t (b := isW (qr h) (Int.toNat (h.2.2 56 1)) (skp noSg (qr h) (qn h) (Int.toNat (h.2.2 56 1))) wOR) (by omega)); omega), (Or.inr <| by have z := wk_or (n := qn h) (bi_t (b := isW (qr h) (Int.toNat (h.2.2 56 1)) (skp noSg (qr h) (qn h) (Int.toNat (h.2.2 56 1))) wOR) (by omega)); omega), (show h18.2.2 56 1 = h.2.2 56 1 by omega)⟩)
abbrev Q_X5_next_vx (h : Hp) : Option V → Hp → Nat → Nat → Prop := RI (fun x H => Inv H ∧ Fr [56] h H ∧ (H.2.2 56 1 = ((skp isBl (qr h) (qn h) (Int.toNat (h.2.2 56 2))) : Nat)) ∧ (x = tkK (qr h) (qn h) (skp isBl (qr h) (qn h) (Int.toNat (h.2.2 56 2)))) ∧ (x = 0 ∨ x = 7 ∨ (H.2.2 56 2 = tkB (qr h) (qn h) (skp isBl (qr h) (qn h) (Int.toNat (h.2.2 56 2))) ∧ H.2.2 56 1 < H.2.2 56 2 ∧ H.2.2 56 2 ≤ H.2.2 6 1)))
set_option maxRecDepth 100000 in
theorem ct_X5_next_vx (l : Launch) (h : Hp) (hI : Inv h) (g0 : h.2.2 56 2 ≤ h.2.2 6 1) : Ct l D_X5_next 8 176 [.inr (.inr 56)] h (Q_X5_next_vx h) := by
  refine ct_of pn_X5_next (Nat.le_of_ble_eq_true rfl) ?_
  show To l E_X5_next (0, [(0, .inr (.inr 56))], [], h, 0, 0) _
  have zq := qn_is hI
  obtain ⟨x1, ex1⟩ : ∃ y : Int, h.2.2 56 1 = y := ⟨_, rfl⟩
  have rx1 := hI.atR (a := 56) (j := 1) rfl
  rw [ex1] at rx1
  obtain ⟨x2, ex2⟩ : ∃ y : Int, h.2.2 56 2 = y := ⟨_, rfl⟩
  have rx2 := hI.atR (a := 56) (j := 2) rfl
  rw [ex2] at rx2
  obtain ⟨x3, ex3⟩ : ∃ y : Int, h.2.2 6 1 = y := ⟨_, rfl⟩
  have rx3 := hI.atR (a := 6) (j := 1) rfl
  rw [ex3] at rx3
  refine to_aload_n (dat dk_X5_next 0 rfl) rfl (to_aload_n (dat dk_X5_next 1 rfl) rfl (to_getR 6 g_c6_9 (dat dk_X5_next 2 rfl) (hI.atS rfl) (hI.atE rfl) (to_aload_n (dat dk_X5_next 3 rfl) rfl (to_getIv (y := x2) ex2 g_c6_15 (dat dk_X5_next 4 rfl) (hI.atS rfl) (to_aload_n (dat dk_X5_next 5 rfl) rfl (to_getR 6 g_c6_9 (dat dk_X5_next 6 rfl) (hI.atS rfl) (hI.atE rfl) ?_))))))
  refine to_cI ca_c6_19 (dat dk_X5_next 7 rfl) (ct_X1_size l h hI 6 rfl) rfl ⟨_, _, rfl, (hI.atS rfl)⟩ rfl (fun x4 h5 rx4 p6 => ?_)
  obtain ⟨rfl, p6_0⟩ := p6
  refine to_cI ca_c6_25 (dat dk_X5_next 8 rfl) (ct_X1_blanksOn_vx l h hI x2 (by omega) x4 rx4 (show 0 ≤ x2 ∧ x2 ≤ x4 by omega) (show x4 = h.2.2 6 1 by omega)) rfl ⟨_, _, rfl, (hI.atS rfl)⟩ rfl (fun x7 h8 rx7 p9 => ?_)
  obtain ⟨rfl, p9_0⟩ := p9
  rw [← ex2] at p9_0
  have zP10 : Int.toNat x7 = (skp isBl (qr h) (qn h) (Int.toNat (h.2.2 56 2))) := by have := p9_0; omega
  have zW : x7 = (((skp isBl (qr h) (qn h) (Int.toNat (h.2.2 56 2))) : Nat) : Int) := p9_0
  have zl : (skp isBl (qr h) (qn h) (Int.toNat (h.2.2 56 2))) ≤ qn h := skp_le (by omega)
  have zg : Int.toNat (h.2.2 56 2) ≤ (skp isBl (qr h) (qn h) (Int.toNat (h.2.2 56 2))) := skp_ge
  have zq9 := qr_in hI (skp isBl (qr h) (qn h) (Int.toNat (h.2.2 56 2)))
  refine to_putIw p_c6_29 (dat dk_X5_next 9 rfl) (hI.atS rfl) ?_
  intro h13 wh13
  have I11 : Inv h13 := by rw [wh13]; exact hI.put (a := 56) (j := 1) (x := x7) (0) (1201) rfl rfl (show (0 : Int) ≤ x7 ∧ x7 ≤ 1201 by omega)
  have f12 : Fr [56] h h13 := by rw [wh13]; exact Fr.putF (a := 56) (j := 1) (x := x7) (Fr.rf _ _) rfl
  have t14 : qr h13 = qr h := by rw [wh13]; exact qr_wr rfl
  have t15 : qn h13 = qn h := by rw [wh13]; exact qn_wr rfl
  refine to_aload_n (dat dk_X5_next 10 rfl) rfl (to_getR 6 g_c6_9 (dat dk_X5_next 11 rfl) (I11.atS rfl) (I11.atE rfl) (to_aload_n (dat dk_X5_next 12 rfl) rfl (to_getIv (y := x7) (by rw [wh13]; exact wr_eq) g_c6_29 (dat dk_X5_next 13 rfl) (I11.atS rfl) ?_)))
  have e16 : h13.2.2 6 1 = x3 := (by rw [wh13]; exact ex3)
  refine to_cI ca_c6_32 (dat dk_X5_next 14 rfl) (ct_X1_byteAt_v6x l h13 I11 x7 rx7) rfl ⟨_, _, rfl, (I11.atS rfl)⟩ rfl (fun x17 h18 rx17 p19 => ?_)
  obtain ⟨rfl, p19_0⟩ := p19
  rw [t14, zP10] at p19_0
  refine to_istore_n (L' := [(0, .inr (.inr 56)), (1, .inl x17)]) (dat dk_X5_next 15 rfl) (by decide) rfl (to_aload_n (dat dk_X5_next 16 rfl) rfl (to_aload_n (dat dk_X5_next 17 rfl) rfl (to_getIv (y := x7) (by rw [wh13]; exact wr_eq) g_c6_29 (dat dk_X5_next 18 rfl) (I11.atS rfl) (to_iconst (dat dk_X5_next 19 rfl) (to_iadd (dat dk_X5_next 20 rfl) (to_putIw p_c6_15 (dat dk_X5_next 21 rfl) (I11.atS rfl) ?_))))))
  intro h22 wh22
  have I20 : Inv h22 := by rw [wh22]; exact I11.put (a := 56) (j := 2) (x := (x7 + 1)) (0) (1202) rfl rfl (show (0 : Int) ≤ (x7 + 1) ∧ (x7 + 1) ≤ 1202 by omega)
  have f21 : Fr [56] h h22 := by rw [wh22]; exact Fr.putF (a := 56) (j := 2) (x := (x7 + 1)) f12 rfl
  have t23 : qr h22 = qr h13 := by rw [wh22]; exact qr_wr rfl
  have t24 : qn h22 = qn h13 := by rw [wh22]; exact qn_wr rfl
  refine to_aload_n (dat dk_X5_next 22 rfl) rfl (to_bipush (dat dk_X5_next 23 rfl) (by decide) (to_putIw p_c6_36 (dat dk_X5_next 24 rfl) (I20.atS rfl) ?_))
  intro h27 wh27
  have I25 : Inv h27 := by rw [wh27]; exact I20.put (a := 56) (j := 3) (x := 8) (0) (8) rfl rfl (show (0 : Int) ≤ 8 ∧ 8 ≤ 8 by decide)
  have f26 : Fr [56] h h27 := by rw [wh27]; exact Fr.putF (a := 56) (j := 3) (x := 8) f21 rfl
  have t28 : qr h27 = qr h22 := by rw [wh27]; exact qr_wr rfl
  have t29 : qn h27 = qn h22 := by rw [wh27]; exact qn_wr rfl
  refine to_aload_n (dat dk_X5_next 25 rfl) rfl (to_iconst (dat dk_X5_next 26 rfl) (to_putZw p_c6_39 (dat dk_X5_next 27 rfl) (I25.atS rfl) (by decide) ?_))
  intro h32 wh32
  have I30 : Inv h32 := by rw [wh32]; exact I25.put (a := 56) (j := 6) (x := 0) (0) (1) rfl rfl (show (0 : Int) ≤ 0 ∧ 0 ≤ 1 by decide)
  have f31 : Fr [56] h h32 := by rw [wh32]; exact Fr.putF (a := 56) (j := 6) (x := 0) f26 rfl
  have t33 : qr h32 = qr h27 := by rw [wh32]; exact qr_wr rfl
  have t34 : qn h32 = qn h27 := by rw [wh32]; exact qn_wr rfl
  refine to_iload_n (dat dk_X5_next 28 rfl) rfl ?_
  refine to_look (d := 115) (ps := [((-1), 100), (34, 106), (40, 102), (41, 104)]) (dat dk_X5_next 29 rfl) (by decide) rfl rfl rx17 ⟨fun c35 => ?_, fun c39 => ⟨fun c35 => ?_, fun c38 => ⟨fun c35 => ?_, fun c37 => ⟨fun c35 => ?_, fun c36 => ?_⟩⟩⟩⟩
  · skip
    refine to_iconst (dat dk_X5_next 30 rfl) ?_
    have e40 : h32.2.2 56 1 = x7 := (by rw [wh32]; exact (show h27.2.2 56 1 = x7 from (by rw [wh27]; exact (show h22.2.2 56 1 = x7 from (by rw [wh22]; exact (show h13.2.2 56 1 = x7 from (by rw [wh13]; exact wr_eq)))))))
    exact to_iret rfl (dat dk_X5_next 31 rfl) (ri_mk (by decide) ⟨I30, f31, (show h32.2.2 56 1 = ((skp isBl (qr h) (qn h) (Int.toNat (h.2.2 56 2))) : Nat) by omega), (by have z := tk_0 (r := qr h) (n := qn h) (p := (skp isBl (qr h) (qn h) (Int.toNat (h.2.2 56 2)))) (by omega); omega), (Or.inl rfl)⟩)
  · skip
    have zu1 : (skp isBl (qr h) (qn h) (Int.toNat (h.2.2 56 2))) < qn h := by omega
    have zu5 : qr h (skp isBl (qr h) (qn h) (Int.toNat (h.2.2 56 2))) = 34 := by omega
    have e41 : h32.2.2 56 1 = x7 := (by rw [wh32]; exact (show h27.2.2 56 1 = x7 from (by rw [wh27]; exact (show h22.2.2 56 1 = x7 from (by rw [wh22]; exact (show h13.2.2 56 1 = x7 from (by rw [wh13]; exact wr_eq)))))))
    have zv : h32.2.2 56 1 = (((skp isBl (qr h) (qn h) (Int.toNat (h.2.2 56 2))) : Nat) : Int) := by omega
    have zv2 : Int.toNat (h32.2.2 56 1) = (skp isBl (qr h) (qn h) (Int.toNat (h.2.2 56 2))) := by omega
    try clear p6
    try clear p6_0
    try clear p9
    try clear p9_0
    try clear p19
    try clear p19_0
    try clear c35
    try clear c36
    refine to_aload_n (dat dk_X5_next 36 rfl) rfl (to_aload_n (dat dk_X5_next 37 rfl) rfl (to_getIv (y := x7) e41 g_c6_29 (dat dk_X5_next 38 rfl) (I30.atS rfl) ?_))
    have e42 : h32.2.2 6 1 = x3 := (by rw [wh32]; exact (show h27.2.2 6 1 = x3 from (by rw [wh27]; exact (show h22.2.2 6 1 = x3 from (by rw [wh22]; exact e16)))))
    refine to_cI ca_c6_43 (dat dk_X5_next 39 rfl) (ct_X5_readPhrase_vx l h32 I30 x7 rx7 (show 0 ≤ x7 ∧ x7 < h32.2.2 6 1 by omega)) rfl ⟨_, _, rfl, (I30.atS rfl)⟩ rfl (fun x43 h44 rx43 p45 => ?_)
    obtain ⟨Ih44, fh44, p45_0, p45_1, p45_2⟩ := p45
    have f46 : Fr [56] h h44 := Fr.sub f31 fh44 (sub_self _)
    have t47 : qr h44 = qr h32 := qr_fr fh44 I30 rfl
    have t48 : qn h44 = qn h32 := qn_fr fh44 I30 rfl
    obtain ⟨x49, ex49⟩ : ∃ y : Int, h44.2.2 56 2 = y := ⟨_, rfl⟩
    have rx49 := Ih44.atR (a := 56) (j := 2) rfl
    rw [ex49] at rx49
    obtain ⟨x50, ex50⟩ : ∃ y : Int, h44.2.2 56 1 = y := ⟨_, rfl⟩
    have rx50 := Ih44.atR (a := 56) (j := 1) rfl
    rw [ex50] at rx50
    have e51 : h44.2.2 6 1 = x3 := ((Fr.get fh44 (by have := I30.1.1; omega) rfl).trans e42)
    rw [(t33.trans (t28.trans (t23.trans t14))), (t34.trans (t29.trans (t24.trans t15))), show Int.toNat (x7 + 1) = (skp isBl (qr h) (qn h) (Int.toNat (h.2.2 56 2))) + 1 by omega] at p45_0
    exact to_iret rfl (dat dk_X5_next 40 rfl) (ri_mk rx43 ⟨Ih44, f46, (p45_1.trans zv), (by rcases p45_0 with ⟨z1, z2⟩ | ⟨z1, z2, z3⟩; exact z1.trans (tk_7 (r := qr h) (n := qn h) (p := (skp isBl (qr h) (qn h) (Int.toNat (h.2.2 56 2)))) zu1 zu5 z2).symm; exact z1.trans (tk_6 (r := qr h) (n := qn h) (p := (skp isBl (qr h) (qn h) (Int.toNat (h.2.2 56 2)))) zu1 zu5 z2).1.symm), (by rcases p45_0 with ⟨z1, z2⟩ | ⟨z1, z2, z3⟩; exact Or.inr (Or.inl z1); exact Or.inr (Or.inr (by have z := tk_6 (r := qr h) (n := qn h) (p := (skp isBl (qr h) (qn h) (Int.toNat (h.2.2 56 2)))) zu1 zu5 z2; omega)))⟩)
  · skip
    refine to_iconst (dat dk_X5_next 32 rfl) ?_
    have e52 : h32.2.2 56 1 = x7 := (by rw [wh32]; exact (show h27.2.2 56 1 = x7 from (by rw [wh27]; exact (show h22.2.2 56 1 = x7 from (by rw [wh22]; exact (show h13.2.2 56 1 = x7 from (by rw [wh13]; exact wr_eq)))))))
    have e53 : h32.2.2 56 2 = (x7 + 1) := (by rw [wh32]; exact (show h27.2.2 56 2 = (x7 + 1) from (by rw [wh27]; exact (show h22.2.2 56 2 = (x7 + 1) from (by rw [wh22]; exact wr_eq)))))
    have e54 : h32.2.2 6 1 = x3 := (by rw [wh32]; exact (show h27.2.2 6 1 = x3 from (by rw [wh27]; exact (show h22.2.2 6 1 = x3 from (by rw [wh22]; exact e16)))))
    exact to_iret rfl (dat dk_X5_next 33 rfl) (ri_mk (by decide) ⟨I30, f31, (show h32.2.2 56 1 = ((skp isBl (qr h) (qn h) (Int.toNat (h.2.2 56 2))) : Nat) by omega), (by have z := tk_40 (r := qr h) (n := qn h) (p := (skp isBl (qr h) (qn h) (Int.toNat (h.2.2 56 2)))) (by omega) (by omega); omega), (Or.inr (Or.inr (by have z := tk_40 (r := qr h) (n := qn h) (p := (skp isBl (qr h) (qn h) (Int.toNat (h.2.2 56 2)))) (by omega) (by omega); omega)))⟩)
  · skip
    refine to_iconst (dat dk_X5_next 34 rfl) ?_
    have e55 : h32.2.2 56 1 = x7 := (by rw [wh32]; exact (show h27.2.2 56 1 = x7 from (by rw [wh27]; exact (show h22.2.2 56 1 = x7 from (by rw [wh22]; exact (show h13.2.2 56 1 = x7 from (by rw [wh13]; exact wr_eq)))))))
    have e56 : h32.2.2 56 2 = (x7 + 1) := (by rw [wh32]; exact (show h27.2.2 56 2 = (x7 + 1) from (by rw [wh27]; exact (show h22.2.2 56 2 = (x7 + 1) from (by rw [wh22]; exact wr_eq)))))
    have e57 : h32.2.2 6 1 = x3 := (by rw [wh32]; exact (show h27.2.2 6 1 = x3 from (by rw [wh27]; exact (show h22.2.2 6 1 = x3 from (by rw [wh22]; exact e16)))))
    exact to_iret rfl (dat dk_X5_next 35 rfl) (ri_mk (by decide) ⟨I30, f31, (show h32.2.2 56 1 = ((skp isBl (qr h) (qn h) (Int.toNat (h.2.2 56 2))) : Nat) by omega), (by have z := tk_41 (r := qr h) (n := qn h) (p := (skp isBl (qr h) (qn h) (Int.toNat (h.2.2 56 2)))) (by omega) (by omega); omega), (Or.inr (Or.inr (by have z := tk_41 (r := qr h) (n := qn h) (p := (skp isBl (qr h) (qn h) (Int.toNat (h.2.2 56 2)))) (by omega) (by omega); omega)))⟩)
  · skip
    have zu1 : (skp isBl (qr h) (qn h) (Int.toNat (h.2.2 56 2))) < qn h := by omega
    have zu2 : qr h (skp isBl (qr h) (qn h) (Int.toNat (h.2.2 56 2))) ≠ 40 := by omega
    have zu3 : qr h (skp isBl (qr h) (qn h) (Int.toNat (h.2.2 56 2))) ≠ 41 := by omega
    have zu4 : qr h (skp isBl (qr h) (qn h) (Int.toNat (h.2.2 56 2))) ≠ 34 := by omega
    have e58 : h32.2.2 56 1 = x7 := (by rw [wh32]; exact (show h27.2.2 56 1 = x7 from (by rw [wh27]; exact (show h22.2.2 56 1 = x7 from (by rw [wh22]; exact (show h13.2.2 56 1 = x7 from (by rw [wh13]; exact wr_eq)))))))
    have zv : h32.2.2 56 1 = (((skp isBl (qr h) (qn h) (Int.toNat (h.2.2 56 2))) : Nat) : Int) := by omega
    have zv2 : Int.toNat (h32.2.2 56 1) = (skp isBl (qr h) (qn h) (Int.toNat (h.2.2 56 2))) := by omega
    try clear p6
    try clear p6_0
    try clear p9
    try clear p9_0
    try clear p19
    try clear p19_0
    try clear c35
    try clear c36
    refine to_aload_n (dat dk_X5_next 41 rfl) rfl ?_
    have e59 : h32.2.2 6 1 = x3 := (by rw [wh32]; exact (show h27.2.2 6 1 = x3 from (by rw [wh27]; exact (show h22.2.2 6 1 = x3 from (by rw [wh22]; exact e16)))))
    have e60 : h32.2.2 56 3 = (8 : Int) := (by rw [wh32]; exact (show h27.2.2 56 3 = (8 : Int) from (by rw [wh27]; exact wr_eq)))
    refine to_cI ca_c6_46 (dat dk_X5_next 42 rfl) (ct_X5_readWord_vx l h32 I30 (show 0 ≤ h32.2.2 56 1 ∧ h32.2.2 56 1 < h32.2.2 6 1 by omega) (show h32.2.2 56 3 = 8 by omega) (by rw [(t33.trans (t28.trans (t23.trans t14))), zv2]; exact noSg_of (skp_stop (P := isBl) (r := qr h) (n := qn h) (p := Int.toNat (h.2.2 56 2)) zu1) zu2 zu3 zu4)) rfl ⟨_, _, rfl, (I30.atS rfl)⟩ rfl (fun x61 h62 rx61 p63 => ?_)
    obtain ⟨Ih62, fh62, p63_0, p63_1, p63_2⟩ := p63
    have f64 : Fr [56] h h62 := Fr.sub f31 fh62 (sub_self _)
    have t65 : qr h62 = qr h32 := qr_fr fh62 I30 rfl
    have t66 : qn h62 = qn h32 := qn_fr fh62 I30 rfl
    obtain ⟨x67, ex67⟩ : ∃ y : Int, h62.2.2 56 2 = y := ⟨_, rfl⟩
    have rx67 := Ih62.atR (a := 56) (j := 2) rfl
    rw [ex67] at rx67
    obtain ⟨x68, ex68⟩ : ∃ y : Int, h62.2.2 56 1 = y := ⟨_, rfl⟩
    have rx68 := Ih62.atR (a := 56) (j := 1) rfl
    rw [ex68] at rx68
    have e69 : h62.2.2 6 1 = x3 := ((Fr.get fh62 (by have := I30.1.1; omega) rfl).trans e59)
    rw [(t33.trans (t28.trans (t23.trans t14))), (t34.trans (t29.trans (t24.trans t15))), zv2] at p63_0
    rw [(t33.trans (t28.trans (t23.trans t14))), (t34.trans (t29.trans (t24.trans t15))), zv2] at p63_1
    exact to_iret rfl (dat dk_X5_next 43 rfl) (ri_mk rx61 ⟨Ih62, f64, (p63_2.trans zv), (p63_0.trans (tk_w (r := qr h) (n := qn h) (p := (skp isBl (qr h) (qn h) (Int.toNat (h.2.2 56 2)))) zu1 zu2 zu3 zu4).1.symm), (by rcases p63_1 with z1 | z1; exact Or.inr (Or.inl z1); exact Or.inr (Or.inr (by have z := tk_w (r := qr h) (n := qn h) (p := (skp isBl (qr h) (qn h) (Int.toNat (h.2.2 56 2)))) zu1 zu2 zu3 zu4; clear zu2 zu3 zu4; omega)))⟩)
