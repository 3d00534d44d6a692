/-! Contracts, by program. -/
abbrev Q_X8_matches_vx (h : Hp) : Option V → Hp → Nat → Nat → Prop := RLo (fun x H => Inv H ∧ Fr [27, 28, 29, 30, 31, 49, 50, 51, 52, 53, 54, 56] h H ∧ (H.2.2 49 16 = pq (qr h) (qn h) 0 0 false false))
set_option maxRecDepth 100000 in
set_option maxHeartbeats 8000000 in
theorem ct_X8_matches_vx (l : Launch) (h : Hp) (hI : Inv h)  : Ct l D_X8_matches 9 197 [.inr (.inr 49)] h (Q_X8_matches_vx h) := by
  refine ct_of pn_X8_matches (Nat.le_of_ble_eq_true rfl) ?_
  show To l E_X8_matches (0, [(0, .inr (.inr 49))], [], h, 0, 0) _
  have zq := qn_is hI
  obtain ⟨x1, ex1⟩ : ∃ y : Int, h.2.2 49 16 = y := ⟨_, rfl⟩
  have rx1 := hI.atR (a := 49) (j := 16) rfl
  rw [ex1] at rx1
  obtain ⟨x2, ex2⟩ : ∃ y : Int, h.2.2 56 2 = y := ⟨_, rfl⟩
  have rx2 := hI.atR (a := 56) (j := 2) rfl
  rw [ex2] at rx2
  obtain ⟨x3, ex3⟩ : ∃ y : Int, h.2.2 6 1 = y := ⟨_, rfl⟩
  have rx3 := hI.atR (a := 6) (j := 1) rfl
  rw [ex3] at rx3
  obtain ⟨x4, ex4⟩ : ∃ y : Int, h.2.2 49 14 = y := ⟨_, rfl⟩
  have rx4 := hI.atR (a := 49) (j := 14) rfl
  rw [ex4] at rx4
  refine to_aload_n (dat dk_X8_matches 0 rfl) rfl (to_lconst (v := 1) (dat dk_X8_matches 1 rfl) rfl (to_aload_n (dat dk_X8_matches 2 rfl) rfl (to_getR 26 g_c9_40 (dat dk_X8_matches 3 rfl) (hI.atS rfl) (hI.atE rfl) ?_)))
  obtain ⟨x5, ex5⟩ : ∃ y : Int, h.2.2 26 2 = y := ⟨_, rfl⟩
  have rx5 := hI.atR (a := 26) (j := 2) rfl
  rw [ex5] at rx5
  refine to_cI ca_c9_67 (dat dk_X8_matches 4 rfl) (ct_Jx4a65c_size_8abf5 l h hI ) rfl ⟨_, _, rfl, (hI.atS rfl)⟩ rfl (fun x6 h7 rx6 p8 => ?_)
  obtain ⟨rfl, p8_0, p8_1⟩ := p8
  refine to_lshl (dat dk_X8_matches 5 rfl) (fun w9 => ?_)
  refine to_lconst (v := 1) (dat dk_X8_matches 6 rfl) rfl ?_
  refine to_lsub (dat dk_X8_matches 7 rfl) (fun w10 => ?_)
  refine to_putLw p_c9_73 (dat dk_X8_matches 8 rfl) (hI.atS rfl) ?_
  intro h13 wh13
  have I11 : Inv h13 := by rw [wh13]; exact hI.putL (x := w10) (a := 49) (j := 15) rfl
  have f12 : Fr [27, 28, 29, 30, 31, 49, 50, 51, 52, 53, 54, 56] h h13 := by rw [wh13]; exact Fr.putF (a := 49) (j := 15) (x := w10) (Fr.rf _ _) rfl
  have t14 : qr h13 = qr h := by rw [wh13]; exact qr_wr rfl
  have t15 : qn h13 = qn h := by rw [wh13]; exact qn_wr rfl
  refine to_aload_n (dat dk_X8_matches 9 rfl) rfl (to_iconst (dat dk_X8_matches 10 rfl) (to_putIw p_c9_77 (dat dk_X8_matches 11 rfl) (I11.atS rfl) ?_))
  intro h18 wh18
  have I16 : Inv h18 := by rw [wh18]; exact I11.put (a := 49) (j := 16) (x := (-1)) (-2147483648) (2147483647) rfl rfl (show (-2147483648 : Int) ≤ (-1) ∧ (-1) ≤ 2147483647 by decide)
  have f17 : Fr [27, 28, 29, 30, 31, 49, 50, 51, 52, 53, 54, 56] h h18 := by rw [wh18]; exact Fr.putF (a := 49) (j := 16) (x := (-1)) f12 rfl
  have t19 : qr h18 = qr h13 := by rw [wh18]; exact qr_wr rfl
  have t20 : qn h18 = qn h13 := by rw [wh18]; exact qn_wr rfl
  refine to_aload_n (dat dk_X8_matches 12 rfl) rfl (to_getR 56 g_c9_63 (dat dk_X8_matches 13 rfl) (I16.atS rfl) (I16.atE rfl) ?_)
  refine to_cV ca_c9_81 (dat dk_X8_matches 14 rfl) (ct_X5_restart l h18 I16 ) rfl ⟨_, _, rfl, (I16.atS rfl)⟩ rfl (fun h22 p23 => ?_)
  obtain ⟨Ih22, fh22, p23_0⟩ := p23
  have f24 : Fr [27, 28, 29, 30, 31, 49, 50, 51, 52, 53, 54, 56] h h22 := Fr.sub f17 fh22 rfl
  have t25 : qr h22 = qr h18 := qr_fr fh22 I16 rfl
  have t26 : qn h22 = qn h18 := qn_fr fh22 I16 rfl
  obtain ⟨x27, ex27⟩ : ∃ y : Int, h22.2.2 56 2 = y := ⟨_, rfl⟩
  have rx27 := Ih22.atR (a := 56) (j := 2) rfl
  rw [ex27] at rx27
  refine to_aload_n (dat dk_X8_matches 15 rfl) rfl (to_iconst (dat dk_X8_matches 16 rfl) ?_)
  have e28 : h22.2.2 49 16 = (-1 : Int) := ((Fr.get fh22 (by have := I16.1.1; omega) rfl).trans (by rw [wh18]; exact wr_eq))
  refine to_cV ca_c9_84 (dat dk_X8_matches 17 rfl) (ct_X8_startLevel_vx l h22 Ih22 0 (by decide) (show 0 ≤ (0 : Int) ∧ (0 : Int) ≤ 20 by omega)) rfl ⟨_, _, rfl, (Ih22.atS rfl)⟩ rfl (fun h30 p31 => ?_)
  obtain ⟨Ih30, fh30, p31_0, p31_1⟩ := p31
  have f32 : Fr [27, 28, 29, 30, 31, 49, 50, 51, 52, 53, 54, 56] h h30 := Fr.sub f24 fh30 rfl
  have t33 : qr h30 = qr h22 := qr_fr fh30 Ih22 rfl
  have t34 : qn h30 = qn h22 := qn_fr fh30 Ih22 rfl
  obtain ⟨x35, ex35⟩ : ∃ y : Int, h30.2.2 49 14 = y := ⟨_, rfl⟩
  have rx35 := Ih30.atR (a := 49) (j := 14) rfl
  rw [ex35] at rx35
  obtain ⟨x36, ex36⟩ : ∃ y : Int, h30.2.2 49 16 = y := ⟨_, rfl⟩
  have rx36 := Ih30.atR (a := 49) (j := 16) rfl
  rw [ex36] at rx36
  refine to_iconst (dat dk_X8_matches 18 rfl) (to_istore_n (L' := [(0, .inr (.inr 49)), (1, .inl 0)]) (dat dk_X8_matches 19 rfl) (by decide) rfl (to_iconst (dat dk_X8_matches 20 rfl) (to_istore_n (L' := [(0, .inr (.inr 49)), (1, .inl 0), (2, .inl 0)]) (dat dk_X8_matches 21 rfl) (by decide) rfl ?_)))
  have e40 : h30.2.2 56 2 = x27 := ((Fr.get fh30 (by have := Ih22.1.1; omega) rfl).trans ex27)
  have e42 : h30.2.2 6 1 = x3 := ((Fr.get fh30 (by have := Ih22.1.1; omega) rfl).trans ((Fr.get fh22 (by have := I16.1.1; omega) rfl).trans (by rw [wh18]; exact (show h13.2.2 6 1 = x3 from (by rw [wh13]; exact ex3)))))
  have lp36_n50 : ∀ (n50 : Nat) (y37 : Int) (y38 : Int) (h39 : Hp), (y37 = 0 ∨ y37 = 1) → (I32 y38) → (Inv h39) → (Fr [27, 28, 29, 30, 31, 49, 50, 51, 52, 53, 54, 56] h h39) → (0 ≤ y38 ∧ y38 ≤ h39.2.2 56 2) → (h39.2.2 56 2 ≤ h39.2.2 6 1) → (0 ≤ h39.2.2 49 14 ∧ h39.2.2 49 14 ≤ 20) → (h39.2.2 49 16 = -1) → (pq (qr h) (qn h) 0 0 false false = pq (qr h) (qn h) (Int.toNat (h39.2.2 56 2)) (Int.toNat (h39.2.2 49 14)) (decide (y37 = 0 ∧ 0 < y38)) (decide (0 < y38))) → (qr h39 = qr h) → (qn h39 = qn h) → (y38 ≠ 0 ∨ (y37 = 0 ∧ h39.2.2 49 14 = 0)) → (h39.2.2 6 1 - y38 + 1 ≤ (n50 : Int)) → To l E_X8_matches (36, [(0, .inr (.inr 49)), (1, .inl y37), (2, .inl y38)], [], h39, 0, 0) (Q_X8_matches_vx h) := by
    intro n50
    induction n50 using Nat.strongRecOn with
    | _ n50 ihn50 =>
    intro y37 y38 h39 ry37 ry38 Ih39 fh39 c41 c43 c44 c45 c46 c47 c48 c49 c51
    obtain ⟨x52, ex52⟩ : ∃ y : Int, h39.2.2 56 2 = y := ⟨_, rfl⟩
    have rx52 := Ih39.atR (a := 56) (j := 2) rfl
    rw [ex52] at rx52
    have e53 : h39.2.2 6 1 = x3 := ((Fr.get fh39 (by have := hI.1.1; omega) rfl).trans ex3)
    obtain ⟨x54, ex54⟩ : ∃ y : Int, h39.2.2 49 14 = y := ⟨_, rfl⟩
    have rx54 := Ih39.atR (a := 49) (j := 14) rfl
    rw [ex54] at rx54
    obtain ⟨x55, ex55⟩ : ∃ y : Int, h39.2.2 49 16 = y := ⟨_, rfl⟩
    have rx55 := Ih39.atR (a := 49) (j := 16) rfl
    rw [ex55] at rx55
    refine to_iload_n (dat dk_X8_matches 22 rfl) rfl (to_aload_n (dat dk_X8_matches 23 rfl) rfl (to_getR 6 g_c9_37 (dat dk_X8_matches 24 rfl) (Ih39.atS rfl) (Ih39.atE rfl) ?_))
    refine to_cI ca_c9_87 (dat dk_X8_matches 25 rfl) (ct_X1_size l h39 Ih39 6 rfl) rfl ⟨_, _, rfl, (Ih39.atS rfl)⟩ rfl (fun x56 h57 rx56 p58 => ?_)
    obtain ⟨rfl, p58_0⟩ := p58
    refine to_igt 138 (dat dk_X8_matches 26 rfl) rfl ry38 rx56 (fun c59 => ?_) (fun c59 => ?_)
    · skip
      refine to_aload_n (dat dk_X8_matches 74 rfl) rfl (to_getR 50 g_c9_11 (dat dk_X8_matches 75 rfl) (Ih39.atS rfl) (Ih39.atE rfl) (to_iconst (dat dk_X8_matches 76 rfl) ?_))
      refine to_lald (dat dk_X8_matches 77 rfl) (Ih39.atS rfl) rfl (by decide) (by decide) ?_
      generalize h39.2.2 50 (Int.toNat 0) = w60
      refine to_aload_n (dat dk_X8_matches 78 rfl) rfl (to_getR 51 g_c9_15 (dat dk_X8_matches 79 rfl) (Ih39.atS rfl) (Ih39.atE rfl) (to_iconst (dat dk_X8_matches 80 rfl) ?_))
      refine to_lald (dat dk_X8_matches 81 rfl) (Ih39.atS rfl) rfl (by decide) (by decide) ?_
      generalize h39.2.2 51 (Int.toNat 0) = w61
      refine to_lor (dat dk_X8_matches 82 rfl) (fun w62 => ?_)
      exact to_lret rfl (dat dk_X8_matches 83 rfl) (rl_mk ⟨Ih39, fh39, (by exfalso; omega)⟩)
    · skip
      refine to_aload_n (dat dk_X8_matches 27 rfl) rfl (to_getR 56 g_c9_63 (dat dk_X8_matches 28 rfl) (Ih39.atS rfl) (Ih39.atE rfl) ?_)
      refine to_cI ca_c9_88 (dat dk_X8_matches 29 rfl) (ct_X5_next_vx l h39 Ih39 (show h39.2.2 56 2 ≤ h39.2.2 6 1 by omega)) rfl ⟨_, _, rfl, (Ih39.atS rfl)⟩ rfl (fun x63 h64 rx63 p65 => ?_)
      obtain ⟨Ih64, fh64, p65_0, p65_1, p65_2⟩ := p65
      have f66 : Fr [27, 28, 29, 30, 31, 49, 50, 51, 52, 53, 54, 56] h h64 := Fr.sub fh39 fh64 rfl
      have t67 : qr h64 = qr h39 := qr_fr fh64 Ih39 rfl
      have t68 : qn h64 = qn h39 := qn_fr fh64 Ih39 rfl
      obtain ⟨x69, ex69⟩ : ∃ y : Int, h64.2.2 56 1 = y := ⟨_, rfl⟩
      have rx69 := Ih64.atR (a := 56) (j := 1) rfl
      rw [ex69] at rx69
      obtain ⟨x70, ex70⟩ : ∃ y : Int, h64.2.2 56 2 = y := ⟨_, rfl⟩
      have rx70 := Ih64.atR (a := 56) (j := 2) rfl
      rw [ex70] at rx70
      have e71 : h64.2.2 6 1 = x3 := ((Fr.get fh64 (by have := Ih39.1.1; omega) rfl).trans e53)
      rw [c47, c48] at p65_0
      rw [c47, c48] at p65_1
      rw [c47, c48] at p65_2
      have zQ := c46.trans (pq_bl _ _ (Nat.le_refl _))
      have zb : (skp isBl (qr h) (qn h) (Int.toNat (h39.2.2 56 2))) < qn h → isBl (qr h (skp isBl (qr h) (qn h) (Int.toNat (h39.2.2 56 2)))) = false := fun q => skp_stop q
      have zl : (skp isBl (qr h) (qn h) (Int.toNat (h39.2.2 56 2))) ≤ qn h := skp_le (by omega)
      have zg : (Int.toNat (h39.2.2 56 2)) ≤ (skp isBl (qr h) (qn h) (Int.toNat (h39.2.2 56 2))) := skp_ge
      have zk := tkK_in (r := qr h) (n := qn h) (p := (skp isBl (qr h) (qn h) (Int.toNat (h39.2.2 56 2))))
      have zKa := p65_1
      have zKb := p65_0
      refine to_istore_n (L' := [(0, .inr (.inr 49)), (1, .inl y37), (2, .inl y38), (3, .inl x63)]) (dat dk_X8_matches 30 rfl) (by decide) rfl (to_aload_n (dat dk_X8_matches 31 rfl) rfl (to_iload_n (dat dk_X8_matches 32 rfl) rfl (to_iload_n (dat dk_X8_matches 33 rfl) rfl ?_)))
      have jn67_n74 : ∀ (y72 : Int), (y72 = 0 ∨ y72 = 1) → ((y72 = 1 ∧ y38 = 0) ∨ (y72 = 0 ∧ y38 ≠ 0)) → To l E_X8_matches (67, [(0, .inr (.inr 49)), (1, .inl y37), (2, .inl y38), (3, .inl x63)], [.inl y72, .inl y37, .inl x63, .inr (.inr 49)], h64, 0, 0) (Q_X8_matches_vx h) := by
        intro y72 ry72 c73
        have e75 : h64.2.2 49 14 = x54 := ((Fr.get fh64 (by have := Ih39.1.1; omega) rfl).trans ex54)
        refine to_cI ca_c9_91 (dat dk_X8_matches 39 rfl) (ct_X8_canStand_vx l h64 Ih64 x63 rx63 y37 (by omega) y72 (by omega) (show 0 ≤ x63 ∧ x63 ≤ 7 by omega)) rfl ⟨_, _, rfl, (Ih64.atS rfl)⟩ rfl (fun x76 h77 rx76 p78 => ?_)
        obtain ⟨rfl, zx76, p78_0⟩ := p78
        refine to_ifne 86 (dat dk_X8_matches 40 rfl) rfl rx76 (fun c79 => ?_) (fun c79 => ?_)
        · skip
          have zc : (x63 = 0 ∧ y37 = 0 ∧ h39.2.2 49 14 = 0) ∨ (x63 = 1 ∧ h39.2.2 49 14 < 20) ∨ (x63 = 2 ∧ y37 = 0 ∧ 0 < h39.2.2 49 14) ∨ ((x63 = 3 ∨ x63 = 4) ∧ y37 = 0 ∧ y38 ≠ 0) ∨ x63 = 5 ∨ x63 = 6 := by omega
          try clear p8
          try clear p8_0
          try clear p8_1
          try clear t14
          try clear t15
          try clear t19
          try clear t20
          try clear p23
          try clear p23_0
          try clear t25
          try clear t26
          try clear p31
          try clear p31_0
          try clear p31_1
          try clear t33
          try clear t34
          try clear p58
          try clear p58_0
          try clear c59
          try clear p65
          try clear p65_0
          try clear p65_1
          try clear p78
          try clear zx76
          try clear p78_0
          try clear c79
          refine to_iload_n (dat dk_X8_matches 48 rfl) rfl ?_
          refine to_ifne 93 (dat dk_X8_matches 49 rfl) rfl rx63 (fun c80 => ?_) (fun c80 => ?_)
          · skip
            refine to_iload_n (dat dk_X8_matches 51 rfl) rfl (to_bipush (dat dk_X8_matches 52 rfl) (by decide) ?_)
            refine to_ine 110 (dat dk_X8_matches 53 rfl) rfl rx63 (by decide) (fun c81 => ?_) (fun c81 => ?_)
            · skip
              refine to_aload_n (dat dk_X8_matches 59 rfl) rfl (to_iload_n (dat dk_X8_matches 60 rfl) rfl ?_)
              have e82 : h64.2.2 49 16 = x55 := ((Fr.get fh64 (by have := Ih39.1.1; omega) rfl).trans ex55)
              refine to_cV ca_c9_106 (dat dk_X8_matches 61 rfl) (ct_X8_take_vx l h64 Ih64 x63 rx63 (show 1 ≤ x63 ∧ x63 ≤ 5 by omega) (show (x63 = 1 ∧ 0 ≤ h64.2.2 49 14 ∧ h64.2.2 49 14 < 20) ∨ (x63 = 2 ∧ 0 < h64.2.2 49 14 ∧ h64.2.2 49 14 ≤ 20) ∨ 3 ≤ x63 by omega)) rfl ⟨_, _, rfl, (Ih64.atS rfl)⟩ rfl (fun h84 p85 => ?_)
              obtain ⟨Ih84, fh84, p85_0, p85_1⟩ := p85
              have f86 : Fr [27, 28, 29, 30, 31, 49, 50, 51, 52, 53, 54, 56] h h84 := Fr.sub f66 fh84 rfl
              have t87 : qr h84 = qr h64 := qr_fr fh84 Ih64 rfl
              have t88 : qn h84 = qn h64 := qn_fr fh84 Ih64 rfl
              obtain ⟨x89, ex89⟩ : ∃ y : Int, h84.2.2 49 14 = y := ⟨_, rfl⟩
              have rx89 := Ih84.atR (a := 49) (j := 14) rfl
              rw [ex89] at rx89
              obtain ⟨x90, ex90⟩ : ∃ y : Int, h84.2.2 49 16 = y := ⟨_, rfl⟩
              have rx90 := Ih84.atR (a := 49) (j := 16) rfl
              rw [ex90] at rx90
              have e91 : h84.2.2 56 2 = x70 := ((Fr.get fh84 (by have := Ih64.1.1; omega) rfl).trans ex70)
              have e92 : h84.2.2 6 1 = x3 := ((Fr.get fh84 (by have := Ih64.1.1; omega) rfl).trans e71)
              have z70 : x63 ≠ 0 := by clear zQ zb zl zg zk; omega
              have z71 : x63 ≠ 7 := by clear zQ zb zl zg zk; omega
              obtain ⟨zP1, zP2, zP3⟩ := (p65_2.resolve_left z70).resolve_left z71
              clear p65_2
              have zlv : 0 ≤ h39.2.2 49 14 ∧ h39.2.2 49 14 ≤ 20 := by clear zc; omega
              have zF16 : h84.2.2 49 16 = -1 := by clear zc; omega
              have zB : h84.2.2 56 2 = tkB (qr h) (qn h) (skp isBl (qr h) (qn h) (Int.toNat (h39.2.2 56 2))) := by clear zc; omega
              have zgt : y38 + 1 ≤ h84.2.2 56 2 := by clear zc; omega
              have zsz : h84.2.2 56 2 ≤ h84.2.2 6 1 := by clear zc; omega
              have zd : (tkK (qr h) (qn h) (skp isBl (qr h) (qn h) (Int.toNat (h39.2.2 56 2))) = 1 ∧ h39.2.2 49 14 < 20 ∧ h84.2.2 49 14 = h39.2.2 49 14 + 1) ∨ (tkK (qr h) (qn h) (skp isBl (qr h) (qn h) (Int.toNat (h39.2.2 56 2))) = 2 ∧ y37 = 0 ∧ 0 < h39.2.2 49 14 ∧ h84.2.2 49 14 = h39.2.2 49 14 - 1) ∨ ((tkK (qr h) (qn h) (skp isBl (qr h) (qn h) (Int.toNat (h39.2.2 56 2))) = 3 ∨ tkK (qr h) (qn h) (skp isBl (qr h) (qn h) (Int.toNat (h39.2.2 56 2))) = 4) ∧ y37 = 0 ∧ y38 ≠ 0 ∧ h84.2.2 49 14 = h39.2.2 49 14) ∨ (tkK (qr h) (qn h) (skp isBl (qr h) (qn h) (Int.toNat (h39.2.2 56 2))) = 5 ∧ h84.2.2 49 14 = h39.2.2 49 14) ∨ (tkK (qr h) (qn h) (skp isBl (qr h) (qn h) (Int.toNat (h39.2.2 56 2))) = 6 ∧ h84.2.2 49 14 = h39.2.2 49 14) := by clear zB zQ zb zgt zsz; omega
              have zlw : 0 ≤ h84.2.2 49 14 ∧ h84.2.2 49 14 ≤ 20 := by clear zc zB zQ zb zgt zsz; omega
              have zti : y38 ≠ 0 ∨ h39.2.2 49 14 = 0 := by clear zc zd; omega
              have zt0 : 0 ≤ y38 := by clear zc zd zti; omega
              clear zc
              try clear c80
              try clear c81
              try clear p85
              try clear p85_0
              try clear p85_1
              try clear z70
              try clear z71
              have jn131_n95 : ∀ (y93 : Int), (y93 = 0 ∨ y93 = 1) → ((y93 = 1 ∧ x63 ≠ 6 ∧ x63 ≠ 2) ∨ (y93 = 0 ∧ (x63 = 6 ∨ x63 = 2))) → To l E_X8_matches (131, [(0, .inr (.inr 49)), (1, .inl y37), (2, .inl y38), (3, .inl x63)], [.inl y93], h84, 0, 0) (Q_X8_matches_vx h) := by
                intro y93 ry93 c94
                refine to_istore_n (L' := [(0, .inr (.inr 49)), (1, .inl y93), (2, .inl y38), (3, .inl x63)]) (dat dk_X8_matches 71 rfl) (by decide) rfl (to_iinc (L' := [(0, .inr (.inr 49)), (1, .inl y93), (2, .inl (y38 + 1)), (3, .inl x63)]) (dat dk_X8_matches 72 rfl) rfl (by decide) rfl (to_goto (dat dk_X8_matches 73 rfl) rfl ?_))
                refine to_pick [0, 1, 2] rfl ?_
                exact ihn50 (n50 - 1) (by omega) y93 (y38 + 1) h84 (by omega) (by omega) Ih84 f86 ⟨by omega, zgt⟩ zsz zlw zF16 (by rw [zQ, pq_step (lv' := h84.2.2 49 14) (w' := y93) (t := y38) zb zlv zt0 (pq_hc zKa zd c94) zti, show Int.toNat (h84.2.2 56 2) = Int.toNat (tkB (qr h) (qn h) (skp isBl (qr h) (qn h) (Int.toNat (h39.2.2 56 2)))) by rw [zB]]) (t87.trans (t67.trans c47)) (t88.trans (t68.trans c48)) (Or.inl (by omega)) (show h84.2.2 6 1 - (y38 + 1) + 1 ≤ ((n50 - 1 : Nat) : Int) by omega)
              refine to_iload_n (dat dk_X8_matches 62 rfl) rfl (to_bipush (dat dk_X8_matches 63 rfl) (by decide) ?_)
              refine to_ieq 130 (dat dk_X8_matches 64 rfl) rfl rx63 (by decide) (fun c96 => ?_) (fun c96 => ?_)
              · skip
                refine to_iconst (dat dk_X8_matches 70 rfl) ?_
                exact jn131_n95 0 (by decide) (show ((0 : Int) = 1 ∧ x63 ≠ 6 ∧ x63 ≠ 2) ∨ ((0 : Int) = 0 ∧ (x63 = 6 ∨ x63 = 2)) by omega)
              · skip
                refine to_iload_n (dat dk_X8_matches 65 rfl) rfl (to_iconst (dat dk_X8_matches 66 rfl) ?_)
                refine to_ieq 130 (dat dk_X8_matches 67 rfl) rfl rx63 (by decide) (fun c97 => ?_) (fun c97 => ?_)
                · skip
                  refine to_iconst (dat dk_X8_matches 70 rfl) ?_
                  exact jn131_n95 0 (by decide) (show ((0 : Int) = 1 ∧ x63 ≠ 6 ∧ x63 ≠ 2) ∨ ((0 : Int) = 0 ∧ (x63 = 6 ∨ x63 = 2)) by omega)
                · skip
                  refine to_iconst (dat dk_X8_matches 68 rfl) (to_goto (dat dk_X8_matches 69 rfl) rfl ?_)
                  exact jn131_n95 1 (by decide) (show ((1 : Int) = 1 ∧ x63 ≠ 6 ∧ x63 ≠ 2) ∨ ((1 : Int) = 0 ∧ (x63 = 6 ∨ x63 = 2)) by omega)
            · skip
              refine to_aload_n (dat dk_X8_matches 54 rfl) rfl (to_aload_n (dat dk_X8_matches 55 rfl) rfl ?_)
              have e98 : h64.2.2 49 16 = x55 := ((Fr.get fh64 (by have := Ih39.1.1; omega) rfl).trans ex55)
              refine to_cL ca_c9_98 (dat dk_X8_matches 56 rfl) (ct_X8_termSet_vx l h64 Ih64 ) rfl ⟨_, _, rfl, (Ih64.atS rfl)⟩ rfl (fun x99 h100 p101 => ?_)
              obtain ⟨Ih100, fh100, p101_0, p101_1⟩ := p101
              have f102 : Fr [27, 28, 29, 30, 31, 49, 50, 51, 52, 53, 54, 56] h h100 := Fr.sub f66 fh100 rfl
              have t103 : qr h100 = qr h64 := qr_fr fh100 Ih64 rfl
              have t104 : qn h100 = qn h64 := qn_fr fh100 Ih64 rfl
              obtain ⟨x105, ex105⟩ : ∃ y : Int, h100.2.2 49 14 = y := ⟨_, rfl⟩
              have rx105 := Ih100.atR (a := 49) (j := 14) rfl
              rw [ex105] at rx105
              obtain ⟨x106, ex106⟩ : ∃ y : Int, h100.2.2 49 16 = y := ⟨_, rfl⟩
              have rx106 := Ih100.atR (a := 49) (j := 16) rfl
              rw [ex106] at rx106
              refine to_cV ca_c9_102 (dat dk_X8_matches 57 rfl) (ct_X8_join l h100 Ih100 x99) rfl ⟨_, _, rfl, (Ih100.atS rfl)⟩ rfl (fun h108 p109 => ?_)
              obtain ⟨Ih108, fh108⟩ := p109
              have f110 : Fr [27, 28, 29, 30, 31, 49, 50, 51, 52, 53, 54, 56] h h108 := Fr.sub f102 fh108 rfl
              have t111 : qr h108 = qr h100 := qr_fr fh108 Ih100 rfl
              have t112 : qn h108 = qn h100 := qn_fr fh108 Ih100 rfl
              refine to_goto (dat dk_X8_matches 58 rfl) rfl ?_
              have e113 : h108.2.2 49 14 = x105 := ((Fr.get fh108 (by have := Ih100.1.1; omega) rfl).trans ex105)
              have e114 : h108.2.2 56 2 = x70 := ((Fr.get fh108 (by have := Ih100.1.1; omega) rfl).trans ((Fr.get fh100 (by have := Ih64.1.1; omega) rfl).trans ex70))
              have e115 : h108.2.2 6 1 = x3 := ((Fr.get fh108 (by have := Ih100.1.1; omega) rfl).trans ((Fr.get fh100 (by have := Ih64.1.1; omega) rfl).trans e71))
              have e116 : h108.2.2 49 16 = x106 := ((Fr.get fh108 (by have := Ih100.1.1; omega) rfl).trans ex106)
              have z70 : x63 ≠ 0 := by clear zQ zb zl zg zk; omega
              have z71 : x63 ≠ 7 := by clear zQ zb zl zg zk; omega
              obtain ⟨zP1, zP2, zP3⟩ := (p65_2.resolve_left z70).resolve_left z71
              clear p65_2
              have zlv : 0 ≤ h39.2.2 49 14 ∧ h39.2.2 49 14 ≤ 20 := by clear zc; omega
              have zF16 : h108.2.2 49 16 = -1 := by clear zc; omega
              have zB : h108.2.2 56 2 = tkB (qr h) (qn h) (skp isBl (qr h) (qn h) (Int.toNat (h39.2.2 56 2))) := by clear zc; omega
              have zgt : y38 + 1 ≤ h108.2.2 56 2 := by clear zc; omega
              have zsz : h108.2.2 56 2 ≤ h108.2.2 6 1 := by clear zc; omega
              have zd : (tkK (qr h) (qn h) (skp isBl (qr h) (qn h) (Int.toNat (h39.2.2 56 2))) = 1 ∧ h39.2.2 49 14 < 20 ∧ h108.2.2 49 14 = h39.2.2 49 14 + 1) ∨ (tkK (qr h) (qn h) (skp isBl (qr h) (qn h) (Int.toNat (h39.2.2 56 2))) = 2 ∧ y37 = 0 ∧ 0 < h39.2.2 49 14 ∧ h108.2.2 49 14 = h39.2.2 49 14 - 1) ∨ ((tkK (qr h) (qn h) (skp isBl (qr h) (qn h) (Int.toNat (h39.2.2 56 2))) = 3 ∨ tkK (qr h) (qn h) (skp isBl (qr h) (qn h) (Int.toNat (h39.2.2 56 2))) = 4) ∧ y37 = 0 ∧ y38 ≠ 0 ∧ h108.2.2 49 14 = h39.2.2 49 14) ∨ (tkK (qr h) (qn h) (skp isBl (qr h) (qn h) (Int.toNat (h39.2.2 56 2))) = 5 ∧ h108.2.2 49 14 = h39.2.2 49 14) ∨ (tkK (qr h) (qn h) (skp isBl (qr h) (qn h) (Int.toNat (h39.2.2 56 2))) = 6 ∧ h108.2.2 49 14 = h39.2.2 49 14) := by clear zB zQ zb zgt zsz; omega
              have zlw : 0 ≤ h108.2.2 49 14 ∧ h108.2.2 49 14 ≤ 20 := by clear zc zB zQ zb zgt zsz; omega
              have zti : y38 ≠ 0 ∨ h39.2.2 49 14 = 0 := by clear zc zd; omega
              have zt0 : 0 ≤ y38 := by clear zc zd zti; omega
              clear zc
              try clear c80
              try clear c81
              try clear p101
              try clear p101_0
              try clear p101_1
              try clear p109
              try clear z70
              try clear z71
              have jn131_n119 : ∀ (y117 : Int), (y117 = 0 ∨ y117 = 1) → ((y117 = 1 ∧ x63 ≠ 6 ∧ x63 ≠ 2) ∨ (y117 = 0 ∧ (x63 = 6 ∨ x63 = 2))) → To l E_X8_matches (131, [(0, .inr (.inr 49)), (1, .inl y37), (2, .inl y38), (3, .inl x63)], [.inl y117], h108, 0, 0) (Q_X8_matches_vx h) := by
                intro y117 ry117 c118
                refine to_istore_n (L' := [(0, .inr (.inr 49)), (1, .inl y117), (2, .inl y38), (3, .inl x63)]) (dat dk_X8_matches 71 rfl) (by decide) rfl (to_iinc (L' := [(0, .inr (.inr 49)), (1, .inl y117), (2, .inl (y38 + 1)), (3, .inl x63)]) (dat dk_X8_matches 72 rfl) rfl (by decide) rfl (to_goto (dat dk_X8_matches 73 rfl) rfl ?_))
                refine to_pick [0, 1, 2] rfl ?_
                exact ihn50 (n50 - 1) (by omega) y117 (y38 + 1) h108 (by omega) (by omega) Ih108 f110 ⟨by omega, zgt⟩ zsz zlw zF16 (by rw [zQ, pq_step (lv' := h108.2.2 49 14) (w' := y117) (t := y38) zb zlv zt0 (pq_hc zKa zd c118) zti, show Int.toNat (h108.2.2 56 2) = Int.toNat (tkB (qr h) (qn h) (skp isBl (qr h) (qn h) (Int.toNat (h39.2.2 56 2)))) by rw [zB]]) (t111.trans (t103.trans (t67.trans c47))) (t112.trans (t104.trans (t68.trans c48))) (Or.inl (by omega)) (show h108.2.2 6 1 - (y38 + 1) + 1 ≤ ((n50 - 1 : Nat) : Int) by omega)
              refine to_iload_n (dat dk_X8_matches 62 rfl) rfl (to_bipush (dat dk_X8_matches 63 rfl) (by decide) ?_)
              refine to_ieq 130 (dat dk_X8_matches 64 rfl) rfl rx63 (by decide) (fun c120 => ?_) (fun c120 => ?_)
              · skip
                refine to_iconst (dat dk_X8_matches 70 rfl) ?_
                exact jn131_n119 0 (by decide) (show ((0 : Int) = 1 ∧ x63 ≠ 6 ∧ x63 ≠ 2) ∨ ((0 : Int) = 0 ∧ (x63 = 6 ∨ x63 = 2)) by omega)
              · skip
                refine to_iload_n (dat dk_X8_matches 65 rfl) rfl (to_iconst (dat dk_X8_matches 66 rfl) ?_)
                refine to_ieq 130 (dat dk_X8_matches 67 rfl) rfl rx63 (by decide) (fun c121 => ?_) (fun c121 => ?_)
                · skip
                  refine to_iconst (dat dk_X8_matches 70 rfl) ?_
                  exact jn131_n119 0 (by decide) (show ((0 : Int) = 1 ∧ x63 ≠ 6 ∧ x63 ≠ 2) ∨ ((0 : Int) = 0 ∧ (x63 = 6 ∨ x63 = 2)) by omega)
                · skip
                  refine to_iconst (dat dk_X8_matches 68 rfl) (to_goto (dat dk_X8_matches 69 rfl) rfl ?_)
                  exact jn131_n119 1 (by decide) (show ((1 : Int) = 1 ∧ x63 ≠ 6 ∧ x63 ≠ 2) ∨ ((1 : Int) = 0 ∧ (x63 = 6 ∨ x63 = 2)) by omega)
          · skip
            refine to_goto (dat dk_X8_matches 50 rfl) rfl (to_aload_n (dat dk_X8_matches 74 rfl) rfl (to_getR 50 g_c9_11 (dat dk_X8_matches 75 rfl) (Ih64.atS rfl) (Ih64.atE rfl) (to_iconst (dat dk_X8_matches 76 rfl) ?_)))
            refine to_lald (dat dk_X8_matches 77 rfl) (Ih64.atS rfl) rfl (by decide) (by decide) ?_
            generalize h64.2.2 50 (Int.toNat 0) = w122
            refine to_aload_n (dat dk_X8_matches 78 rfl) rfl (to_getR 51 g_c9_15 (dat dk_X8_matches 79 rfl) (Ih64.atS rfl) (Ih64.atE rfl) (to_iconst (dat dk_X8_matches 80 rfl) ?_))
            refine to_lald (dat dk_X8_matches 81 rfl) (Ih64.atS rfl) rfl (by decide) (by decide) ?_
            generalize h64.2.2 51 (Int.toNat 0) = w123
            refine to_lor (dat dk_X8_matches 82 rfl) (fun w124 => ?_)
            have e125 : h64.2.2 49 16 = x55 := ((Fr.get fh64 (by have := Ih39.1.1; omega) rfl).trans ex55)
            exact to_lret rfl (dat dk_X8_matches 83 rfl) (rl_mk ⟨Ih64, f66, (by have zf := zQ.trans (pq_stop (w := y37) (t := y38) (by omega) (by omega) (by omega)); omega)⟩)
        · skip
          refine to_aload_n (dat dk_X8_matches 41 rfl) rfl (to_aload_n (dat dk_X8_matches 42 rfl) rfl (to_getR 56 g_c9_63 (dat dk_X8_matches 43 rfl) (Ih64.atS rfl) (Ih64.atE rfl) (to_getIv (y := x69) ex69 g_c9_95 (dat dk_X8_matches 44 rfl) (Ih64.atS rfl) (to_putIw p_c9_77 (dat dk_X8_matches 45 rfl) (Ih64.atS rfl) ?_))))
          intro h128 wh128
          have I126 : Inv h128 := by rw [wh128]; exact Ih64.put (a := 49) (j := 16) (x := x69) (-2147483648) (2147483647) rfl rfl (show (-2147483648 : Int) ≤ x69 ∧ x69 ≤ 2147483647 by omega)
          have f127 : Fr [27, 28, 29, 30, 31, 49, 50, 51, 52, 53, 54, 56] h h128 := by rw [wh128]; exact Fr.putF (a := 49) (j := 16) (x := x69) f66 rfl
          have t129 : qr h128 = qr h64 := by rw [wh128]; exact qr_wr rfl
          have t130 : qn h128 = qn h64 := by rw [wh128]; exact qn_wr rfl
          refine to_lconst (v := 0) (dat dk_X8_matches 46 rfl) rfl ?_
          have e131 : h128.2.2 49 16 = x69 := (by rw [wh128]; exact wr_eq)
          exact to_lret rfl (dat dk_X8_matches 47 rfl) (rl_mk ⟨I126, f127, (by have zf := zQ.trans (pq_fail (w := y37) (t := y38) zb zl (by omega) (by omega) (by omega) (by omega) (by omega)); omega)⟩)
      refine to_iload_n (dat dk_X8_matches 34 rfl) rfl ?_
      refine to_ifne 66 (dat dk_X8_matches 35 rfl) rfl ry38 (fun c132 => ?_) (fun c132 => ?_)
      · skip
        refine to_iconst (dat dk_X8_matches 38 rfl) ?_
        exact jn67_n74 0 (by decide) (show ((0 : Int) = 1 ∧ y38 = 0) ∨ ((0 : Int) = 0 ∧ y38 ≠ 0) by omega)
      · skip
        refine to_iconst (dat dk_X8_matches 36 rfl) (to_goto (dat dk_X8_matches 37 rfl) rfl ?_)
        exact jn67_n74 1 (by decide) (show ((1 : Int) = 1 ∧ y38 = 0) ∨ ((1 : Int) = 0 ∧ y38 ≠ 0) by omega)
  exact lp36_n50 (h30.2.2 6 1 - (0 : Int) + 1).toNat 0 0 h30 (by decide) (by decide) Ih30 f32 (show 0 ≤ (0 : Int) ∧ (0 : Int) ≤ h30.2.2 56 2 by omega) (show h30.2.2 56 2 ≤ h30.2.2 6 1 by omega) (show 0 ≤ h30.2.2 49 14 ∧ h30.2.2 49 14 ≤ 20 by omega) (show h30.2.2 49 16 = -1 by omega) (by rw [show Int.toNat (h30.2.2 56 2) = 0 by omega, show Int.toNat (h30.2.2 49 14) = 0 by omega]; rfl) (t33.trans (t25.trans (t19.trans t14))) (t34.trans (t26.trans (t20.trans t15))) (show (0 : Int) ≠ 0 ∨ ((0 : Int) = 0 ∧ h30.2.2 49 14 = 0) by omega) (by omega)
