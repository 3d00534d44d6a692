/-! Contracts, by program. -/
abbrev Q_X7_read_vx (h : Hp) (n : Int) : Option V → Hp → Nat → Nat → Prop := RRa (fun x H mc ms => Inv H ∧ Fr [999, 8, 9, 10, 11, 13, 356, 316, 376, 14, 15, 16, 17, 19, 357, 317, 377, 30, 32, 33, 35, 37, 39, 41, 42, 43, 44, 45, 46, 47, 48, 312] h H ∧ (full H x) ∧ (h.1 ≤ x) ∧ (H.2.2 x 0 = n) ∧ (NT h H x) ∧ (ENL h H mc ms (1417) (5820) (1242)))
set_option maxRecDepth 100000 in
set_option maxHeartbeats 4000000 in
theorem ct_X7_read_vx (l : Launch) (h : Hp) (hI : Inv h) (n : Int) (hn : I32 n) (g0 : Bks h) (g1 : WT h ≤ 9100000) (g2 : ET h ≤ 3100000) (g3 : h.1 ≤ 810000) : Ct l D_X7_read 10 228 [.inr (.inr 32), .inl n] h (Q_X7_read_vx h n) := by
  refine ct_of pn_X7_read (Nat.le_of_ble_eq_true rfl) ?_
  show To l E_X7_read (0, [(0, .inr (.inr 32)), (1, .inl n)], [], h, 0, 0) _
  have e00 : ENL h h 0 0 0 0 0 := ENL.rf g0 (by decide) (by decide) (by decide)
  obtain ⟨x1, ex1⟩ : ∃ y : Int, h.2.2 32 13 = y := ⟨_, rfl⟩
  have rx1 := hI.atR (a := 32) (j := 13) rfl
  rw [ex1] at rx1
  refine to_aload_n (dat dk_X7_read 0 rfl) rfl (to_getR 46 g_c8_60 (dat dk_X7_read 1 rfl) (hI.atS rfl) (hI.atE rfl) (to_iconst (dat dk_X7_read 2 rfl) (to_aload_n (dat dk_X7_read 3 rfl) rfl (to_getR 4 g_c8_45 (dat dk_X7_read 4 rfl) (hI.atS rfl) (hI.atE rfl) ?_))))
  obtain ⟨x2, ex2⟩ : ∃ y : Int, h.2.2 4 1 = y := ⟨_, rfl⟩
  have rx2 := hI.atR (a := 4) (j := 1) rfl
  rw [ex2] at rx2
  refine to_cI ca_c8_64 (dat dk_X7_read 5 rfl) (ct_X1_size l h hI 4 rfl) rfl ⟨_, _, rfl, (hI.atS rfl)⟩ rfl (fun x3 h4 rx3 p5 => ?_)
  obtain ⟨rfl, p5_0⟩ := p5
  refine to_cV ca_c8_68 (dat dk_X7_read 6 rfl) (ct_X4_readLines l h hI 0 (by decide) x3 rx3 (show 0 ≤ (0 : Int) ∧ (0 : Int) ≤ 1201 by omega) (show 0 ≤ x3 ∧ x3 ≤ 1200 by omega)) rfl ⟨_, _, rfl, (hI.atS rfl)⟩ rfl (fun h7 p8 => ?_)
  obtain ⟨Ih7, fh7⟩ := p8
  have f9 : Fr [999, 8, 9, 10, 11, 13, 356, 316, 376, 14, 15, 16, 17, 19, 357, 317, 377, 30, 32, 33, 35, 37, 39, 41, 42, 43, 44, 45, 46, 47, 48, 312] h h7 := Fr.sub (Fr.rf _ _) fh7 rfl
  have e10 : ENL h h7 0 0 0 0 0 := ENL.fr e00 fh7 hI rfl
  refine to_aload_n (dat dk_X7_read 7 rfl) rfl ?_
  refine to_cI ca_c8_72 (dat dk_X7_read 8 rfl) (ct_X7_readDate l h7 Ih7 ) rfl ⟨_, _, rfl, (Ih7.atS rfl)⟩ rfl (fun x11 h12 rx11 p13 => ?_)
  obtain ⟨Ih12, fh12⟩ := p13
  have f14 : Fr [999, 8, 9, 10, 11, 13, 356, 316, 376, 14, 15, 16, 17, 19, 357, 317, 377, 30, 32, 33, 35, 37, 39, 41, 42, 43, 44, 45, 46, 47, 48, 312] h h12 := Fr.sub f9 fh12 rfl
  have e15 : ENL h h12 0 0 0 0 0 := ENL.fr e10 fh12 Ih7 rfl
  refine to_istore_n (L' := [(0, .inr (.inr 32)), (1, .inl n), (2, .inl x11)]) (dat dk_X7_read 9 rfl) (by decide) rfl (to_aload_n (dat dk_X7_read 10 rfl) rfl ?_)
  have q16 := (id e15).2
  have q17 := Bks.each Ih12 e15.1
  refine to_cIa ca_c8_75 (dat dk_X7_read 11 rfl) (ct_X7_readId l h12 Ih12 (e15.1) (show WT h12 ≤ 9400000 by omega) (show ET h12 ≤ 3400000 by omega) (show h12.1 ≤ 850000 by omega)) rfl ⟨_, _, rfl, (Ih12.atS rfl)⟩ rfl (fun x18 h19 mcx18 msx18 rx18 p20 => ?_)
  obtain ⟨Ih19, fh19, p20_0⟩ := p20
  have f21 : Fr [999, 8, 9, 10, 11, 13, 356, 316, 376, 14, 15, 16, 17, 19, 357, 317, 377, 30, 32, 33, 35, 37, 39, 41, 42, 43, 44, 45, 46, 47, 48, 312] h h19 := Fr.sub f14 fh19 rfl
  have e22 : ENL h h19 (0 + mcx18) (0 + msx18) (0 + 1) (0 + 60) (0 + 0) := ENL.tr e15 p20_0 rfl rfl (by omega) (by omega) (by omega)
  refine to_istore_n (L' := [(0, .inr (.inr 32)), (1, .inl n), (2, .inl x11), (3, .inl x18)]) (dat dk_X7_read 12 rfl) (by decide) rfl (to_aload_n (dat dk_X7_read 13 rfl) rfl ?_)
  have q23 := (id e22).2
  have q24 := Bks.each Ih19 e22.1
  refine to_cRa ca_c8_78 (dat dk_X7_read 14 rfl) (ct_X7_readReferences l h19 Ih19 (e22.1) (show WT h19 ≤ 9300000 by omega) (show ET h19 ≤ 3300000 by omega) (show h19.1 ≤ 840000 by omega)) rfl ⟨_, _, rfl, (Ih19.atS rfl)⟩ rfl (fun x25 h26 mcx25 msx25 p27 => ?_)
  obtain ⟨Ih26, fh26, p27_0, p27_1⟩ := p27
  have f28 : Fr [999, 8, 9, 10, 11, 13, 356, 316, 376, 14, 15, 16, 17, 19, 357, 317, 377, 30, 32, 33, 35, 37, 39, 41, 42, 43, 44, 45, 46, 47, 48, 312] h h26 := Fr.sub f21 fh26 rfl
  have e29 : ENL h h26 ((0 + mcx18) + mcx25) ((0 + msx18) + msx25) ((0 + 1) + 16) ((0 + 60) + 960) ((0 + 0) + 17) := ENL.tr e22 p27_1 rfl rfl (by omega) (by omega) (by omega)
  obtain ⟨nRx25, tXx25, bXx25⟩ := p27_0
  refine to_astore (L' := [(0, .inr (.inr 32)), (1, .inl n), (2, .inl x11), (3, .inl x18), (4, .inr (.inr x25))]) (dat dk_X7_read 15 rfl) (Ih26.posN tXx25) (by decide) rfl (to_iconst (dat dk_X7_read 16 rfl) ?_)
  have q30 := (id e29).2
  have q31 := Bks.each Ih26 e29.1
  have lt32 : h26.1 + 1 ≤ 900000 := by omega
  refine to_newarrayZ 20 rfl (by decide) rfl (tin 1 82 (by decide +kernel) rfl) (dat dk_X7_read 17 rfl) (by decide) (by omega) ?_
  obtain ⟨h33, eh33⟩ : ∃ y : Hp, y = row (al h26 (.inl (20, 5))) h26.1 (fun _ => 0) := ⟨_, rfl⟩
  have eh33' : row (al h26 (Sum.inl (20, Int.toNat 5))) h26.1 (fun _ => 0) = h33 := eh33.symm
  rw [eh33']
  have Ih33 : Inv h33 := by rw [eh33]; exact Ih26.new lt32 (fun k n e => by cases e; exact ⟨by decide, fun _ => ⟨by decide, by decide⟩⟩) (fun e => by cases e) (fun n e => by cases e; exact ⟨rfl, fun _ => by decide⟩)
  have gh33 : Fr [999] h26 h33 := by rw [eh33]; exact fr_new (Fr.rf _ _) rfl
  have fh33 : Fr [999, 8, 9, 10, 11, 13, 356, 316, 376, 14, 15, 16, 17, 19, 357, 317, 377, 30, 32, 33, 35, 37, 39, 41, 42, 43, 44, 45, 46, 47, 48, 312] h h33 := by rw [eh33]; exact fr_new f28 rfl
  have zh33 : h33.1 = h26.1 + 1 := by rw [eh33]; rfl
  obtain ⟨q34, eq34⟩ : ∃ y : Nat, y = h26.1 := ⟨_, rfl⟩
  have tq34 : h33.2.1 q34 = some (.inl (20, 5)) := by rw [eq34, eh33]; exact al_new _ _
  rw [← eq34]
  have e35 : ENL h h33 (((0 + mcx18) + mcx25) + 1) (((0 + msx18) + msx25) + 5) ((0 + 1) + 16) ((0 + 60) + 960) (((0 + 0) + 17) + 6) := ENL.alF (m := 1) (n := 5) e29 gh33 Ih26 rfl zh33 rfl rfl (by omega)
  have d36 := newA_old (t := .inl (20, 5)) (f := fun _ => 0) Ih26 tXx25
  rw [← eh33] at d36
  refine to_astore (L' := [(0, .inr (.inr 32)), (1, .inl n), (2, .inl x11), (3, .inl x18), (4, .inr (.inr x25)), (5, .inr (.inr q34))]) (dat dk_X7_read 18 rfl) (Ih33.posN tq34) (by decide) rfl (to_aload_n (dat dk_X7_read 19 rfl) rfl (to_iconst (dat dk_X7_read 20 rfl) (to_putIw p_c8_82 (dat dk_X7_read 21 rfl) (Ih33.atS rfl) ?_)))
  intro h39 wh39
  have I37 : Inv h39 := by rw [wh39]; exact Ih33.put (a := 32) (j := 13) (x := 0) (0) (1200) rfl rfl (show (0 : Int) ≤ 0 ∧ 0 ≤ 1200 by decide)
  have f38 : Fr [999, 8, 9, 10, 11, 13, 356, 316, 376, 14, 15, 16, 17, 19, 357, 317, 377, 30, 32, 33, 35, 37, 39, 41, 42, 43, 44, 45, 46, 47, 48, 312] h h39 := by rw [wh39]; exact Fr.putF (a := 32) (j := 13) (x := 0) fh33 rfl
  have d40 : h39.2.1 x25 = some (.inl (0, nRx25)) := by rw [wh39]; exact d36
  have d41 : h39.2.1 q34 = some (.inl (20, 5)) := by rw [wh39]; exact tq34
  have e42 : ENL h h39 (((0 + mcx18) + mcx25) + 1) (((0 + msx18) + msx25) + 5) ((0 + 1) + 16) ((0 + 60) + 960) (((0 + 0) + 17) + 6) := by rw [wh39]; exact ENL.fr e35 (fr_wr [32] rfl) Ih33 rfl
  refine to_iconst (dat dk_X7_read 22 rfl) (to_istore (L' := [(0, .inr (.inr 32)), (1, .inl n), (2, .inl x11), (3, .inl x18), (4, .inr (.inr x25)), (5, .inr (.inr q34)), (6, .inl 0)]) (dat dk_X7_read 23 rfl) (by decide) rfl ?_)
  have e50 : h39.2.2 32 13 = (0 : Int) := (by rw [wh39]; exact wr_eq)
  have lp44_n52 : ∀ (n52 : Nat) (y43 : Int) (h44 : Hp) (ka45 : Nat) (za46 : Nat), (I32 y43) → (Inv h44) → (Fr [999, 8, 9, 10, 11, 13, 356, 316, 376, 14, 15, 16, 17, 19, 357, 317, 377, 30, 32, 33, 35, 37, 39, 41, 42, 43, 44, 45, 46, 47, 48, 312] h h44) → (h44.2.1 x25 = some (.inl (0, nRx25))) → (h44.2.1 q34 = some (.inl (20, 5))) → (0 ≤ y43 ∧ y43 ≤ 3) → (ENL h h44 ka45 za46 (h44.2.2 32 13 + 17) (1200 * y43 + 1020) (23)) → (3 - y43 ≤ (n52 : Int)) → To l E_X7_read (44, [(0, .inr (.inr 32)), (1, .inl n), (2, .inl x11), (3, .inl x18), (4, .inr (.inr x25)), (5, .inr (.inr q34)), (6, .inl y43)], [], h44, ka45, za46) (Q_X7_read_vx h n) := by
    intro n52
    induction n52 using Nat.strongRecOn with
    | _ n52 ihn52 =>
    intro y43 h44 ka45 za46 ry43 Ih44 fh44 d47 d48 c49 c51 c53
    obtain ⟨x54, ex54⟩ : ∃ y : Int, h44.2.2 32 13 = y := ⟨_, rfl⟩
    have rx54 := Ih44.atR (a := 32) (j := 13) rfl
    rw [ex54] at rx54
    refine to_iload (dat dk_X7_read 24 rfl) rfl (to_iconst (dat dk_X7_read 25 rfl) ?_)
    refine to_igt 105 (dat dk_X7_read 26 rfl) rfl ry43 (by decide) (fun c55 => ?_) (fun c55 => ?_)
    · skip
      refine to_aload_n (dat dk_X7_read 53 rfl) rfl ?_
      refine to_cV ca_c8_102 (dat dk_X7_read 54 rfl) (ct_X7_writeText l h44 Ih44 ) rfl ⟨_, _, rfl, (Ih44.atS rfl)⟩ rfl (fun h57 p58 => ?_)
      obtain ⟨Ih57, fh57⟩ := p58
      have f59 : Fr [999, 8, 9, 10, 11, 13, 356, 316, 376, 14, 15, 16, 17, 19, 357, 317, 377, 30, 32, 33, 35, 37, 39, 41, 42, 43, 44, 45, 46, 47, 48, 312] h h57 := Fr.sub fh44 fh57 rfl
      have d60 := (fh57.1.2 _ (Ih44.ltN d47)).trans d47
      have d61 := (fh57.1.2 _ (Ih44.ltN d48)).trans d48
      have e62 : ENL h h57 ka45 za46 (h44.2.2 32 13 + 17) (1200 * y43 + 1020) (23) := ENL.fr c51 fh57 Ih44 rfl
      refine to_aload_n (dat dk_X7_read 55 rfl) rfl (to_sipush (dat dk_X7_read 56 rfl) (by decide) ?_)
      have q63 := (id e62).2
      have q64 := Bks.each Ih57 e62.1
      obtain ⟨x65, ex65⟩ : ∃ y : Int, h57.2.2 32 13 = y := ⟨_, rfl⟩
      have rx65 := Ih57.atR (a := 32) (j := 13) rfl
      rw [ex65] at rx65
      refine to_cVa ca_c8_99 (dat dk_X7_read 57 rfl) (ct_X7_takeWords l h57 Ih57 200 (by decide) (e62.1) (show WT h57 ≤ 9300000 by omega) (show ET h57 ≤ 3300000 by omega) (show h57.1 ≤ 840000 by omega) (show 0 ≤ (200 : Int) by omega)) rfl ⟨_, _, rfl, (Ih57.atS rfl)⟩ rfl (fun h67 mcx66 msx66 p68 => ?_)
      obtain ⟨Ih67, fh67, p68_0, p68_1⟩ := p68
      have f69 : Fr [999, 8, 9, 10, 11, 13, 356, 316, 376, 14, 15, 16, 17, 19, 357, 317, 377, 30, 32, 33, 35, 37, 39, 41, 42, 43, 44, 45, 46, 47, 48, 312] h h67 := Fr.sub f59 fh67 rfl
      have d70 := (fh67.1.2 _ (Ih57.ltN d60)).trans d60
      have d71 := (fh67.1.2 _ (Ih57.ltN d61)).trans d61
      have e72 : ENL h h67 (ka45 + mcx66) (za46 + msx66) ((h44.2.2 32 13 + 17) + (h67.2.2 32 13 - h57.2.2 32 13)) ((1200 * y43 + 1020) + 1200) ((23) + 0) := ENL.tr e62 p68_0 rfl rfl (by omega) (by omega) (by omega)
      obtain ⟨x73, ex73⟩ : ∃ y : Int, h67.2.2 32 13 = y := ⟨_, rfl⟩
      have rx73 := Ih67.atR (a := 32) (j := 13) rfl
      rw [ex73] at rx73
      refine to_aload_p (dat dk_X7_read 58 rfl) (Ih67.posN d71) rfl (to_iconst (dat dk_X7_read 59 rfl) (to_aload_n (dat dk_X7_read 60 rfl) rfl (to_getIv (y := x73) ex73 g_c8_82 (dat dk_X7_read 61 rfl) (Ih67.atS rfl) (to_iastw (dat dk_X7_read 62 rfl) d71 rfl (by decide) (by decide) ?_))))
      intro h76 wh76
      have I74 : Inv h76 := by rw [wh76]; exact Ih67.put20 (j := (Int.toNat 4)) (x := x73) d71 (by omega)
      have f75 : Fr [999, 8, 9, 10, 11, 13, 356, 316, 376, 14, 15, 16, 17, 19, 357, 317, 377, 30, 32, 33, 35, 37, 39, 41, 42, 43, 44, 45, 46, 47, 48, 312] h h76 := by rw [wh76]; exact Fr.putA (j := (Int.toNat 4)) (x := x73) f69 Ih67 d71 (by decide +kernel)
      have d77 : h76.2.1 x25 = some (.inl (0, nRx25)) := by rw [wh76]; exact d70
      have d78 : h76.2.1 q34 = some (.inl (20, 5)) := by rw [wh76]; exact d71
      have e79 : ENL h h76 (ka45 + mcx66) (za46 + msx66) ((h44.2.2 32 13 + 17) + (h67.2.2 32 13 - h57.2.2 32 13)) ((1200 * y43 + 1020) + 1200) ((23) + 0) := by rw [wh76]; exact ENL.fr (S := [312]) e72 (Fr.putA (Fr.rf _ _) Ih67 d71 (by decide +kernel)) Ih67 rfl
      have qe := (id e79).2
      have qf := Bks.each I74 e79.1
      have lt1 : h76.1 + 8 ≤ 900000 := by omega
      refine to_newZ nw_Msg (dat dk_X7_read 63 rfl) (by omega) ?_
      obtain ⟨hm, em⟩ : ∃ y : Hp, y = row (al h76 (.inr 5)) h76.1 (fun _ => 0) := ⟨_, rfl⟩
      rw [← em]
      have Im : Inv hm := by
        rw [em]; exact I74.new (by omega) (fun _ _ e => by cases e) (fun _ => ⟨by have := I74.1.1; omega, by rw [row_eq]; exact ⟨by decide, by decide⟩, by rw [row_eq]; exact ⟨by decide, by decide⟩, by rw [row_eq]; exact ⟨by decide, by decide⟩, by rw [row_eq]; decide, by rw [row_eq]; exact Or.inl rfl, by rw [row_eq]; exact Or.inl rfl, by rw [row_eq]; exact Or.inl rfl, by rw [row_eq]; exact Or.inl rfl⟩) (fun _ e => by cases e)
      have gm : Fr [999] h76 hm := by rw [em]; exact fr_new (Fr.rf _ _) rfl
      have fm : Fr [999, 8, 9, 10, 11, 13, 356, 316, 376, 14, 15, 16, 17, 19, 357, 317, 377, 30, 32, 33, 35, 37, 39, 41, 42, 43, 44, 45, 46, 47, 48, 312] h hm := by rw [em]; exact fr_new f75 rfl
      have zm : hm.1 = h76.1 + 1 := by rw [em]; rfl
      obtain ⟨m, mm⟩ : ∃ y : Nat, y = h76.1 := ⟨_, rfl⟩
      have tm : hm.2.1 m = some (.inr 5) := by rw [mm, em]; exact al_new _ _
      rw [← mm]
      have oldm : ∀ b t, h76.2.1 b = some t → hm.2.1 b = some t := fun b t ht => by rw [em]; exact newA_old I74 ht
      have nm1 : ENL h hm ((ka45 + mcx66) + 1) ((za46 + msx66) + 8) ((h44.2.2 32 13 + 17) + (h67.2.2 32 13 - h57.2.2 32 13)) ((1200 * y43 + 1020) + 1200) (((23) + 0) + 9) := ENL.alF (m := 1) (n := 8) e79 gm I74 rfl zm rfl rfl (by omega)
      have tf1 := oldm _ _ d78
      have tr1 := oldm _ _ d77
      have m6 : 106 ≤ m := (Im.2.2.2.1 m tm).1
      have bf := noK_big Im (by decide +kernel) tf1
      have br := bXx25
      obtain ⟨x80, ex80⟩ : ∃ y : Int, hm.2.2 32 13 = y := ⟨_, rfl⟩
      have rx80 := Im.atR (a := 32) (j := 13) rfl
      rw [ex80] at rx80
      refine to_dup (dat dk_X7_read 64 rfl) rfl (to_iload_n (dat dk_X7_read 65 rfl) rfl (to_aload_n (dat dk_X7_read 66 rfl) rfl (to_getR 41 g_c8_29 (dat dk_X7_read 67 rfl) (Im.atS rfl) (Im.atE rfl) (to_aload_n (dat dk_X7_read 68 rfl) rfl (to_getIv (y := x80) ex80 g_c8_82 (dat dk_X7_read 69 rfl) (Im.atS rfl) ?_)))))
      refine to_cRa ca_c8_107 (dat dk_X7_read 70 rfl) (ct_X7_firstOf l hm Im 41 0 1200 (Im.atS rfl) rfl x80 (by unfold I32; omega) (by omega)) rfl trivial rfl (fun wr1 hw mcw msw pw => ?_)
      obtain ⟨Iw, fw, eXw, eCw, eSw, tXw, eHw⟩ := pw
      have fw2 : Fr [999, 8, 9, 10, 11, 13, 356, 316, 376, 14, 15, 16, 17, 19, 357, 317, 377, 30, 32, 33, 35, 37, 39, 41, 42, 43, 44, 45, 46, 47, 48, 312] h hw := Fr.sub fm fw rfl
      have nm2 : ENL h hw ((ka45 + mcx66) + 1 + mcw) ((za46 + msx66) + 8 + msw) ((h44.2.2 32 13 + 17) + (h67.2.2 32 13 - h57.2.2 32 13)) ((1200 * y43 + 1020) + 1200) (((23) + 0) + 9 + 1201) := ENL.alF (m := mcw) (n := msw) nm1 fw Im rfl (by omega) rfl rfl (by omega)
      have tm2 := (fw.1.2 _ (Im.ltN tm)).trans tm
      have tf2 := (fw.1.2 _ (Im.ltN tf1)).trans tf1
      have tr2 := (fw.1.2 _ (Im.ltN tr1)).trans tr1
      refine to_aload_p (dat dk_X7_read 71 rfl) (by omega) rfl (to_iload_n (dat dk_X7_read 72 rfl) rfl (to_iload_n (dat dk_X7_read 73 rfl) rfl (to_aload_p (dat dk_X7_read 74 rfl) (by omega) rfl ?_)))
      refine to_cVa ca_c8_111 (dat dk_X7_read 75 rfl) (ct_X6_init_vx l hw Iw m tm2 n hn wr1 msw tXw (by have := Im.1.1; omega) q34 tf2 bf x11 rx11 x18 rx18 x25 _ tr2 br (by omega)) rfl ⟨_, _, _, rfl, tm2⟩ rfl (fun hz mcz msz pz => ?_)
      obtain ⟨Iz, fz, fulz, eCz, eSz, eHz, vz, nz, n6, tn6, n7⟩ := pz
      have fz2 : Fr [999, 8, 9, 10, 11, 13, 356, 316, 376, 14, 15, 16, 17, 19, 357, 317, 377, 30, 32, 33, 35, 37, 39, 41, 42, 43, 44, 45, 46, 47, 48, 312] h hz := Fr.upd fw2 fz (by omega) vz rfl
      have nm3 : ENL h hz ((ka45 + mcx66) + 1 + mcw + mcz) ((za46 + msx66) + 8 + msw + msz) ((h44.2.2 32 13 + 17) + (h67.2.2 32 13 - h57.2.2 32 13)) ((1200 * y43 + 1020) + 1200) (((23) + 0) + 9 + 1201 + 9) := ENL.alF (m := mcz) (n := msz) nm2 fz Iw rfl (by omega) rfl rfl (by omega)
      exact to_aret rfl (Or.inl ⟨_, rfl⟩) (dat dk_X7_read 76 rfl) (rr_mka ⟨Iz, fz2, fulz, by omega, nz, ⟨⟨_, fw2.1.1, n6, tn6⟩, n7.trans ((fw.2.1 m 7 (Im.ltN tm) (by rw [tm, col_msg m6]; rfl)).trans (by rw [mm, em, row_eq]))⟩, ENL.mono nm3 (by omega) (by omega) (by omega)⟩)
    · skip
      refine to_aload_n (dat dk_X7_read 27 rfl) rfl (to_getR 46 g_c8_60 (dat dk_X7_read 28 rfl) (Ih44.atS rfl) (Ih44.atE rfl) (to_iload (dat dk_X7_read 29 rfl) rfl (to_aload_n (dat dk_X7_read 30 rfl) rfl (to_getR 33 g_c8_14 (dat dk_X7_read 31 rfl) (Ih44.atS rfl) (Ih44.atE rfl) ?_))))
      refine to_cV ca_c8_86 (dat dk_X7_read 32 rfl) (ct_X4_writeValue l h44 Ih44 y43 ry43 33 rfl) rfl ⟨_, _, rfl, (Ih44.atS rfl)⟩ rfl (fun h82 p83 => ?_)
      obtain ⟨Ih82, fh82⟩ := p83
      have f84 : Fr [999, 8, 9, 10, 11, 13, 356, 316, 376, 14, 15, 16, 17, 19, 357, 317, 377, 30, 32, 33, 35, 37, 39, 41, 42, 43, 44, 45, 46, 47, 48, 312] h h82 := Fr.sub fh44 fh82 rfl
      have d85 := (fh82.1.2 _ (Ih44.ltN d47)).trans d47
      have d86 := (fh82.1.2 _ (Ih44.ltN d48)).trans d48
      have e87 : ENL h h82 ka45 za46 (h44.2.2 32 13 + 17) (1200 * y43 + 1020) (23) := ENL.fr c51 fh82 Ih44 rfl
      refine to_aload_n (dat dk_X7_read 33 rfl) rfl (to_getR 35 g_c8_20 (dat dk_X7_read 34 rfl) (Ih82.atS rfl) (Ih82.atE rfl) ?_)
      refine to_cV ca_c8_90 (dat dk_X7_read 35 rfl) (ct_X1_clear_vx l h82 Ih82 35 rfl) rfl ⟨_, _, rfl, (Ih82.atS rfl)⟩ rfl (fun h89 p90 => ?_)
      obtain ⟨Ih89, fh89, p90_0, p90_1⟩ := p90
      have f91 : Fr [999, 8, 9, 10, 11, 13, 356, 316, 376, 14, 15, 16, 17, 19, 357, 317, 377, 30, 32, 33, 35, 37, 39, 41, 42, 43, 44, 45, 46, 47, 48, 312] h h89 := Fr.sub f84 fh89 rfl
      have d92 := (fh89.1.2 _ (Ih82.ltN d85)).trans d85
      have d93 := (fh89.1.2 _ (Ih82.ltN d86)).trans d86
      have e94 : ENL h h89 ka45 za46 (h44.2.2 32 13 + 17) (1200 * y43 + 1020) (23) := ENL.fr e87 fh89 Ih82 rfl
      obtain ⟨x95, ex95⟩ : ∃ y : Int, h89.2.2 35 1 = y := ⟨_, rfl⟩
      have rx95 := Ih89.atR (a := 35) (j := 1) rfl
      rw [ex95] at rx95
      refine to_aload_n (dat dk_X7_read 36 rfl) rfl (to_getR 33 g_c8_14 (dat dk_X7_read 37 rfl) (Ih89.atS rfl) (Ih89.atE rfl) (to_aload_n (dat dk_X7_read 38 rfl) rfl (to_getR 35 g_c8_20 (dat dk_X7_read 39 rfl) (Ih89.atS rfl) (Ih89.atE rfl) ?_)))
      refine to_cV ca_c8_93 (dat dk_X7_read 40 rfl) (ct_X2_encodedWords l h89 Ih89 33 rfl 35 rfl) rfl trivial rfl (fun h97 p98 => ?_)
      obtain ⟨Ih97, fh97⟩ := p98
      have f99 : Fr [999, 8, 9, 10, 11, 13, 356, 316, 376, 14, 15, 16, 17, 19, 357, 317, 377, 30, 32, 33, 35, 37, 39, 41, 42, 43, 44, 45, 46, 47, 48, 312] h h97 := Fr.sub f91 fh97 rfl
      have d100 := (fh97.1.2 _ (Ih89.ltN d92)).trans d92
      have d101 := (fh97.1.2 _ (Ih89.ltN d93)).trans d93
      have e102 : ENL h h97 ka45 za46 (h44.2.2 32 13 + 17) (1200 * y43 + 1020) (23) := ENL.fr e94 fh97 Ih89 rfl
      refine to_aload_n (dat dk_X7_read 41 rfl) rfl (to_sipush (dat dk_X7_read 42 rfl) (by decide) ?_)
      have q103 := (id e102).2
      have q104 := Bks.each Ih97 e102.1
      have e105 : h97.2.2 32 13 = x54 := ((Fr.get fh97 (by have := Ih89.1.1; omega) rfl).trans ((Fr.get fh89 (by have := Ih82.1.1; omega) rfl).trans ((Fr.get fh82 (by have := Ih44.1.1; omega) rfl).trans ex54)))
      refine to_cVa ca_c8_99 (dat dk_X7_read 43 rfl) (ct_X7_takeWords l h97 Ih97 1200 (by decide) (e102.1) (show WT h97 ≤ 9300000 by omega) (show ET h97 ≤ 3300000 by omega) (show h97.1 ≤ 840000 by omega) (show 0 ≤ (1200 : Int) by omega)) rfl ⟨_, _, rfl, (Ih97.atS rfl)⟩ rfl (fun h107 mcx106 msx106 p108 => ?_)
      obtain ⟨Ih107, fh107, p108_0, p108_1⟩ := p108
      have f109 : Fr [999, 8, 9, 10, 11, 13, 356, 316, 376, 14, 15, 16, 17, 19, 357, 317, 377, 30, 32, 33, 35, 37, 39, 41, 42, 43, 44, 45, 46, 47, 48, 312] h h107 := Fr.sub f99 fh107 rfl
      have d110 := (fh107.1.2 _ (Ih97.ltN d100)).trans d100
      have d111 := (fh107.1.2 _ (Ih97.ltN d101)).trans d101
      have e112 : ENL h h107 (ka45 + mcx106) (za46 + msx106) ((h44.2.2 32 13 + 17) + (h107.2.2 32 13 - h97.2.2 32 13)) ((1200 * y43 + 1020) + 1200) ((23) + 0) := ENL.tr e102 p108_0 rfl rfl (by omega) (by omega) (by omega)
      obtain ⟨x113, ex113⟩ : ∃ y : Int, h107.2.2 32 13 = y := ⟨_, rfl⟩
      have rx113 := Ih107.atR (a := 32) (j := 13) rfl
      rw [ex113] at rx113
      refine to_aload_p (dat dk_X7_read 44 rfl) (Ih107.posN d111) rfl (to_iload (dat dk_X7_read 45 rfl) rfl (to_iconst (dat dk_X7_read 46 rfl) (to_iadd (dat dk_X7_read 47 rfl) (to_aload_n (dat dk_X7_read 48 rfl) rfl (to_getIv (y := x113) ex113 g_c8_82 (dat dk_X7_read 49 rfl) (Ih107.atS rfl) (to_iastw (dat dk_X7_read 50 rfl) d111 rfl (by decide) (by omega) ?_))))))
      intro h116 wh116
      have I114 : Inv h116 := by rw [wh116]; exact Ih107.put20 (j := (Int.toNat (y43 + 1))) (x := x113) d111 (by omega)
      have f115 : Fr [999, 8, 9, 10, 11, 13, 356, 316, 376, 14, 15, 16, 17, 19, 357, 317, 377, 30, 32, 33, 35, 37, 39, 41, 42, 43, 44, 45, 46, 47, 48, 312] h h116 := by rw [wh116]; exact Fr.putA (j := (Int.toNat (y43 + 1))) (x := x113) f109 Ih107 d111 (by decide +kernel)
      have d117 : h116.2.1 x25 = some (.inl (0, nRx25)) := by rw [wh116]; exact d110
      have d118 : h116.2.1 q34 = some (.inl (20, 5)) := by rw [wh116]; exact d111
      have e119 : ENL h h116 (ka45 + mcx106) (za46 + msx106) ((h44.2.2 32 13 + 17) + (h107.2.2 32 13 - h97.2.2 32 13)) ((1200 * y43 + 1020) + 1200) ((23) + 0) := by rw [wh116]; exact ENL.fr (S := [312]) e112 (Fr.putA (Fr.rf _ _) Ih107 d111 (by decide +kernel)) Ih107 rfl
      refine to_iinc (L' := [(0, .inr (.inr 32)), (1, .inl n), (2, .inl x11), (3, .inl x18), (4, .inr (.inr x25)), (5, .inr (.inr q34)), (6, .inl (y43 + 1))]) (dat dk_X7_read 51 rfl) rfl (by decide) rfl (to_goto (dat dk_X7_read 52 rfl) rfl ?_)
      have e120 : h116.2.2 32 13 = x113 := (by rw [wh116]; exact (wr_ne (ne_ty (Ih107.atS rfl) d111 (by intro e; cases e))).trans ex113)
      exact ihn52 (n52 - 1) (by omega) (y43 + 1) h116 (ka45 + mcx106) (za46 + msx106) (by omega) I114 f115 d117 d118 (show 0 ≤ (y43 + 1) ∧ (y43 + 1) ≤ 3 by omega) (ENL.mono e119 (by omega) (by omega) (by omega)) (show 3 - (y43 + 1) ≤ ((n52 - 1 : Nat) : Int) by omega)
  exact lp44_n52 (3 - (0 : Int)).toNat 0 h39 (((0 + mcx18) + mcx25) + 1) (((0 + msx18) + msx25) + 5) (by decide) I37 f38 d40 d41 (show 0 ≤ (0 : Int) ∧ (0 : Int) ≤ 3 by omega) (ENL.mono e42 (by omega) (by omega) (by omega)) (by omega)
abbrev Q_X11_add_vz (h : Hp) : Option V → Hp → Nat → Nat → Prop := RIa (fun x H mc ms => Inv H ∧ Fr [999, 8, 9, 10, 11, 13, 356, 316, 376, 14, 15, 16, 17, 19, 357, 317, 377, 30, 32, 33, 35, 37, 39, 41, 42, 43, 44, 45, 46, 47, 48, 312, 26, 313, 4, 27, 125] h H ∧ (ENL h H mc ms (1417) (5820) (1500)) ∧ (H.2.2 4 1 = 0) ∧ (H.2.2 26 2 = h.2.2 26 2 + 1) ∧ (h.2.2 26 2 ≤ 59 ∧ h.2.2 1 15 ≤ 199 ∧ H.2.2 1 15 = h.2.2 1 15 + 1) ∧ (nums H = nums h ++ [h.2.2 1 15]) ∧ (NMM h H))
abbrev PX_X11_add_vz (h : Hp) : String → Hp → Nat → Nat → Prop := fun E9 H k z => (E9 = ISE) ∧ Inv H ∧ Fr [999, 8, 9, 10, 11, 13, 356, 316, 376, 14, 15, 16, 17, 19, 357, 317, 377, 30, 32, 33, 35, 37, 39, 41, 42, 43, 44, 45, 46, 47, 48, 312, 26, 313, 4, 27, 125] h H ∧ k = 0 ∧ z = 0 ∧ (ENL h H 0 0 (0) (0) (0)) ∧ (H.2.2 4 1 = h.2.2 4 1) ∧ (H.2.2 26 2 = h.2.2 26 2) ∧ (60 ≤ h.2.2 26 2 ∨ 200 ≤ h.2.2 1 15) ∧ (H.2.2 1 15 = h.2.2 1 15) ∧ (nums H = nums h) ∧ (H = h)
set_option maxRecDepth 100000 in
set_option maxHeartbeats 4000000 in
theorem tx_X11_add_vz (l : Launch) (hst0 : l.stackTraces = false) (h : Hp) (hI : Inv h) (g0 : Bks h) (g1 : WT h ≤ 9000000) (g2 : ET h ≤ 3000000) (g3 : h.1 ≤ 800000) : CtX l D_X11_add 11 254 [.inr (.inr 1)] h (Q_X11_add_vz h) (PX_X11_add_vz h) := by
  refine ctx_of hst0 pn_X11_add rfl (Nat.le_of_ble_eq_true rfl) (by decide) (by decide) ?_
  show Tx l E_X11_add (Q_X11_add_vz h) (XP cX11_add h (PX_X11_add_vz h)) (0, [(0, .inr (.inr 1))], [], h, 0, 0)
  have e00 : ENL h h 0 0 0 0 0 := ENL.rf g0 (by decide) (by decide) (by decide)
  obtain ⟨x1, ex1⟩ : ∃ y : Int, h.2.2 4 1 = y := ⟨_, rfl⟩
  have rx1 := hI.atR (a := 4) (j := 1) rfl
  rw [ex1] at rx1
  obtain ⟨x2, ex2⟩ : ∃ y : Int, h.2.2 26 2 = y := ⟨_, rfl⟩
  have rx2 := hI.atR (a := 26) (j := 2) rfl
  rw [ex2] at rx2
  obtain ⟨x3, ex3⟩ : ∃ y : Int, h.2.2 1 15 = y := ⟨_, rfl⟩
  have rx3 := hI.atR (a := 1) (j := 15) rfl
  rw [ex3] at rx3
  refine tg_aload_n Tx.gn (dat dk_X11_add 0 rfl) rfl (tg_getR Tx.gn 26 g_c0_40 (dat dk_X11_add 1 rfl) (hI.atS rfl) (hI.atE rfl) ?_)
  refine tg_cI Tx.gn ca_c0_93 (dat dk_X11_add 2 rfl) (ct_Jx4a65c_size_8abf5 l h hI ) rfl ⟨_, _, rfl, (hI.atS rfl)⟩ rfl (fun x4 h5 rx4 p6 => ?_)
  obtain ⟨rfl, p6_0, p6_1⟩ := p6
  refine tg_bipush Tx.gn (dat dk_X11_add 3 rfl) (by decide) ?_
  refine tg_ige Tx.gn 22 (dat dk_X11_add 4 rfl) rfl rx4 (by decide) (fun c7 => ?_) (fun c7 => ?_)
  · skip
    exact Or.inr ⟨_, ⟨(ISE, 98, 100, 102, "no more messages can come", 101), List.mem_of_getElem? (i := 0) rfl, _, _, _, _, _, rfl, ⟨(dat dk_X11_add 9 rfl), (dat dk_X11_add 10 rfl), (dat dk_X11_add 11 rfl), (dat dk_X11_add 12 rfl), (dat dk_X11_add 13 rfl)⟩, ⟨rfl, hI, (Fr.rf _ _), rfl, rfl, (ENL.mono e00 (by omega) (by omega) (by omega)), (show h.2.2 4 1 = h.2.2 4 1 by omega), (show h.2.2 26 2 = h.2.2 26 2 by omega), (show 60 ≤ h.2.2 26 2 ∨ 200 ≤ h.2.2 1 15 by omega), (show h.2.2 1 15 = h.2.2 1 15 by omega), rfl, rfl⟩, (show Fr [999, 8, 9, 10, 11, 13, 356, 316, 376, 14, 15, 16, 17, 19, 357, 317, 377, 30, 32, 33, 35, 37, 39, 41, 42, 43, 44, 45, 46, 47, 48, 312, 26, 313, 4, 27, 125] h h from (Fr.rf _ _)).1.1, by have := hI.1.2.1; omega⟩, sx_rfl _⟩
  · skip
    refine tg_aload_n Tx.gn (dat dk_X11_add 5 rfl) rfl (tg_getIv Tx.gn (y := x3) ex3 g_c0_94 (dat dk_X11_add 6 rfl) (hI.atS rfl) (tg_sipush Tx.gn (dat dk_X11_add 7 rfl) (by decide) ?_))
    refine tg_ilt Tx.gn 32 (dat dk_X11_add 8 rfl) rfl (by omega) (by decide) (fun c8 => ?_) (fun c8 => ?_)
    · skip
      refine tg_aload_n Tx.gn (dat dk_X11_add 14 rfl) rfl (tg_getR Tx.gn 26 g_c0_40 (dat dk_X11_add 15 rfl) (hI.atS rfl) (hI.atE rfl) (tg_aload_n Tx.gn (dat dk_X11_add 16 rfl) rfl (tg_getR Tx.gn 32 g_c0_58 (dat dk_X11_add 17 rfl) (hI.atS rfl) (hI.atE rfl) (tg_aload_n Tx.gn (dat dk_X11_add 18 rfl) rfl (tg_getIv Tx.gn (y := x3) ex3 g_c0_94 (dat dk_X11_add 19 rfl) (hI.atS rfl) ?_)))))
      have q9 := (id e00).2
      have q10 := Bks.each hI e00.1
      refine tg_cRa Tx.gn ca_c0_105 (dat dk_X11_add 20 rfl) (ct_X7_read_vx l h hI x3 (by omega) g0 (show WT h ≤ 9100000 by omega) (show ET h ≤ 3100000 by omega) (show h.1 ≤ 810000 by omega)) rfl ⟨_, _, rfl, (hI.atS rfl)⟩ rfl (fun x11 h12 mcx11 msx11 p13 => ?_)
      obtain ⟨Ih12, fh12, p13_0, p13_1, p13_2, p13_3, p13_4⟩ := p13
      have f14 : Fr [999, 8, 9, 10, 11, 13, 356, 316, 376, 14, 15, 16, 17, 19, 357, 317, 377, 30, 32, 33, 35, 37, 39, 41, 42, 43, 44, 45, 46, 47, 48, 312, 26, 313, 4, 27, 125] h h12 := Fr.sub (Fr.rf _ _) fh12 rfl
      have e15 : ENL h h12 (0 + mcx11) (0 + msx11) (0 + 1417) (0 + 5820) (0 + 1242) := ENL.tr e00 p13_4 rfl rfl (by omega) (by omega) (by omega)
      have q16 := (id e15).2
      have q17 := Bks.each Ih12 e15.1
      have e18 : h12.2.2 26 2 = x2 := ((Fr.get fh12 (by have := hI.1.1; omega) rfl).trans ex2)
      refine tg_cIa Tx.gn ca_c0_109 (dat dk_X11_add 21 rfl) (ct_Jx4a65c_add_9ea2d_vw l h12 Ih12 x11 p13_0 (show h12.2.2 26 2 ≤ 59 by omega) (show h12.1 + 1 ≤ 900000 by omega)) rfl ⟨_, _, rfl, (Ih12.atS rfl)⟩ rfl (fun x19 h20 mcx19 msx19 rx19 p21 => ?_)
      obtain ⟨Ih20, fh20, zx19, p21_0, p21_1, p21_2, p21_3⟩ := p21
      have f22 : Fr [999, 8, 9, 10, 11, 13, 356, 316, 376, 14, 15, 16, 17, 19, 357, 317, 377, 30, 32, 33, 35, 37, 39, 41, 42, 43, 44, 45, 46, 47, 48, 312, 26, 313, 4, 27, 125] h h20 := Fr.sub f14 fh20 rfl
      have d23 := full.fr fh20 rfl Ih12 p13_0
      obtain ⟨eAx19, eBx19, eCx19⟩ := p21_0
      have e24 : ENL h h20 ((0 + mcx11) + mcx19) ((0 + msx11) + msx19) (0 + 1417) (0 + 5820) ((0 + 1242) + 201) := ENL.alF (m := mcx19) (n := msx19) e15 fh20 Ih12 rfl eCx19 rfl rfl (by omega)
      have rzx19 := z_lin zx19
      clear zx19
      clear rx19
      have rx19 := rzx19
      clear rzx19
      obtain ⟨x25, ex25⟩ : ∃ y : Int, h20.2.2 26 2 = y := ⟨_, rfl⟩
      have rx25 := Ih20.atR (a := 26) (j := 2) rfl
      rw [ex25] at rx25
      refine tg_pop Tx.gn (dat dk_X11_add 22 rfl) rfl (tg_aload_n Tx.gn (dat dk_X11_add 23 rfl) rfl (tg_getR Tx.gn 4 g_c0_18 (dat dk_X11_add 24 rfl) (Ih20.atS rfl) (Ih20.atE rfl) ?_))
      refine tg_cV Tx.gn ca_c0_113 (dat dk_X11_add 25 rfl) (ct_X1_clear_vx l h20 Ih20 4 rfl) rfl ⟨_, _, rfl, (Ih20.atS rfl)⟩ rfl (fun h27 p28 => ?_)
      obtain ⟨Ih27, fh27, p28_0, p28_1⟩ := p28
      have f29 : Fr [999, 8, 9, 10, 11, 13, 356, 316, 376, 14, 15, 16, 17, 19, 357, 317, 377, 30, 32, 33, 35, 37, 39, 41, 42, 43, 44, 45, 46, 47, 48, 312, 26, 313, 4, 27, 125] h h27 := Fr.sub f22 fh27 rfl
      have d30 := full.fr fh27 rfl Ih20 d23
      have e31 : ENL h h27 ((0 + mcx11) + mcx19) ((0 + msx11) + msx19) (0 + 1417) (0 + 5820) ((0 + 1242) + 201) := ENL.fr e24 fh27 Ih20 rfl
      obtain ⟨x32, ex32⟩ : ∃ y : Int, h27.2.2 4 1 = y := ⟨_, rfl⟩
      have rx32 := Ih27.atR (a := 4) (j := 1) rfl
      rw [ex32] at rx32
      refine tg_aload_n Tx.gn (dat dk_X11_add 26 rfl) rfl (tg_getR Tx.gn 27 g_c0_49 (dat dk_X11_add 27 rfl) (Ih27.atS rfl) (Ih27.atE rfl) ?_)
      refine tg_cV Tx.gn ca_c0_116 (dat dk_X11_add 28 rfl) (ct_X10_spoil l h27 Ih27 ) rfl ⟨_, _, rfl, (Ih27.atS rfl)⟩ rfl (fun h34 p35 => ?_)
      obtain ⟨Ih34, fh34⟩ := p35
      have f36 : Fr [999, 8, 9, 10, 11, 13, 356, 316, 376, 14, 15, 16, 17, 19, 357, 317, 377, 30, 32, 33, 35, 37, 39, 41, 42, 43, 44, 45, 46, 47, 48, 312, 26, 313, 4, 27, 125] h h34 := Fr.sub f29 fh34 rfl
      have d37 := full.fr fh34 rfl Ih27 d30
      have e38 : ENL h h34 ((0 + mcx11) + mcx19) ((0 + msx11) + msx19) (0 + 1417) (0 + 5820) ((0 + 1242) + 201) := ENL.fr e31 fh34 Ih27 rfl
      refine tg_aload_n Tx.gn (dat dk_X11_add 29 rfl) rfl (tg_dup Tx.gn (dat dk_X11_add 30 rfl) rfl (tg_getIv Tx.gn (y := x3) ((Fr.get fh34 (by have := Ih27.1.1; omega) rfl).trans ((Fr.get fh27 (by have := Ih20.1.1; omega) rfl).trans ((Fr.get fh20 (by have := Ih12.1.1; omega) rfl).trans ((Fr.get fh12 (by have := hI.1.1; omega) rfl).trans ex3)))) g_c0_94 (dat dk_X11_add 31 rfl) (Ih34.atS rfl) (tg_iconst Tx.gn (dat dk_X11_add 32 rfl) (tg_iadd Tx.gn (dat dk_X11_add 33 rfl) (tg_putIw Tx.gn p_c0_94 (dat dk_X11_add 34 rfl) (Ih34.atS rfl) ?_)))))
      intro h41 wh41
      have I39 : Inv h41 := by rw [wh41]; exact Ih34.put (a := 1) (j := 15) (x := (x3 + 1)) (0) (200) rfl rfl (show (0 : Int) ≤ (x3 + 1) ∧ (x3 + 1) ≤ 200 by omega)
      have f40 : Fr [999, 8, 9, 10, 11, 13, 356, 316, 376, 14, 15, 16, 17, 19, 357, 317, 377, 30, 32, 33, 35, 37, 39, 41, 42, 43, 44, 45, 46, 47, 48, 312, 26, 313, 4, 27, 125] h h41 := by rw [wh41]; exact Fr.putF (a := 1) (j := 15) (x := (x3 + 1)) f36 rfl
      have d42 : full h41 x11 := by rw [wh41]; exact full.putF Ih34 (by decide) d37
      have e43 : ENL h h41 ((0 + mcx11) + mcx19) ((0 + msx11) + msx19) (0 + 1417) (0 + 5820) ((0 + 1242) + 201) := by rw [wh41]; exact ENL.fr e38 (fr_wr [125] rfl) Ih34 rfl
      refine tg_aload_n Tx.gn (dat dk_X11_add 35 rfl) rfl (tg_getIv Tx.gn (y := (x3 + 1)) (by rw [wh41]; exact wr_eq) g_c0_94 (dat dk_X11_add 36 rfl) (I39.atS rfl) (tg_iconst Tx.gn (dat dk_X11_add 37 rfl) (tg_isub Tx.gn (dat dk_X11_add 38 rfl) ?_)))
      have e44 : h41.2.2 4 1 = x32 := (by rw [wh41]; exact (show h34.2.2 4 1 = x32 from ((Fr.get fh34 (by have := Ih27.1.1; omega) rfl).trans ex32)))
      have e45 : h41.2.2 26 2 = x25 := (by rw [wh41]; exact (show h34.2.2 26 2 = x25 from ((Fr.get fh34 (by have := Ih27.1.1; omega) rfl).trans ((Fr.get fh27 (by have := Ih20.1.1; omega) rfl).trans ex25))))
      have e46 : h41.2.2 1 15 = (x3 + 1) := (by rw [wh41]; exact wr_eq)
      exact Or.inl (to_iret rfl (dat dk_X11_add 39 rfl) (ri_mka (by omega) ⟨I39, f40, (ENL.mono e43 (by omega) (by omega) (by omega)), (show h41.2.2 4 1 = 0 by omega), (show h41.2.2 26 2 = h.2.2 26 2 + 1 by omega), (show h.2.2 26 2 ≤ 59 ∧ h.2.2 1 15 ≤ 199 ∧ h41.2.2 1 15 = h.2.2 1 15 + 1 by omega), ((nums_fr (S := [125]) (show Fr [125] h34 h41 by rw [wh41]; exact fr_wr [125] rfl) Ih34 rfl).trans ((nums_fr fh34 Ih27 rfl).trans ((nums_fr fh27 Ih20 rfl).trans ((nums_add Ih12 fh20 p13_0 p21_1 p21_2 p21_3).trans (by rw [nums_fr fh12 hI rfl, p13_2]; exact congrArg (fun z => nums h ++ [z]) (by omega)))))), ((((NMM.mk hI fh12 rfl Ih12 p13_0 p13_3 fh20 p21_1 p21_2 p21_3).fr Ih20 fh27 rfl rfl).fr Ih27 fh34 rfl rfl).fr Ih34 (show Fr [125] h34 h41 by rw [wh41]; exact fr_wr [125] rfl) rfl rfl)⟩))
    · skip
      exact Or.inr ⟨_, ⟨(ISE, 98, 100, 102, "no more messages can come", 101), List.mem_of_getElem? (i := 0) rfl, _, _, _, _, _, rfl, ⟨(dat dk_X11_add 9 rfl), (dat dk_X11_add 10 rfl), (dat dk_X11_add 11 rfl), (dat dk_X11_add 12 rfl), (dat dk_X11_add 13 rfl)⟩, ⟨rfl, hI, (Fr.rf _ _), rfl, rfl, (ENL.mono e00 (by omega) (by omega) (by omega)), (show h.2.2 4 1 = h.2.2 4 1 by omega), (show h.2.2 26 2 = h.2.2 26 2 by omega), (show 60 ≤ h.2.2 26 2 ∨ 200 ≤ h.2.2 1 15 by omega), (show h.2.2 1 15 = h.2.2 1 15 by omega), rfl, rfl⟩, (show Fr [999, 8, 9, 10, 11, 13, 356, 316, 376, 14, 15, 16, 17, 19, 357, 317, 377, 30, 32, 33, 35, 37, 39, 41, 42, 43, 44, 45, 46, 47, 48, 312, 26, 313, 4, 27, 125] h h from (Fr.rf _ _)).1.1, by have := hI.1.2.1; omega⟩, sx_rfl _⟩
abbrev Q_X11_remove_vz (h : Hp) (n : Int) : Option V → Hp → Nat → Nat → Prop := RV (fun H => Inv H ∧ Fr [26, 313, 27] h H ∧ (H.2.2 4 1 = h.2.2 4 1) ∧ (H.2.2 26 2 = h.2.2 26 2 - 1) ∧ (RMM h H n))
abbrev PX_X11_remove_vz (h : Hp) (n : Int) : String → Hp → Nat → Nat → Prop := fun E9 H k z => (E9 = IOB) ∧ Inv H ∧ Fr [26, 313, 27] h H ∧ k = 0 ∧ z = 0 ∧ (H.2.2 4 1 = h.2.2 4 1) ∧ (H.2.2 26 2 = h.2.2 26 2) ∧ (n ∉ nums h) ∧ (nums H = nums h) ∧ (H = h)
set_option maxRecDepth 100000 in
theorem tx_X11_remove_vz (l : Launch) (hst0 : l.stackTraces = false) (h : Hp) (hI : Inv h) (n : Int) (hn : I32 n) : CtX l D_X11_remove 6 126 [.inr (.inr 1), .inl n] h (Q_X11_remove_vz h n) (PX_X11_remove_vz h n) := by
  refine ctx_of hst0 pn_X11_remove rfl (Nat.le_of_ble_eq_true rfl) (by decide) (by decide) ?_
  show Tx l E6_X11_remove (Q_X11_remove_vz h n) (XP cX11_remove h (PX_X11_remove_vz h n)) (0, [(0, .inr (.inr 1)), (1, .inl n)], [], h, 0, 0)
  obtain ⟨x1, ex1⟩ : ∃ y : Int, h.2.2 4 1 = y := ⟨_, rfl⟩
  have rx1 := hI.atR (a := 4) (j := 1) rfl
  rw [ex1] at rx1
  obtain ⟨x2, ex2⟩ : ∃ y : Int, h.2.2 26 2 = y := ⟨_, rfl⟩
  have rx2 := hI.atR (a := 26) (j := 2) rfl
  rw [ex2] at rx2
  refine tg_aload_n Tx.gn (dat dk_X11_remove 0 rfl) rfl (tg_iload_n Tx.gn (dat dk_X11_remove 1 rfl) rfl ?_)
  refine tg_cI Tx.gn ca_c0_119 (dat dk_X11_remove 2 rfl) (ct_X11_placeOf_vb l h hI n hn) rfl ⟨_, _, rfl, (hI.atS rfl)⟩ rfl (fun x3 h4 rx3 p5 => ?_)
  obtain ⟨rfl, p5_0, p5_1⟩ := p5
  refine tg_istore_n Tx.gn (L' := [(0, .inr (.inr 1)), (1, .inl n), (2, .inl x3)]) (dat dk_X11_remove 3 rfl) (by decide) rfl (tg_iload_n Tx.gn (dat dk_X11_remove 4 rfl) rfl ?_)
  refine tg_iflt Tx.gn 21 (dat dk_X11_remove 5 rfl) rfl rx3 (fun c6 => ?_) (fun c6 => ?_)
  · skip
    exact Or.inr ⟨_, ⟨(IOB, 123, 125, 127, "the message is not there", 103), List.mem_of_getElem? (i := 1) rfl, _, _, _, _, _, rfl, ⟨(dat dk_X11_remove 11 rfl), (dat dk_X11_remove 12 rfl), (dat dk_X11_remove 13 rfl), (dat dk_X11_remove 14 rfl), (dat dk_X11_remove 15 rfl)⟩, ⟨rfl, hI, (Fr.rf _ _), rfl, rfl, (show h.2.2 4 1 = h.2.2 4 1 by omega), (show h.2.2 26 2 = h.2.2 26 2 by omega), (Or.elim p5_1 (fun q => q.2) (fun q => absurd q.1 (by omega))), rfl, rfl⟩, (show Fr [26, 313, 27] h h from (Fr.rf _ _)).1.1, by have := hI.1.2.1; omega⟩, sx_rfl _⟩
  · skip
    refine tg_iload_n Tx.gn (dat dk_X11_remove 6 rfl) rfl (tg_aload_n Tx.gn (dat dk_X11_remove 7 rfl) rfl (tg_getR Tx.gn 26 g_c0_40 (dat dk_X11_remove 8 rfl) (hI.atS rfl) (hI.atE rfl) ?_))
    refine tg_cI Tx.gn ca_c0_93 (dat dk_X11_remove 9 rfl) (ct_Jx4a65c_size_8abf5 l h hI ) rfl ⟨_, _, rfl, (hI.atS rfl)⟩ rfl (fun x7 h8 rx7 p9 => ?_)
    obtain ⟨rfl, p9_0, p9_1⟩ := p9
    refine tg_ilt Tx.gn 31 (dat dk_X11_remove 10 rfl) rfl rx3 rx7 (fun c10 => ?_) (fun c10 => ?_)
    · skip
      refine tg_aload_n Tx.gn (dat dk_X11_remove 16 rfl) rfl (tg_getR Tx.gn 26 g_c0_40 (dat dk_X11_remove 17 rfl) (hI.atS rfl) (hI.atE rfl) (tg_iload_n Tx.gn (dat dk_X11_remove 18 rfl) rfl ?_))
      refine tg_cR Tx.gn ca_c0_128 (dat dk_X11_remove 19 rfl) (ct_Jx4a65c_remove_915e3_vw l h hI x3 rx3 (show 0 ≤ x3 ∧ x3 < h.2.2 26 2 by omega)) rfl ⟨_, _, rfl, (hI.atS rfl)⟩ rfl (fun x11 h12 p13 => ?_)
      obtain ⟨Ih12, fh12, p13_0, p13_1⟩ := p13
      have f14 : Fr [26, 313, 27] h h12 := Fr.sub (Fr.rf _ _) fh12 rfl
      obtain ⟨x15, ex15⟩ : ∃ y : Int, h12.2.2 26 2 = y := ⟨_, rfl⟩
      have rx15 := Ih12.atR (a := 26) (j := 2) rfl
      rw [ex15] at rx15
      refine tg_pop Tx.gn (dat dk_X11_remove 20 rfl) rfl (tg_aload_n Tx.gn (dat dk_X11_remove 21 rfl) rfl (tg_getR Tx.gn 27 g_c0_49 (dat dk_X11_remove 22 rfl) (Ih12.atS rfl) (Ih12.atE rfl) ?_))
      refine tg_cV Tx.gn ca_c0_116 (dat dk_X11_remove 23 rfl) (ct_X10_spoil l h12 Ih12 ) rfl ⟨_, _, rfl, (Ih12.atS rfl)⟩ rfl (fun h17 p18 => ?_)
      obtain ⟨Ih17, fh17⟩ := p18
      have f19 : Fr [26, 313, 27] h h17 := Fr.sub f14 fh17 rfl
      have e20 : h17.2.2 4 1 = x1 := ((Fr.get fh17 (by have := Ih12.1.1; omega) rfl).trans ((Fr.get fh12 (by have := hI.1.1; omega) rfl).trans ex1))
      have e21 : h17.2.2 26 2 = x15 := ((Fr.get fh17 (by have := Ih12.1.1; omega) rfl).trans ex15)
      exact Or.inl (to_vret rfl (dat dk_X11_remove 24 rfl) (rv_mk ⟨Ih17, f19, (show h17.2.2 4 1 = h.2.2 4 1 by omega), (show h17.2.2 26 2 = h.2.2 26 2 - 1 by omega), (Or.elim p5_1 (fun q => absurd q.1 (by omega)) (fun q => ⟨_, q.2, (nums_fr fh17 Ih12 rfl).trans (nums_remove hI fh12 (by omega) p13_0 p13_1), fun j hj => (elS_fr fh17 Ih12 rfl (by have := p13_0; omega)).trans (p13_1 j hj)⟩))⟩))
    · skip
      exact Or.inr ⟨_, ⟨(IOB, 123, 125, 127, "the message is not there", 103), List.mem_of_getElem? (i := 1) rfl, _, _, _, _, _, rfl, ⟨(dat dk_X11_remove 11 rfl), (dat dk_X11_remove 12 rfl), (dat dk_X11_remove 13 rfl), (dat dk_X11_remove 14 rfl), (dat dk_X11_remove 15 rfl)⟩, ⟨rfl, hI, (Fr.rf _ _), rfl, rfl, (show h.2.2 4 1 = h.2.2 4 1 by omega), (show h.2.2 26 2 = h.2.2 26 2 by omega), (Or.elim p5_1 (fun q => q.2) (fun q => absurd q.1 (by omega))), rfl, rfl⟩, (show Fr [26, 313, 27] h h from (Fr.rf _ _)).1.1, by have := hI.1.2.1; omega⟩, sx_rfl _⟩
