/-! Contracts, by program. -/
abbrev Q_X12_read (h : Hp) (m : Int) : Option V → Hp → Nat → Nat → Prop := RV (fun H => Inv H ∧ Fr [69, 70, 71, 72, 73, 74, 75, 76, 77, 78, 79, 80, 81, 82, 212, 216, 218, 219, 223, 225, 226, 228, 229, 233, 236] h H ∧ (Cch H) ∧ (H.2.2 60 12 = m))
set_option maxRecDepth 100000 in
theorem ct_X12_read (l : Launch) (h : Hp) (hI : Inv h) (m : Int) (hm : I32 m) (g0 : Cch h) (g1 : 0 ≤ m ∧ m < h.2.2 60 4) : Ct l D_X12_read 6 146 [.inr (.inr 60), .inl m] h (Q_X12_read h m) := by
  refine ct_of pn_X12_read (Nat.le_of_ble_eq_true rfl) ?_
  show To l E_X12_read (0, [(0, .inr (.inr 60)), (1, .inl m)], [], h, 0, 0) _
  obtain ⟨x1, ex1⟩ : ∃ y : Int, h.2.2 60 12 = y := ⟨_, rfl⟩
  have rx1 := hI.atR (a := 60) (j := 12) rfl
  rw [ex1] at rx1
  obtain ⟨x2, ex2⟩ : ∃ y : Int, h.2.2 60 4 = y := ⟨_, rfl⟩
  have rx2 := hI.atR (a := 60) (j := 4) rfl
  rw [ex2] at rx2
  obtain ⟨x3, ex3⟩ : ∃ y : Int, h.2.2 60 18 = y := ⟨_, rfl⟩
  have rx3 := hI.atR (a := 60) (j := 18) rfl
  rw [ex3] at rx3
  obtain ⟨x4, ex4⟩ : ∃ y : Int, h.2.2 60 36 = y := ⟨_, rfl⟩
  have rx4 := hI.atR (a := 60) (j := 36) rfl
  rw [ex4] at rx4
  obtain ⟨x5, ex5⟩ : ∃ y : Int, h.2.2 60 23 = y := ⟨_, rfl⟩
  have rx5 := hI.atR (a := 60) (j := 23) rfl
  rw [ex5] at rx5
  refine to_aload_n (dat dk_X12_read 0 rfl) rfl (to_getIv (y := x1) ex1 g_c13_37 (dat dk_X12_read 1 rfl) (hI.atS rfl) (to_iload_n (dat dk_X12_read 2 rfl) rfl ?_))
  refine to_ine 9 (dat dk_X12_read 3 rfl) rfl (by omega) hm (fun c6 => ?_) (fun c6 => ?_)
  · skip
    refine to_aload_n (dat dk_X12_read 5 rfl) rfl (to_iload_n (dat dk_X12_read 6 rfl) rfl (to_putIw p_c13_37 (dat dk_X12_read 7 rfl) (hI.atS rfl) ?_))
    intro h9 wh9
    have I7 : Inv h9 := by rw [wh9]; exact hI.put (a := 60) (j := 12) (x := m) (-1) (199) rfl rfl (show (-1 : Int) ≤ m ∧ m ≤ 199 by omega)
    have f8 : Fr [69, 70, 71, 72, 73, 74, 75, 76, 77, 78, 79, 80, 81, 82, 212, 216, 218, 219, 223, 225, 226, 228, 229, 233, 236] h h9 := by rw [wh9]; exact Fr.putF (a := 60) (j := 12) (x := m) (Fr.rf _ _) rfl
    refine to_sipush (dat dk_X12_read 8 rfl) (by decide) (to_iload_n (dat dk_X12_read 9 rfl) rfl (to_imul (dat dk_X12_read 10 rfl) (to_istore_n (L' := [(0, .inr (.inr 60)), (1, .inl m), (2, .inl (1200 * m))]) (dat dk_X12_read 11 rfl) (by decide) rfl (to_iload_n (dat dk_X12_read 12 rfl) rfl (to_aload_n (dat dk_X12_read 13 rfl) rfl (to_getR 64 g_c13_20 (dat dk_X12_read 14 rfl) (I7.atS rfl) (I7.atE rfl) (to_iload_n (dat dk_X12_read 15 rfl) rfl ?_)))))))
    obtain ⟨x10, ex10⟩ : ∃ y : Int, h9.2.2 64 (Int.toNat m) = y := ⟨_, rfl⟩
    have rx10 := I7.atR (a := 64) (j := Int.toNat m) rfl
    rw [ex10] at rx10
    refine to_ialdv ex10 (dat dk_X12_read 16 rfl) (I7.atS rfl) rfl (by decide) (by omega) ?_
    refine to_iadd (dat dk_X12_read 17 rfl) (to_istore_n (L' := [(0, .inr (.inr 60)), (1, .inl m), (2, .inl (1200 * m)), (3, .inl ((1200 * m) + x10))]) (dat dk_X12_read 18 rfl) (by decide) rfl (to_aload_n (dat dk_X12_read 19 rfl) rfl (to_iconst (dat dk_X12_read 20 rfl) (to_iload_n (dat dk_X12_read 21 rfl) rfl (to_iload_n (dat dk_X12_read 22 rfl) rfl (to_iconst (dat dk_X12_read 23 rfl) ?_))))))
    refine to_cV ca_c13_349 (dat dk_X12_read 24 rfl) (ct_X12_readField_vb l h9 I7 0 (by decide) (1200 * m) (by omega) ((1200 * m) + x10) (by omega) 1 (by decide) (show 0 ≤ (0 : Int) ∧ (0 : Int) ≤ 3 by omega) (show 0 ≤ (1200 * m) ∧ (1200 * m) ≤ ((1200 * m) + x10) by omega) (show ((1200 * m) + x10) ≤ 240000 by omega) (show ((1200 * m) + x10) - (1200 * m) ≤ 1200 by omega) (show 0 ≤ (1 : Int) ∧ (1 : Int) ≤ 8 by omega)) rfl ⟨_, _, rfl, (I7.atS rfl)⟩ rfl (fun h12 p13 => ?_)
    obtain ⟨Ih12, fh12, p13_0, p13_1⟩ := p13
    have f14 : Fr [69, 70, 71, 72, 73, 74, 75, 76, 77, 78, 79, 80, 81, 82, 212, 216, 218, 219, 223, 225, 226, 228, 229, 233, 236] h h12 := Fr.sub f8 fh12 rfl
    refine to_aload_n (dat dk_X12_read 25 rfl) rfl (to_iconst (dat dk_X12_read 26 rfl) (to_iload_n (dat dk_X12_read 27 rfl) rfl (to_iload_n (dat dk_X12_read 28 rfl) rfl (to_iconst (dat dk_X12_read 29 rfl) ?_))))
    refine to_cV ca_c13_349 (dat dk_X12_read 30 rfl) (ct_X12_readField_vb l h12 Ih12 1 (by decide) (1200 * m) (by omega) ((1200 * m) + x10) (by omega) 2 (by decide) (show 0 ≤ (1 : Int) ∧ (1 : Int) ≤ 3 by omega) (show 0 ≤ (1200 * m) ∧ (1200 * m) ≤ ((1200 * m) + x10) by omega) (show ((1200 * m) + x10) ≤ 240000 by omega) (show ((1200 * m) + x10) - (1200 * m) ≤ 1200 by omega) (show 0 ≤ (2 : Int) ∧ (2 : Int) ≤ 8 by omega)) rfl ⟨_, _, rfl, (Ih12.atS rfl)⟩ rfl (fun h16 p17 => ?_)
    obtain ⟨Ih16, fh16, p17_0, p17_1⟩ := p17
    have f18 : Fr [69, 70, 71, 72, 73, 74, 75, 76, 77, 78, 79, 80, 81, 82, 212, 216, 218, 219, 223, 225, 226, 228, 229, 233, 236] h h16 := Fr.sub f14 fh16 rfl
    refine to_aload_n (dat dk_X12_read 31 rfl) rfl (to_iconst (dat dk_X12_read 32 rfl) (to_iload_n (dat dk_X12_read 33 rfl) rfl (to_iload_n (dat dk_X12_read 34 rfl) rfl (to_iconst (dat dk_X12_read 35 rfl) ?_))))
    refine to_cV ca_c13_349 (dat dk_X12_read 36 rfl) (ct_X12_readField_vb l h16 Ih16 2 (by decide) (1200 * m) (by omega) ((1200 * m) + x10) (by omega) 3 (by decide) (show 0 ≤ (2 : Int) ∧ (2 : Int) ≤ 3 by omega) (show 0 ≤ (1200 * m) ∧ (1200 * m) ≤ ((1200 * m) + x10) by omega) (show ((1200 * m) + x10) ≤ 240000 by omega) (show ((1200 * m) + x10) - (1200 * m) ≤ 1200 by omega) (show 0 ≤ (3 : Int) ∧ (3 : Int) ≤ 8 by omega)) rfl ⟨_, _, rfl, (Ih16.atS rfl)⟩ rfl (fun h20 p21 => ?_)
    obtain ⟨Ih20, fh20, p21_0, p21_1⟩ := p21
    have f22 : Fr [69, 70, 71, 72, 73, 74, 75, 76, 77, 78, 79, 80, 81, 82, 212, 216, 218, 219, 223, 225, 226, 228, 229, 233, 236] h h20 := Fr.sub f18 fh20 rfl
    refine to_aload_n (dat dk_X12_read 37 rfl) rfl (to_iload_n (dat dk_X12_read 38 rfl) rfl (to_iload_n (dat dk_X12_read 39 rfl) rfl ?_))
    refine to_cV ca_c13_353 (dat dk_X12_read 40 rfl) (ct_X12_readText l h20 Ih20 (1200 * m) (by omega) ((1200 * m) + x10) (by omega) (show 0 ≤ (1200 * m) ∧ (1200 * m) ≤ ((1200 * m) + x10) by omega) (show ((1200 * m) + x10) ≤ 240000 by omega) (show ((1200 * m) + x10) - (1200 * m) ≤ 1200 by omega)) rfl ⟨_, _, rfl, (Ih20.atS rfl)⟩ rfl (fun h24 p25 => ?_)
    obtain ⟨Ih24, fh24, p25_0⟩ := p25
    have f26 : Fr [69, 70, 71, 72, 73, 74, 75, 76, 77, 78, 79, 80, 81, 82, 212, 216, 218, 219, 223, 225, 226, 228, 229, 233, 236] h h24 := Fr.sub f22 fh24 rfl
    obtain ⟨x27, ex27⟩ : ∃ y : Int, h24.2.2 60 25 = y := ⟨_, rfl⟩
    have rx27 := Ih24.atR (a := 60) (j := 25) rfl
    rw [ex27] at rx27
    refine to_aload_n (dat dk_X12_read 41 rfl) rfl (to_getR 69 g_c13_41 (dat dk_X12_read 42 rfl) (Ih24.atS rfl) (Ih24.atE rfl) (to_iconst (dat dk_X12_read 43 rfl) (to_aload_n (dat dk_X12_read 44 rfl) rfl (to_getR 76 g_c13_63 (dat dk_X12_read 45 rfl) (Ih24.atS rfl) (Ih24.atE rfl) (to_iconst (dat dk_X12_read 46 rfl) (to_aload_n (dat dk_X12_read 47 rfl) rfl (to_getIv (y := x27) ex27 g_c13_165 (dat dk_X12_read 48 rfl) (Ih24.atS rfl) (to_sipush (dat dk_X12_read 49 rfl) (by decide) (to_aload_n (dat dk_X12_read 50 rfl) rfl (to_getR 70 g_c13_45 (dat dk_X12_read 51 rfl) (Ih24.atS rfl) (Ih24.atE rfl) (to_aload_n (dat dk_X12_read 52 rfl) rfl (to_getR 71 g_c13_48 (dat dk_X12_read 53 rfl) (Ih24.atS rfl) (Ih24.atE rfl) (to_sipush (dat dk_X12_read 54 rfl) (by decide) ?_)))))))))))))
    refine to_cI ca_c13_296 (dat dk_X12_read 55 rfl) (ct_X12_split_v70b l h24 Ih24 76 4000 rfl 0 (by decide) x27 (by omega) 200 (by decide) 1920 (by decide) (show 0 ≤ (0 : Int) ∧ (0 : Int) ≤ x27 by omega) (show x27 ≤ (4000 : Int) by omega) (show 0 ≤ (1920 : Int) by omega) (show 0 ≤ (200 : Int) by omega) (show (1920 : Int) + (200 : Int) ≤ 2560 by omega)) rfl trivial rfl (fun x28 h29 rx28 p30 => ?_)
    obtain ⟨Ih29, fh29, p30_0, p30_1⟩ := p30
    have f31 : Fr [69, 70, 71, 72, 73, 74, 75, 76, 77, 78, 79, 80, 81, 82, 212, 216, 218, 219, 223, 225, 226, 228, 229, 233, 236] h h29 := Fr.sub f26 fh29 rfl
    refine to_iastw (dat dk_X12_read 56 rfl) (Ih29.atS rfl) rfl (by decide) (by decide) ?_
    intro h35 wh35
    have I33 : Inv h35 := by rw [wh35]; exact Ih29.put (a := 69) (j := (Int.toNat 3)) (x := x28) (0) (640) rfl rfl (show (0 : Int) ≤ x28 ∧ x28 ≤ 640 by omega)
    have f34 : Fr [69, 70, 71, 72, 73, 74, 75, 76, 77, 78, 79, 80, 81, 82, 212, 216, 218, 219, 223, 225, 226, 228, 229, 233, 236] h h35 := by rw [wh35]; exact Fr.putF (a := 69) (j := (Int.toNat 3)) (x := x28) f31 rfl
    have k36 : h35.2.2 69 0 ≤ (((1200 * m) + x10) - (1200 * m)) + 1 := by
      have e9 : h35.2.2 69 0 = h12.2.2 69 0 := by rw [wh35]; exact (wr_ne2 (by decide)).trans ((congrFun (fh29.arr Ih24 (a := 69) (by decide) (fun _ => rfl)) 0).trans ((congrFun (fh24.arr Ih20 (a := 69) (by decide) (fun _ => rfl)) 0).trans ((p21_0 0 (by decide)).trans ((p17_0 0 (by decide))))))
      have e8 : h12.2.2 69 0 ≤ (((1200 * m) + x10) - (1200 * m)) + 1 := p13_1
      omega
    have k37 : h35.2.2 69 1 ≤ (((1200 * m) + x10) - (1200 * m)) + 1 := by
      have e9 : h35.2.2 69 1 = h16.2.2 69 1 := by rw [wh35]; exact (wr_ne2 (by decide)).trans ((congrFun (fh29.arr Ih24 (a := 69) (by decide) (fun _ => rfl)) 1).trans ((congrFun (fh24.arr Ih20 (a := 69) (by decide) (fun _ => rfl)) 1).trans ((p21_0 1 (by decide)))))
      have e8 : h16.2.2 69 1 ≤ (((1200 * m) + x10) - (1200 * m)) + 1 := p17_1
      omega
    have k38 : h35.2.2 69 2 ≤ (((1200 * m) + x10) - (1200 * m)) + 1 := by
      have e9 : h35.2.2 69 2 = h20.2.2 69 2 := by rw [wh35]; exact (wr_ne2 (by decide)).trans ((congrFun (fh29.arr Ih24 (a := 69) (by decide) (fun _ => rfl)) 2).trans ((congrFun (fh24.arr Ih20 (a := 69) (by decide) (fun _ => rfl)) 2)))
      have e8 : h20.2.2 69 2 ≤ (((1200 * m) + x10) - (1200 * m)) + 1 := p21_1
      omega
    have k39 : h35.2.2 69 3 ≤ 200 := by
      have e9 : h35.2.2 69 3 = x28 := by rw [wh35]; exact wr_eq
      omega
    have e40 : h35.2.2 60 12 = m := (by rw [wh35]; exact (show h29.2.2 60 12 = m from ((Fr.get fh29 (by have := Ih24.1.1; omega) rfl).trans ((Fr.get fh24 (by have := Ih20.1.1; omega) rfl).trans ((Fr.get fh20 (by have := Ih16.1.1; omega) rfl).trans ((Fr.get fh16 (by have := Ih12.1.1; omega) rfl).trans ((Fr.get fh12 (by have := I7.1.1; omega) rfl).trans (by rw [wh9]; exact wr_eq))))))))
    have e41 : h35.2.2 60 4 = x2 := (by rw [wh35]; exact (show h29.2.2 60 4 = x2 from ((Fr.get fh29 (by have := Ih24.1.1; omega) rfl).trans ((Fr.get fh24 (by have := Ih20.1.1; omega) rfl).trans ((Fr.get fh20 (by have := Ih16.1.1; omega) rfl).trans ((Fr.get fh16 (by have := Ih12.1.1; omega) rfl).trans ((Fr.get fh12 (by have := I7.1.1; omega) rfl).trans (by rw [wh9]; exact ex2))))))))
    have k42 : h35.2.2 64 (Int.toNat m) = x10 := by
      exact (Fr.getF f34 hI (a := 64) (by decide) rfl).trans (show h.2.2 64 (Int.toNat m) = x10 from by rw [← ex10, wh9]; exact (wr_ne (by decide)).symm)
    have k43 : Cch h35 := Cch.mk (m := m) (s := x10) e40 (by omega) k42 (by omega) (by omega) (by omega) k39
    refine to_aload_n (dat dk_X12_read 57 rfl) rfl ?_
    have jn110_n48 : ∀ (w44 : Int) (h45 : Hp), (Inv h45) → (Fr [69, 70, 71, 72, 73, 74, 75, 76, 77, 78, 79, 80, 81, 82, 212, 216, 218, 219, 223, 225, 226, 228, 229, 233, 236] h h45) → (Cch h45) → (h45.2.2 60 12 = m) → To l E_X12_read (110, [(0, .inr (.inr 60)), (1, .inl m), (2, .inl (1200 * m)), (3, .inl ((1200 * m) + x10))], [.inr (.inl w44), .inr (.inr 60)], h45, 0, 0) (Q_X12_read h m) := by
      intro w44 h45 Ih45 fh45 c46 c47
      obtain ⟨x49, ex49⟩ : ∃ y : Int, h45.2.2 60 12 = y := ⟨_, rfl⟩
      have rx49 := Ih45.atR (a := 60) (j := 12) rfl
      rw [ex49] at rx49
      refine to_putLw p_c13_360 (dat dk_X12_read 68 rfl) (Ih45.atS rfl) ?_
      intro h52 wh52
      have I50 : Inv h52 := by rw [wh52]; exact Ih45.putL (x := w44) (a := 60) (j := 16) rfl
      have f51 : Fr [69, 70, 71, 72, 73, 74, 75, 76, 77, 78, 79, 80, 81, 82, 212, 216, 218, 219, 223, 225, 226, 228, 229, 233, 236] h h52 := by rw [wh52]; exact Fr.putF (a := 60) (j := 16) (x := w44) fh45 rfl
      have t53 : Cch h52 := by rw [wh52]; exact Cch_wr rfl c46
      refine to_aload_n (dat dk_X12_read 69 rfl) rfl (to_iconst (dat dk_X12_read 70 rfl) (to_putIw p_c13_364 (dat dk_X12_read 71 rfl) (I50.atS rfl) ?_))
      intro h56 wh56
      have I54 : Inv h56 := by rw [wh56]; exact I50.put (a := 60) (j := 18) (x := 0) (0) (60) rfl rfl (show (0 : Int) ≤ 0 ∧ 0 ≤ 60 by decide)
      have f55 : Fr [69, 70, 71, 72, 73, 74, 75, 76, 77, 78, 79, 80, 81, 82, 212, 216, 218, 219, 223, 225, 226, 228, 229, 233, 236] h h56 := by rw [wh56]; exact Fr.putF (a := 60) (j := 18) (x := 0) f51 rfl
      have t57 : Cch h56 := by rw [wh56]; exact Cch_wr rfl t53
      have jn138_n63 : ∀ (y58 : Int) (h59 : Hp), (I32 y58) → (Inv h59) → (Fr [69, 70, 71, 72, 73, 74, 75, 76, 77, 78, 79, 80, 81, 82, 212, 216, 218, 219, 223, 225, 226, 228, 229, 233, 236] h h59) → (Cch h59) → (h59.2.2 60 12 = m) → (y58 = -1 ∨ (0 ≤ y58 ∧ y58 < h59.2.2 60 36 ∧ h59.2.2 60 36 < h59.2.2 60 23)) → To l E_X12_read (138, [(0, .inr (.inr 60)), (1, .inl m), (2, .inl (1200 * m)), (3, .inl ((1200 * m) + x10))], [.inl y58], h59, 0, 0) (Q_X12_read h m) := by
        intro y58 h59 ry58 Ih59 fh59 c60 c61 c62
        obtain ⟨x64, ex64⟩ : ∃ y : Int, h59.2.2 60 12 = y := ⟨_, rfl⟩
        have rx64 := Ih59.atR (a := 60) (j := 12) rfl
        rw [ex64] at rx64
        obtain ⟨x65, ex65⟩ : ∃ y : Int, h59.2.2 60 36 = y := ⟨_, rfl⟩
        have rx65 := Ih59.atR (a := 60) (j := 36) rfl
        rw [ex65] at rx65
        obtain ⟨x66, ex66⟩ : ∃ y : Int, h59.2.2 60 23 = y := ⟨_, rfl⟩
        have rx66 := Ih59.atR (a := 60) (j := 23) rfl
        rw [ex66] at rx66
        refine to_istore (L' := [(0, .inr (.inr 60)), (1, .inl m), (2, .inl (1200 * m)), (3, .inl ((1200 * m) + x10)), (4, .inl y58)]) (dat dk_X12_read 83 rfl) (by decide) rfl ?_
        have jn211_n70 : ∀ (h67 : Hp), (Inv h67) → (Fr [69, 70, 71, 72, 73, 74, 75, 76, 77, 78, 79, 80, 81, 82, 212, 216, 218, 219, 223, 225, 226, 228, 229, 233, 236] h h67) → (Cch h67) → (h67.2.2 60 12 = m) → To l E_X12_read (211, [(0, .inr (.inr 60)), (1, .inl m), (2, .inl (1200 * m)), (3, .inl ((1200 * m) + x10)), (4, .inl y58)], [], h67, 0, 0) (Q_X12_read h m) := by
          intro h67 Ih67 fh67 c68 c69
          obtain ⟨x71, ex71⟩ : ∃ y : Int, h67.2.2 60 12 = y := ⟨_, rfl⟩
          have rx71 := Ih67.atR (a := 60) (j := 12) rfl
          rw [ex71] at rx71
          refine to_aload_n (dat dk_X12_read 123 rfl) rfl (to_iconst (dat dk_X12_read 124 rfl) (to_putIw p_c13_336 (dat dk_X12_read 125 rfl) (Ih67.atS rfl) ?_))
          intro h74 wh74
          have I72 : Inv h74 := by rw [wh74]; exact Ih67.put (a := 60) (j := 19) (x := 0) (0) (16) rfl rfl (show (0 : Int) ≤ 0 ∧ 0 ≤ 16 by decide)
          have f73 : Fr [69, 70, 71, 72, 73, 74, 75, 76, 77, 78, 79, 80, 81, 82, 212, 216, 218, 219, 223, 225, 226, 228, 229, 233, 236] h h74 := by rw [wh74]; exact Fr.putF (a := 60) (j := 19) (x := 0) fh67 rfl
          have t75 : Cch h74 := by rw [wh74]; exact Cch_wr rfl c68
          have jn233_n79 : ∀ (h76 : Hp), (Inv h76) → (Fr [69, 70, 71, 72, 73, 74, 75, 76, 77, 78, 79, 80, 81, 82, 212, 216, 218, 219, 223, 225, 226, 228, 229, 233, 236] h h76) → (Cch h76) → (h76.2.2 60 12 = m) → To l E_X12_read (233, [(0, .inr (.inr 60)), (1, .inl m), (2, .inl (1200 * m)), (3, .inl ((1200 * m) + x10)), (4, .inl y58)], [], h76, 0, 0) (Q_X12_read h m) := by
            intro h76 Ih76 fh76 c77 c78
            obtain ⟨x80, ex80⟩ : ∃ y : Int, h76.2.2 60 12 = y := ⟨_, rfl⟩
            have rx80 := Ih76.atR (a := 60) (j := 12) rfl
            rw [ex80] at rx80
            refine to_aload_n (dat dk_X12_read 135 rfl) rfl ?_
            obtain ⟨x81, ex81⟩ : ∃ y : Int, h76.2.2 60 19 = y := ⟨_, rfl⟩
            have rx81 := Ih76.atR (a := 60) (j := 19) rfl
            rw [ex81] at rx81
            refine to_getIv (y := x81) ex81 g_c13_336 (dat dk_X12_read 136 rfl) (Ih76.atS rfl) ?_
            refine to_ifne 256 (dat dk_X12_read 137 rfl) rfl (by omega) (fun c82 => ?_) (fun c82 => ?_)
            · skip
              exact to_vret rfl (dat dk_X12_read 147 rfl) (rv_mk ⟨Ih76, fh76, c77, (show h76.2.2 60 12 = m by omega)⟩)
            · skip
              refine to_aload_n (dat dk_X12_read 138 rfl) rfl (to_iload_n (dat dk_X12_read 139 rfl) rfl (to_iload_n (dat dk_X12_read 140 rfl) rfl (to_bipush (dat dk_X12_read 141 rfl) (by decide) ?_)))
              refine to_cI ca_c13_254 (dat dk_X12_read 142 rfl) (ct_X12_field l h76 Ih76 (1200 * m) (by omega) ((1200 * m) + x10) (by omega) 8 (by decide) (show 0 ≤ (1200 * m) ∧ (1200 * m) ≤ ((1200 * m) + x10) by omega) (show ((1200 * m) + x10) ≤ 240000 by omega) (show ((1200 * m) + x10) - (1200 * m) ≤ 1200 by omega) (show 0 ≤ (8 : Int) ∧ (8 : Int) ≤ 8 by omega)) rfl ⟨_, _, rfl, (Ih76.atS rfl)⟩ rfl (fun x83 h84 rx83 p85 => ?_)
              obtain ⟨Ih84, fh84, zx83, p85_0, p85_1⟩ := p85
              have f86 : Fr [69, 70, 71, 72, 73, 74, 75, 76, 77, 78, 79, 80, 81, 82, 212, 216, 218, 219, 223, 225, 226, 228, 229, 233, 236] h h84 := Fr.sub fh76 fh84 rfl
              have t87 : Cch h84 := Cch_fr fh84 Ih76 rfl c77
              obtain ⟨x88, ex88⟩ : ∃ y : Int, h84.2.2 60 26 = y := ⟨_, rfl⟩
              have rx88 := Ih84.atR (a := 60) (j := 26) rfl
              rw [ex88] at rx88
              obtain ⟨x89, ex89⟩ : ∃ y : Int, h84.2.2 60 23 = y := ⟨_, rfl⟩
              have rx89 := Ih84.atR (a := 60) (j := 23) rfl
              rw [ex89] at rx89
              refine to_ifeq 256 (dat dk_X12_read 143 rfl) rfl rx83 (fun c90 => ?_) (fun c90 => ?_)
              · skip
                have e91 : h84.2.2 60 12 = x80 := ((Fr.get fh84 (by have := Ih76.1.1; omega) rfl).trans ex80)
                exact to_vret rfl (dat dk_X12_read 147 rfl) (rv_mk ⟨Ih84, f86, t87, (show h84.2.2 60 12 = m by omega)⟩)
              · skip
                refine to_aload_n (dat dk_X12_read 144 rfl) rfl (to_iconst (dat dk_X12_read 145 rfl) ?_)
                refine to_cV ca_c13_367 (dat dk_X12_read 146 rfl) (ct_X12_readReferences l h84 Ih84 1 (by decide) (show 0 ≤ (1 : Int) ∧ (1 : Int) ≤ 16 by omega)) rfl ⟨_, _, rfl, (Ih84.atS rfl)⟩ rfl (fun h93 p94 => ?_)
                obtain ⟨Ih93, fh93⟩ := p94
                have f95 : Fr [69, 70, 71, 72, 73, 74, 75, 76, 77, 78, 79, 80, 81, 82, 212, 216, 218, 219, 223, 225, 226, 228, 229, 233, 236] h h93 := Fr.sub f86 fh93 rfl
                have t96 : Cch h93 := Cch_fr fh93 Ih84 rfl t87
                have e97 : h93.2.2 60 12 = x80 := ((Fr.get fh93 (by have := Ih84.1.1; omega) rfl).trans ((Fr.get fh84 (by have := Ih76.1.1; omega) rfl).trans ex80))
                exact to_vret rfl (dat dk_X12_read 147 rfl) (rv_mk ⟨Ih93, f95, t96, (show h93.2.2 60 12 = m by omega)⟩)
          refine to_aload_n (dat dk_X12_read 126 rfl) rfl (to_iload_n (dat dk_X12_read 127 rfl) rfl (to_iload_n (dat dk_X12_read 128 rfl) rfl (to_bipush (dat dk_X12_read 129 rfl) (by decide) ?_)))
          refine to_cI ca_c13_254 (dat dk_X12_read 130 rfl) (ct_X12_field l h74 I72 (1200 * m) (by omega) ((1200 * m) + x10) (by omega) 7 (by decide) (show 0 ≤ (1200 * m) ∧ (1200 * m) ≤ ((1200 * m) + x10) by omega) (show ((1200 * m) + x10) ≤ 240000 by omega) (show ((1200 * m) + x10) - (1200 * m) ≤ 1200 by omega) (show 0 ≤ (7 : Int) ∧ (7 : Int) ≤ 8 by omega)) rfl ⟨_, _, rfl, (I72.atS rfl)⟩ rfl (fun x98 h99 rx98 p100 => ?_)
          obtain ⟨Ih99, fh99, zx98, p100_0, p100_1⟩ := p100
          have f101 : Fr [69, 70, 71, 72, 73, 74, 75, 76, 77, 78, 79, 80, 81, 82, 212, 216, 218, 219, 223, 225, 226, 228, 229, 233, 236] h h99 := Fr.sub f73 fh99 rfl
          have t102 : Cch h99 := Cch_fr fh99 I72 rfl t75
          obtain ⟨x103, ex103⟩ : ∃ y : Int, h99.2.2 60 26 = y := ⟨_, rfl⟩
          have rx103 := Ih99.atR (a := 60) (j := 26) rfl
          rw [ex103] at rx103
          obtain ⟨x104, ex104⟩ : ∃ y : Int, h99.2.2 60 23 = y := ⟨_, rfl⟩
          have rx104 := Ih99.atR (a := 60) (j := 23) rfl
          rw [ex104] at rx104
          refine to_ifeq 233 (dat dk_X12_read 131 rfl) rfl rx98 (fun c105 => ?_) (fun c105 => ?_)
          · skip
            have e106 : h99.2.2 60 12 = x71 := ((Fr.get fh99 (by have := I72.1.1; omega) rfl).trans (by rw [wh74]; exact ex71))
            exact jn233_n79 h99 Ih99 f101 t102 (show h99.2.2 60 12 = m by omega)
          · skip
            refine to_aload_n (dat dk_X12_read 132 rfl) rfl (to_bipush (dat dk_X12_read 133 rfl) (by decide) ?_)
            refine to_cV ca_c13_367 (dat dk_X12_read 134 rfl) (ct_X12_readReferences l h99 Ih99 16 (by decide) (show 0 ≤ (16 : Int) ∧ (16 : Int) ≤ 16 by omega)) rfl ⟨_, _, rfl, (Ih99.atS rfl)⟩ rfl (fun h108 p109 => ?_)
            obtain ⟨Ih108, fh108⟩ := p109
            have f110 : Fr [69, 70, 71, 72, 73, 74, 75, 76, 77, 78, 79, 80, 81, 82, 212, 216, 218, 219, 223, 225, 226, 228, 229, 233, 236] h h108 := Fr.sub f101 fh108 rfl
            have t111 : Cch h108 := Cch_fr fh108 Ih99 rfl t102
            have e112 : h108.2.2 60 12 = x71 := ((Fr.get fh108 (by have := Ih99.1.1; omega) rfl).trans ((Fr.get fh99 (by have := I72.1.1; omega) rfl).trans (by rw [wh74]; exact ex71)))
            exact jn233_n79 h108 Ih108 f110 t111 (show h108.2.2 60 12 = m by omega)
        refine to_iload (dat dk_X12_read 84 rfl) rfl (to_iconst (dat dk_X12_read 85 rfl) ?_)
        refine to_ieq 211 (dat dk_X12_read 86 rfl) rfl ry58 (by decide) (fun c113 => ?_) (fun c113 => ?_)
        · skip
          exact jn211_n70 h59 Ih59 fh59 c60 (show h59.2.2 60 12 = m by omega)
        · skip
          refine to_aload_n (dat dk_X12_read 87 rfl) rfl (to_iload (dat dk_X12_read 88 rfl) rfl (to_iconst (dat dk_X12_read 89 rfl) (to_iadd (dat dk_X12_read 90 rfl) (to_aload_n (dat dk_X12_read 91 rfl) rfl (to_getIv (y := x65) ex65 g_c13_308 (dat dk_X12_read 92 rfl) (Ih59.atS rfl) ?_)))))
          refine to_cI ca_c13_342 (dat dk_X12_read 93 rfl) (ct_X12_isId l h59 Ih59 (y58 + 1) (by omega) x65 (by omega) (show 0 ≤ (y58 + 1) ∧ (y58 + 1) ≤ 1300 by omega) (show 0 ≤ x65 ∧ x65 ≤ 1300 by omega)) rfl ⟨_, _, rfl, (Ih59.atS rfl)⟩ rfl (fun x114 h115 rx114 p116 => ?_)
          obtain ⟨rfl, zx114, p116_0⟩ := p116
          refine to_ifeq 211 (dat dk_X12_read 94 rfl) rfl rx114 (fun c117 => ?_) (fun c117 => ?_)
          · skip
            exact jn211_n70 h59 Ih59 fh59 c60 (show h59.2.2 60 12 = m by omega)
          · skip
            refine to_aload_n (dat dk_X12_read 95 rfl) rfl (to_aload_n (dat dk_X12_read 96 rfl) rfl (to_getIv (y := x65) ex65 g_c13_308 (dat dk_X12_read 97 rfl) (Ih59.atS rfl) (to_iload (dat dk_X12_read 98 rfl) rfl (to_isub (dat dk_X12_read 99 rfl) (to_iconst (dat dk_X12_read 100 rfl) (to_isub (dat dk_X12_read 101 rfl) (to_putIw p_c13_364 (dat dk_X12_read 102 rfl) (Ih59.atS rfl) ?_)))))))
            intro h120 wh120
            have I118 : Inv h120 := by rw [wh120]; exact Ih59.put (a := 60) (j := 18) (x := ((x65 - y58) - 1)) (0) (60) rfl rfl (show (0 : Int) ≤ ((x65 - y58) - 1) ∧ ((x65 - y58) - 1) ≤ 60 by omega)
            have f119 : Fr [69, 70, 71, 72, 73, 74, 75, 76, 77, 78, 79, 80, 81, 82, 212, 216, 218, 219, 223, 225, 226, 228, 229, 233, 236] h h120 := by rw [wh120]; exact Fr.putF (a := 60) (j := 18) (x := ((x65 - y58) - 1)) fh59 rfl
            have t121 : Cch h120 := by rw [wh120]; exact Cch_wr rfl c60
            refine to_iconst (dat dk_X12_read 103 rfl) (to_istore (L' := [(0, .inr (.inr 60)), (1, .inl m), (2, .inl (1200 * m)), (3, .inl ((1200 * m) + x10)), (4, .inl y58), (5, .inl 0)]) (dat dk_X12_read 104 rfl) (by decide) rfl ?_)
            have e125 : h120.2.2 60 18 = ((x65 - y58) - 1) := (by rw [wh120]; exact wr_eq)
            have e126 : h120.2.2 60 36 = x65 := (by rw [wh120]; exact ex65)
            have e128 : h120.2.2 60 23 = x66 := (by rw [wh120]; exact ex66)
            have e131 : h120.2.2 60 12 = x64 := (by rw [wh120]; exact ex64)
            have lp177_n133 : ∀ (n133 : Nat) (y122 : Int) (h123 : Hp), (I32 y122) → (Inv h123) → (Fr [69, 70, 71, 72, 73, 74, 75, 76, 77, 78, 79, 80, 81, 82, 212, 216, 218, 219, 223, 225, 226, 228, 229, 233, 236] h h123) → (0 ≤ y122) → (h123.2.2 60 18 = h123.2.2 60 36 - y58 - 1) → (h123.2.2 60 36 < h123.2.2 60 23) → (Cch h123) → (h123.2.2 60 12 = m) → (h123.2.2 60 18 - y122 ≤ (n133 : Int)) → To l E_X12_read (177, [(0, .inr (.inr 60)), (1, .inl m), (2, .inl (1200 * m)), (3, .inl ((1200 * m) + x10)), (4, .inl y58), (5, .inl y122)], [], h123, 0, 0) (Q_X12_read h m) := by
              intro n133
              induction n133 using Nat.strongRecOn with
              | _ n133 ihn133 =>
              intro y122 h123 ry122 Ih123 fh123 c124 c127 c129 c130 c132 c134
              obtain ⟨x135, ex135⟩ : ∃ y : Int, h123.2.2 60 18 = y := ⟨_, rfl⟩
              have rx135 := Ih123.atR (a := 60) (j := 18) rfl
              rw [ex135] at rx135
              obtain ⟨x136, ex136⟩ : ∃ y : Int, h123.2.2 60 36 = y := ⟨_, rfl⟩
              have rx136 := Ih123.atR (a := 60) (j := 36) rfl
              rw [ex136] at rx136
              obtain ⟨x137, ex137⟩ : ∃ y : Int, h123.2.2 60 23 = y := ⟨_, rfl⟩
              have rx137 := Ih123.atR (a := 60) (j := 23) rfl
              rw [ex137] at rx137
              obtain ⟨x138, ex138⟩ : ∃ y : Int, h123.2.2 60 12 = y := ⟨_, rfl⟩
              have rx138 := Ih123.atR (a := 60) (j := 12) rfl
              rw [ex138] at rx138
              refine to_iload (dat dk_X12_read 105 rfl) rfl (to_aload_n (dat dk_X12_read 106 rfl) rfl (to_getIv (y := x135) ex135 g_c13_364 (dat dk_X12_read 107 rfl) (Ih123.atS rfl) ?_))
              refine to_ige 211 (dat dk_X12_read 108 rfl) rfl ry122 (by omega) (fun c139 => ?_) (fun c139 => ?_)
              · skip
                refine to_pick [0, 1, 2, 3, 4] rfl ?_
                exact jn211_n70 h123 Ih123 fh123 c130 (show h123.2.2 60 12 = m by omega)
              · skip
                refine to_aload_n (dat dk_X12_read 109 rfl) rfl (to_getR 72 g_c13_51 (dat dk_X12_read 110 rfl) (Ih123.atS rfl) (Ih123.atE rfl) (to_iload (dat dk_X12_read 111 rfl) rfl (to_aload_n (dat dk_X12_read 112 rfl) rfl (to_getR 75 g_c13_60 (dat dk_X12_read 113 rfl) (Ih123.atS rfl) (Ih123.atE rfl) (to_iload (dat dk_X12_read 114 rfl) rfl (to_iconst (dat dk_X12_read 115 rfl) (to_iadd (dat dk_X12_read 116 rfl) (to_iload (dat dk_X12_read 117 rfl) rfl (to_iadd (dat dk_X12_read 118 rfl) ?_)))))))))
                obtain ⟨x140, ex140⟩ : ∃ y : Int, h123.2.2 75 (Int.toNat ((y58 + 1) + y122)) = y := ⟨_, rfl⟩
                have rx140 := Ih123.atR (a := 75) (j := Int.toNat ((y58 + 1) + y122)) rfl
                rw [ex140] at rx140
                refine to_baldv (q := 1) ex140 (dat dk_X12_read 119 rfl) (by decide) (Ih123.atS rfl) rfl (by decide) (by omega) (to_bastw (dat dk_X12_read 120 rfl) (Ih123.atS rfl) rfl (by decide) (by omega) ?_)
                intro h143 wh143
                have I141 : Inv h143 := by rw [wh143]; exact Ih123.put (a := 72) (j := (Int.toNat y122)) (x := (b8 x140)) (-128) (127) rfl rfl (show (-128 : Int) ≤ (b8 x140) ∧ (b8 x140) ≤ 127 by have := b8_in x140; omega)
                have f142 : Fr [69, 70, 71, 72, 73, 74, 75, 76, 77, 78, 79, 80, 81, 82, 212, 216, 218, 219, 223, 225, 226, 228, 229, 233, 236] h h143 := by rw [wh143]; exact Fr.putF (a := 72) (j := (Int.toNat y122)) (x := (b8 x140)) fh123 rfl
                have t144 : Cch h143 := by rw [wh143]; exact Cch_wr rfl c130
                refine to_iinc (L' := [(0, .inr (.inr 60)), (1, .inl m), (2, .inl (1200 * m)), (3, .inl ((1200 * m) + x10)), (4, .inl y58), (5, .inl (y122 + 1))]) (dat dk_X12_read 121 rfl) rfl (by decide) rfl (to_goto (dat dk_X12_read 122 rfl) rfl ?_)
                have e145 : h143.2.2 60 18 = x135 := (by rw [wh143]; exact ex135)
                have e146 : h143.2.2 60 36 = x136 := (by rw [wh143]; exact ex136)
                have e147 : h143.2.2 60 23 = x137 := (by rw [wh143]; exact ex137)
                have e148 : h143.2.2 60 12 = x138 := (by rw [wh143]; exact ex138)
                exact ihn133 (n133 - 1) (by omega) (y122 + 1) h143 (by omega) I141 f142 (show 0 ≤ (y122 + 1) by omega) (show h143.2.2 60 18 = h143.2.2 60 36 - y58 - 1 by omega) (show h143.2.2 60 36 < h143.2.2 60 23 by omega) t144 (show h143.2.2 60 12 = m by omega) (show h143.2.2 60 18 - (y122 + 1) ≤ ((n133 - 1 : Nat) : Int) by omega)
            exact lp177_n133 (h120.2.2 60 18 - (0 : Int)).toNat 0 h120 (by decide) I118 f119 (show 0 ≤ (0 : Int) by omega) (show h120.2.2 60 18 = h120.2.2 60 36 - y58 - 1 by omega) (show h120.2.2 60 36 < h120.2.2 60 23 by omega) t121 (show h120.2.2 60 12 = m by omega) (by omega)
      refine to_aload_n (dat dk_X12_read 72 rfl) rfl (to_iload_n (dat dk_X12_read 73 rfl) rfl (to_iload_n (dat dk_X12_read 74 rfl) rfl (to_bipush (dat dk_X12_read 75 rfl) (by decide) ?_)))
      refine to_cI ca_c13_254 (dat dk_X12_read 76 rfl) (ct_X12_field l h56 I54 (1200 * m) (by omega) ((1200 * m) + x10) (by omega) 6 (by decide) (show 0 ≤ (1200 * m) ∧ (1200 * m) ≤ ((1200 * m) + x10) by omega) (show ((1200 * m) + x10) ≤ 240000 by omega) (show ((1200 * m) + x10) - (1200 * m) ≤ 1200 by omega) (show 0 ≤ (6 : Int) ∧ (6 : Int) ≤ 8 by omega)) rfl ⟨_, _, rfl, (I54.atS rfl)⟩ rfl (fun x149 h150 rx149 p151 => ?_)
      obtain ⟨Ih150, fh150, zx149, p151_0, p151_1⟩ := p151
      have f152 : Fr [69, 70, 71, 72, 73, 74, 75, 76, 77, 78, 79, 80, 81, 82, 212, 216, 218, 219, 223, 225, 226, 228, 229, 233, 236] h h150 := Fr.sub f55 fh150 rfl
      have t153 : Cch h150 := Cch_fr fh150 I54 rfl t57
      obtain ⟨x154, ex154⟩ : ∃ y : Int, h150.2.2 60 26 = y := ⟨_, rfl⟩
      have rx154 := Ih150.atR (a := 60) (j := 26) rfl
      rw [ex154] at rx154
      obtain ⟨x155, ex155⟩ : ∃ y : Int, h150.2.2 60 23 = y := ⟨_, rfl⟩
      have rx155 := Ih150.atR (a := 60) (j := 23) rfl
      rw [ex155] at rx155
      refine to_ifeq 137 (dat dk_X12_read 77 rfl) rfl rx149 (fun c156 => ?_) (fun c156 => ?_)
      · skip
        refine to_iconst (dat dk_X12_read 82 rfl) ?_
        have e157 : h150.2.2 60 12 = x49 := ((Fr.get fh150 (by have := I54.1.1; omega) rfl).trans (by rw [wh56]; exact (show h52.2.2 60 12 = x49 from (by rw [wh52]; exact ex49))))
        exact jn138_n63 (-1) h150 (by decide) Ih150 f152 t153 (show h150.2.2 60 12 = m by omega) (show (-1 : Int) = -1 ∨ (0 ≤ (-1 : Int) ∧ (-1 : Int) < h150.2.2 60 36 ∧ h150.2.2 60 36 < h150.2.2 60 23) by omega)
      · skip
        refine to_aload_n (dat dk_X12_read 78 rfl) rfl (to_iconst (dat dk_X12_read 79 rfl) ?_)
        refine to_cI ca_c13_339 (dat dk_X12_read 80 rfl) (ct_X12_angle l h150 Ih150 0 (by decide) (show 0 ≤ (0 : Int) ∧ (0 : Int) ≤ h150.2.2 60 23 by omega)) rfl ⟨_, _, rfl, (Ih150.atS rfl)⟩ rfl (fun x158 h159 rx158 p160 => ?_)
        obtain ⟨Ih159, fh159, p160_0, p160_1⟩ := p160
        have f161 : Fr [69, 70, 71, 72, 73, 74, 75, 76, 77, 78, 79, 80, 81, 82, 212, 216, 218, 219, 223, 225, 226, 228, 229, 233, 236] h h159 := Fr.sub f152 fh159 rfl
        have t162 : Cch h159 := Cch_fr fh159 Ih150 rfl t153
        obtain ⟨x163, ex163⟩ : ∃ y : Int, h159.2.2 60 36 = y := ⟨_, rfl⟩
        have rx163 := Ih159.atR (a := 60) (j := 36) rfl
        rw [ex163] at rx163
        have e164 : h159.2.2 60 23 = x155 := ((Fr.get fh159 (by have := Ih150.1.1; omega) rfl).trans ex155)
        refine to_goto (dat dk_X12_read 81 rfl) rfl ?_
        have e165 : h159.2.2 60 12 = x49 := ((Fr.get fh159 (by have := Ih150.1.1; omega) rfl).trans ((Fr.get fh150 (by have := I54.1.1; omega) rfl).trans (by rw [wh56]; exact (show h52.2.2 60 12 = x49 from (by rw [wh52]; exact ex49)))))
        exact jn138_n63 x158 h159 rx158 Ih159 f161 t162 (show h159.2.2 60 12 = m by omega) (show x158 = -1 ∨ (0 ≤ x158 ∧ x158 < h159.2.2 60 36 ∧ h159.2.2 60 36 < h159.2.2 60 23) by omega)
    refine to_aload_n (dat dk_X12_read 58 rfl) rfl (to_iload_n (dat dk_X12_read 59 rfl) rfl (to_iload_n (dat dk_X12_read 60 rfl) rfl (to_iconst (dat dk_X12_read 61 rfl) ?_)))
    refine to_cI ca_c13_254 (dat dk_X12_read 62 rfl) (ct_X12_field l h35 I33 (1200 * m) (by omega) ((1200 * m) + x10) (by omega) 0 (by decide) (show 0 ≤ (1200 * m) ∧ (1200 * m) ≤ ((1200 * m) + x10) by omega) (show ((1200 * m) + x10) ≤ 240000 by omega) (show ((1200 * m) + x10) - (1200 * m) ≤ 1200 by omega) (show 0 ≤ (0 : Int) ∧ (0 : Int) ≤ 8 by omega)) rfl ⟨_, _, rfl, (I33.atS rfl)⟩ rfl (fun x166 h167 rx166 p168 => ?_)
    obtain ⟨Ih167, fh167, zx166, p168_0, p168_1⟩ := p168
    have f169 : Fr [69, 70, 71, 72, 73, 74, 75, 76, 77, 78, 79, 80, 81, 82, 212, 216, 218, 219, 223, 225, 226, 228, 229, 233, 236] h h167 := Fr.sub f34 fh167 rfl
    have t170 : Cch h167 := Cch_fr fh167 I33 rfl k43
    obtain ⟨x171, ex171⟩ : ∃ y : Int, h167.2.2 60 26 = y := ⟨_, rfl⟩
    have rx171 := Ih167.atR (a := 60) (j := 26) rfl
    rw [ex171] at rx171
    obtain ⟨x172, ex172⟩ : ∃ y : Int, h167.2.2 60 23 = y := ⟨_, rfl⟩
    have rx172 := Ih167.atR (a := 60) (j := 23) rfl
    rw [ex172] at rx172
    refine to_ifeq 109 (dat dk_X12_read 63 rfl) rfl rx166 (fun c173 => ?_) (fun c173 => ?_)
    · skip
      refine to_lconst (v := 0) (dat dk_X12_read 67 rfl) rfl ?_
      have e174 : h167.2.2 60 12 = m := ((Fr.get fh167 (by have := I33.1.1; omega) rfl).trans e40)
      exact jn110_n48 0 h167 Ih167 f169 t170 (show h167.2.2 60 12 = m by omega)
    · skip
      refine to_aload_n (dat dk_X12_read 64 rfl) rfl ?_
      refine to_cL ca_c13_356 (dat dk_X12_read 65 rfl) (ct_X12_dateOf l h167 Ih167 ) rfl ⟨_, _, rfl, (Ih167.atS rfl)⟩ rfl (fun x175 h176 p177 => ?_)
      obtain ⟨Ih176, fh176⟩ := p177
      have f178 : Fr [69, 70, 71, 72, 73, 74, 75, 76, 77, 78, 79, 80, 81, 82, 212, 216, 218, 219, 223, 225, 226, 228, 229, 233, 236] h h176 := Fr.sub f169 fh176 rfl
      have t179 : Cch h176 := Cch_fr fh176 Ih167 rfl t170
      refine to_goto (dat dk_X12_read 66 rfl) rfl ?_
      have e180 : h176.2.2 60 12 = m := ((Fr.get fh176 (by have := Ih167.1.1; omega) rfl).trans ((Fr.get fh167 (by have := I33.1.1; omega) rfl).trans e40))
      exact jn110_n48 x175 h176 Ih176 f178 t179 (show h176.2.2 60 12 = m by omega)
  · skip
    exact to_vret rfl (dat dk_X12_read 4 rfl) (rv_mk ⟨hI, (Fr.rf _ _), g0, (show h.2.2 60 12 = m by omega)⟩)
abbrev Q_X12_node_vb (h : Hp) (a : Nat) (f : Int) (n : Int) : Option V → Hp → Nat → Nat → Prop := RI (fun x H => Inv H ∧ Fr [83, 84, 85, 86, 237] h H ∧ (0 ≤ x ∧ x < H.2.2 60 37) ∧ (h.2.2 60 37 ≤ H.2.2 60 37 ∧ H.2.2 60 37 ≤ h.2.2 60 37 + 1) ∧ (NodeP h H x))
set_option maxRecDepth 100000 in
theorem ct_X12_node_vb (l : Launch) (h : Hp) (hI : Inv h) (a : Nat) (na : Nat) (ha : isA a na = true) (f : Int) (hf : I32 f) (n : Int) (hn : I32 n) (g0 : 0 ≤ f) (g1 : 0 ≤ n ∧ n ≤ 60) (g2 : f + n ≤ (na : Int)) (g3 : h.2.2 60 37 ≤ 1199) : Ct l D_X12_node 0 0 [.inr (.inr 60), .inr (.inr a), .inl f, .inl n] h (Q_X12_node_vb h a f n) := by
  refine ct_of pn_X12_node (Nat.le_of_ble_eq_true rfl) ?_
  show To l E_X12_node (0, [(0, .inr (.inr 60)), (1, .inr (.inr a)), (2, .inl f), (3, .inl n)], [], h, 0, 0) _
  have la := isA_le ha
  obtain ⟨x1, ex1⟩ : ∃ y : Int, h.2.2 60 37 = y := ⟨_, rfl⟩
  have rx1 := hI.atR (a := 60) (j := 37) rfl
  rw [ex1] at rx1
  refine to_iconst (dat dk_X12_node 0 rfl) (to_istore (L' := [(0, .inr (.inr 60)), (1, .inr (.inr a)), (2, .inl f), (3, .inl n), (4, .inl 0)]) (dat dk_X12_node 1 rfl) (by decide) rfl ?_)
  have lp3_n4 : ∀ (n4 : Nat) (y2 : Int), (I32 y2) → (0 ≤ y2) → (h.2.2 60 37 - y2 ≤ (n4 : Int)) → To l E_X12_node (3, [(0, .inr (.inr 60)), (1, .inr (.inr a)), (2, .inl f), (3, .inl n), (4, .inl y2)], [], h, 0, 0) (Q_X12_node_vb h a f n) := by
    intro n4
    induction n4 using Nat.strongRecOn with
    | _ n4 ihn4 =>
    intro y2 ry2 c3 c5
    refine to_iload (dat dk_X12_node 2 rfl) rfl (to_aload_n (dat dk_X12_node 3 rfl) rfl (to_getIv (y := x1) ex1 g_c13_370 (dat dk_X12_node 4 rfl) (hI.atS rfl) ?_))
    refine to_ige 97 (dat dk_X12_node 5 rfl) rfl ry2 (by omega) (fun c6 => ?_) (fun c6 => ?_)
    · skip
      refine to_iconst (dat dk_X12_node 51 rfl) (to_istore (L' := [(0, .inr (.inr 60)), (1, .inr (.inr a)), (2, .inl f), (3, .inl n), (4, .inl 0)]) (dat dk_X12_node 52 rfl) (by decide) rfl ?_)
      have lp100_n12 : ∀ (n12 : Nat) (y7 : Int) (h8 : Hp), (I32 y7) → (Inv h8) → (Fr [83, 84, 85, 86, 237] h h8) → (0 ≤ y7) → (h8.2.2 60 37 = h.2.2 60 37) → (h8.2.2 85 = h.2.2 85 ∧ h8.2.2 86 = h.2.2 86) → (n - y7 ≤ (n12 : Int)) → To l E_X12_node (100, [(0, .inr (.inr 60)), (1, .inr (.inr a)), (2, .inl f), (3, .inl n), (4, .inl y7)], [], h8, 0, 0) (Q_X12_node_vb h a f n) := by
        intro n12
        induction n12 using Nat.strongRecOn with
        | _ n12 ihn12 =>
        intro y7 h8 ry7 Ih8 fh8 c9 c10 c11 c13
        obtain ⟨x14, ex14⟩ : ∃ y : Int, h8.2.2 60 37 = y := ⟨_, rfl⟩
        have rx14 := Ih8.atR (a := 60) (j := 37) rfl
        rw [ex14] at rx14
        refine to_iload (dat dk_X12_node 53 rfl) rfl (to_iload_n (dat dk_X12_node 54 rfl) rfl ?_)
        refine to_ige 133 (dat dk_X12_node 55 rfl) rfl ry7 hn (fun c15 => ?_) (fun c15 => ?_)
        · skip
          refine to_aload_n (dat dk_X12_node 72 rfl) rfl (to_getR 84 g_c13_88 (dat dk_X12_node 73 rfl) (Ih8.atS rfl) (Ih8.atE rfl) (to_aload_n (dat dk_X12_node 74 rfl) rfl (to_getIv (y := x14) ex14 g_c13_370 (dat dk_X12_node 75 rfl) (Ih8.atS rfl) (to_iload_n (dat dk_X12_node 76 rfl) rfl (to_iastw (dat dk_X12_node 77 rfl) (Ih8.atS rfl) rfl (by decide) (by omega) ?_)))))
          intro h18 wh18
          have I16 : Inv h18 := by rw [wh18]; exact Ih8.put (a := 84) (j := (Int.toNat x14)) (x := n) (0) (60) rfl rfl (show (0 : Int) ≤ n ∧ n ≤ 60 by omega)
          have f17 : Fr [83, 84, 85, 86, 237] h h18 := by rw [wh18]; exact Fr.putF (a := 84) (j := (Int.toNat x14)) (x := n) fh8 rfl
          refine to_aload_n (dat dk_X12_node 78 rfl) rfl (to_getR 85 g_c13_91 (dat dk_X12_node 79 rfl) (I16.atS rfl) (I16.atE rfl) (to_aload_n (dat dk_X12_node 80 rfl) rfl (to_getIv (y := x14) (by rw [wh18]; exact ex14) g_c13_370 (dat dk_X12_node 81 rfl) (I16.atS rfl) (to_iconst (dat dk_X12_node 82 rfl) (to_iastw (dat dk_X12_node 83 rfl) (I16.atS rfl) rfl (by decide) (by omega) ?_)))))
          intro h21 wh21
          have I19 : Inv h21 := by rw [wh21]; exact I16.put (a := 85) (j := (Int.toNat x14)) (x := (-1)) (-1) (1199) rfl rfl (show (-1 : Int) ≤ (-1) ∧ (-1) ≤ 1199 by decide)
          have f20 : Fr [83, 84, 85, 86, 237] h h21 := by rw [wh21]; exact Fr.putF (a := 85) (j := (Int.toNat x14)) (x := (-1)) f17 rfl
          refine to_aload_n (dat dk_X12_node 84 rfl) rfl (to_getR 86 g_c13_94 (dat dk_X12_node 85 rfl) (I19.atS rfl) (I19.atE rfl) (to_aload_n (dat dk_X12_node 86 rfl) rfl (to_getIv (y := x14) (by rw [wh21]; exact (show h18.2.2 60 37 = x14 from (by rw [wh18]; exact ex14))) g_c13_370 (dat dk_X12_node 87 rfl) (I19.atS rfl) (to_iconst (dat dk_X12_node 88 rfl) (to_iastw (dat dk_X12_node 89 rfl) (I19.atS rfl) rfl (by decide) (by omega) ?_)))))
          intro h24 wh24
          have I22 : Inv h24 := by rw [wh24]; exact I19.put (a := 86) (j := (Int.toNat x14)) (x := (-1)) (-1) (199) rfl rfl (show (-1 : Int) ≤ (-1) ∧ (-1) ≤ 199 by decide)
          have f23 : Fr [83, 84, 85, 86, 237] h h24 := by rw [wh24]; exact Fr.putF (a := 86) (j := (Int.toNat x14)) (x := (-1)) f20 rfl
          refine to_aload_n (dat dk_X12_node 90 rfl) rfl (to_dup (dat dk_X12_node 91 rfl) rfl (to_getIv (y := x14) (by rw [wh24]; exact (show h21.2.2 60 37 = x14 from (by rw [wh21]; exact (show h18.2.2 60 37 = x14 from (by rw [wh18]; exact ex14))))) g_c13_370 (dat dk_X12_node 92 rfl) (I22.atS rfl) (to_iconst (dat dk_X12_node 93 rfl) (to_iadd (dat dk_X12_node 94 rfl) (to_putIw p_c13_370 (dat dk_X12_node 95 rfl) (I22.atS rfl) ?_)))))
          intro h27 wh27
          have I25 : Inv h27 := by rw [wh27]; exact I22.put (a := 60) (j := 37) (x := (x14 + 1)) (0) (1200) rfl rfl (show (0 : Int) ≤ (x14 + 1) ∧ (x14 + 1) ≤ 1200 by omega)
          have f26 : Fr [83, 84, 85, 86, 237] h h27 := by rw [wh27]; exact Fr.putF (a := 60) (j := 37) (x := (x14 + 1)) f23 rfl
          refine to_aload_n (dat dk_X12_node 96 rfl) rfl (to_getIv (y := (x14 + 1)) (by rw [wh27]; exact wr_eq) g_c13_370 (dat dk_X12_node 97 rfl) (I25.atS rfl) (to_iconst (dat dk_X12_node 98 rfl) (to_isub (dat dk_X12_node 99 rfl) ?_)))
          have e28 : h27.2.2 60 37 = (x14 + 1) := (by rw [wh27]; exact wr_eq)
          exact to_iret rfl (dat dk_X12_node 100 rfl) (ri_mk (by omega) ⟨I25, f26, (show 0 ≤ ((x14 + 1) - 1) ∧ ((x14 + 1) - 1) < h27.2.2 60 37 by omega), (show h.2.2 60 37 ≤ h27.2.2 60 37 ∧ h27.2.2 60 37 ≤ h.2.2 60 37 + 1 by omega), (NodeP.mk wh18 wh21 wh24 wh27 ex14 c11.1 c11.2 ex1 (by omega))⟩)
        · skip
          refine to_aload_n (dat dk_X12_node 56 rfl) rfl (to_getR 83 g_c13_85 (dat dk_X12_node 57 rfl) (Ih8.atS rfl) (Ih8.atE rfl) (to_bipush (dat dk_X12_node 58 rfl) (by decide) (to_aload_n (dat dk_X12_node 59 rfl) rfl (to_getIv (y := x14) ex14 g_c13_370 (dat dk_X12_node 60 rfl) (Ih8.atS rfl) (to_imul (dat dk_X12_node 61 rfl) (to_iload (dat dk_X12_node 62 rfl) rfl (to_iadd (dat dk_X12_node 63 rfl) (to_aload_np (dat dk_X12_node 64 rfl) (Ih8.posN (Ih8.aT ha)) rfl (to_iload_n (dat dk_X12_node 65 rfl) rfl (to_iload (dat dk_X12_node 66 rfl) rfl (to_iadd (dat dk_X12_node 67 rfl) ?_)))))))))))
          obtain ⟨x29, ex29⟩ : ∃ y : Int, h8.2.2 a (Int.toNat (f + y7)) = y := ⟨_, rfl⟩
          have rx29 := Ih8.aC (j := Int.toNat (f + y7)) ha
          rw [ex29] at rx29
          refine to_baldv (q := 1) ex29 (dat dk_X12_node 68 rfl) (by decide) (Ih8.aT ha) rfl (isA_n ha) (by omega) (to_bastw (dat dk_X12_node 69 rfl) (Ih8.atS rfl) rfl (by decide) (by omega) ?_)
          intro h32 wh32
          have I30 : Inv h32 := by rw [wh32]; exact Ih8.put (a := 83) (j := (Int.toNat ((60 * x14) + y7))) (x := (b8 x29)) (-128) (127) rfl rfl (show (-128 : Int) ≤ (b8 x29) ∧ (b8 x29) ≤ 127 by have := b8_in x29; omega)
          have f31 : Fr [83, 84, 85, 86, 237] h h32 := by rw [wh32]; exact Fr.putF (a := 83) (j := (Int.toNat ((60 * x14) + y7))) (x := (b8 x29)) fh8 rfl
          refine to_iinc (L' := [(0, .inr (.inr 60)), (1, .inr (.inr a)), (2, .inl f), (3, .inl n), (4, .inl (y7 + 1))]) (dat dk_X12_node 70 rfl) rfl (by decide) rfl (to_goto (dat dk_X12_node 71 rfl) rfl ?_)
          have e33 : h32.2.2 60 37 = x14 := (by rw [wh32]; exact ex14)
          exact ihn12 (n12 - 1) (by omega) (y7 + 1) h32 (by omega) I30 f31 (show 0 ≤ (y7 + 1) by omega) (show h32.2.2 60 37 = h.2.2 60 37 by omega) ⟨by rw [wh32]; exact (funext fun i => wr_ne (by decide)).trans c11.1, by rw [wh32]; exact (funext fun i => wr_ne (by decide)).trans c11.2⟩ (show n - (y7 + 1) ≤ ((n12 - 1 : Nat) : Int) by omega)
      exact lp100_n12 (n - (0 : Int)).toNat 0 h (by decide) hI (Fr.rf _ _) (show 0 ≤ (0 : Int) by omega) (show h.2.2 60 37 = h.2.2 60 37 by omega) ⟨rfl, rfl⟩ (by omega)
    · skip
      have jn32_n35 : ∀ (y34 : Int), (y34 = 0 ∨ y34 = 1) → To l E_X12_node (32, [(0, .inr (.inr 60)), (1, .inr (.inr a)), (2, .inl f), (3, .inl n), (4, .inl y2)], [.inl y34], h, 0, 0) (Q_X12_node_vb h a f n) := by
        intro y34 ry34
        refine to_istore (L' := [(0, .inr (.inr 60)), (1, .inr (.inr a)), (2, .inl f), (3, .inl n), (4, .inl y2), (5, .inl y34)]) (dat dk_X12_node 17 rfl) (by decide) rfl (to_iconst (dat dk_X12_node 18 rfl) (to_istore (L' := [(0, .inr (.inr 60)), (1, .inr (.inr a)), (2, .inl f), (3, .inl n), (4, .inl y2), (5, .inl y34), (6, .inl 0)]) (dat dk_X12_node 19 rfl) (by decide) rfl ?_))
        have lp37_n39 : ∀ (n39 : Nat) (y36 : Int) (y37 : Int), (y36 = 0 ∨ y36 = 1) → (I32 y37) → (0 ≤ y37) → (n - y37 ≤ (n39 : Int)) → To l E_X12_node (37, [(0, .inr (.inr 60)), (1, .inr (.inr a)), (2, .inl f), (3, .inl n), (4, .inl y2), (5, .inl y36), (6, .inl y37)], [], h, 0, 0) (Q_X12_node_vb h a f n) := by
          intro n39
          induction n39 using Nat.strongRecOn with
          | _ n39 ihn39 =>
          intro y36 y37 ry36 ry37 c38 c40
          refine to_iload (dat dk_X12_node 20 rfl) rfl (to_iload_n (dat dk_X12_node 21 rfl) rfl ?_)
          refine to_ige 83 (dat dk_X12_node 22 rfl) rfl ry37 hn (fun c41 => ?_) (fun c41 => ?_)
          · skip
            refine to_iload (dat dk_X12_node 45 rfl) rfl ?_
            refine to_ifeq 91 (dat dk_X12_node 46 rfl) rfl (by omega) (fun c42 => ?_) (fun c42 => ?_)
            · skip
              refine to_iinc (L' := [(0, .inr (.inr 60)), (1, .inr (.inr a)), (2, .inl f), (3, .inl n), (4, .inl (y2 + 1)), (5, .inl y36), (6, .inl y37)]) (dat dk_X12_node 49 rfl) rfl (by decide) rfl (to_goto (dat dk_X12_node 50 rfl) rfl ?_)
              refine to_pick [0, 1, 2, 3, 4] rfl ?_
              exact ihn4 (n4 - 1) (by omega) (y2 + 1) (by omega) (show 0 ≤ (y2 + 1) by omega) (show h.2.2 60 37 - (y2 + 1) ≤ ((n4 - 1 : Nat) : Int) by omega)
            · skip
              refine to_iload (dat dk_X12_node 47 rfl) rfl ?_
              exact to_iret rfl (dat dk_X12_node 48 rfl) (ri_mk ry2 ⟨hI, (Fr.rf _ _), (show 0 ≤ y2 ∧ y2 < h.2.2 60 37 by omega), (show h.2.2 60 37 ≤ h.2.2 60 37 ∧ h.2.2 60 37 ≤ h.2.2 60 37 + 1 by omega), (Or.inl ⟨rfl, rfl, rfl⟩)⟩)
          · skip
            refine to_iload (dat dk_X12_node 23 rfl) rfl ?_
            refine to_ifeq 83 (dat dk_X12_node 24 rfl) rfl (by omega) (fun c43 => ?_) (fun c43 => ?_)
            · skip
              refine to_iload (dat dk_X12_node 45 rfl) rfl ?_
              refine to_ifeq 91 (dat dk_X12_node 46 rfl) rfl (by omega) (fun c44 => ?_) (fun c44 => ?_)
              · skip
                refine to_iinc (L' := [(0, .inr (.inr 60)), (1, .inr (.inr a)), (2, .inl f), (3, .inl n), (4, .inl (y2 + 1)), (5, .inl y36), (6, .inl y37)]) (dat dk_X12_node 49 rfl) rfl (by decide) rfl (to_goto (dat dk_X12_node 50 rfl) rfl ?_)
                refine to_pick [0, 1, 2, 3, 4] rfl ?_
                exact ihn4 (n4 - 1) (by omega) (y2 + 1) (by omega) (show 0 ≤ (y2 + 1) by omega) (show h.2.2 60 37 - (y2 + 1) ≤ ((n4 - 1 : Nat) : Int) by omega)
              · skip
                refine to_iload (dat dk_X12_node 47 rfl) rfl ?_
                exact to_iret rfl (dat dk_X12_node 48 rfl) (ri_mk ry2 ⟨hI, (Fr.rf _ _), (show 0 ≤ y2 ∧ y2 < h.2.2 60 37 by omega), (show h.2.2 60 37 ≤ h.2.2 60 37 ∧ h.2.2 60 37 ≤ h.2.2 60 37 + 1 by omega), (Or.inl ⟨rfl, rfl, rfl⟩)⟩)
            · skip
              have jn75_n46 : ∀ (y45 : Int), (y45 = 0 ∨ y45 = 1) → To l E_X12_node (75, [(0, .inr (.inr 60)), (1, .inr (.inr a)), (2, .inl f), (3, .inl n), (4, .inl y2), (5, .inl y36), (6, .inl y37)], [.inl y45], h, 0, 0) (Q_X12_node_vb h a f n) := by
                intro y45 ry45
                refine to_istore (L' := [(0, .inr (.inr 60)), (1, .inr (.inr a)), (2, .inl f), (3, .inl n), (4, .inl y2), (5, .inl y45), (6, .inl y37)]) (dat dk_X12_node 42 rfl) (by decide) rfl (to_iinc (L' := [(0, .inr (.inr 60)), (1, .inr (.inr a)), (2, .inl f), (3, .inl n), (4, .inl y2), (5, .inl y45), (6, .inl (y37 + 1))]) (dat dk_X12_node 43 rfl) rfl (by decide) rfl (to_goto (dat dk_X12_node 44 rfl) rfl ?_))
                exact ihn39 (n39 - 1) (by omega) y45 (y37 + 1) (by omega) (by omega) (show 0 ≤ (y37 + 1) by omega) (show n - (y37 + 1) ≤ ((n39 - 1 : Nat) : Int) by omega)
              refine to_aload_n (dat dk_X12_node 25 rfl) rfl (to_getR 83 g_c13_85 (dat dk_X12_node 26 rfl) (hI.atS rfl) (hI.atE rfl) (to_bipush (dat dk_X12_node 27 rfl) (by decide) (to_iload (dat dk_X12_node 28 rfl) rfl (to_imul (dat dk_X12_node 29 rfl) (to_iload (dat dk_X12_node 30 rfl) rfl (to_iadd (dat dk_X12_node 31 rfl) ?_))))))
              obtain ⟨x47, ex47⟩ : ∃ y : Int, h.2.2 83 (Int.toNat ((60 * y2) + y37)) = y := ⟨_, rfl⟩
              have rx47 := hI.atR (a := 83) (j := Int.toNat ((60 * y2) + y37)) rfl
              rw [ex47] at rx47
              refine to_baldv (q := 1) ex47 (dat dk_X12_node 32 rfl) (by decide) (hI.atS rfl) rfl (by decide) (by omega) (to_aload_np (dat dk_X12_node 33 rfl) (hI.posN (hI.aT ha)) rfl (to_iload_n (dat dk_X12_node 34 rfl) rfl (to_iload (dat dk_X12_node 35 rfl) rfl (to_iadd (dat dk_X12_node 36 rfl) ?_))))
              obtain ⟨x48, ex48⟩ : ∃ y : Int, h.2.2 a (Int.toNat (f + y37)) = y := ⟨_, rfl⟩
              have rx48 := hI.aC (j := Int.toNat (f + y37)) ha
              rw [ex48] at rx48
              refine to_baldv (q := 1) ex48 (dat dk_X12_node 37 rfl) (by decide) (hI.aT ha) rfl (isA_n ha) (by omega) ?_
              refine to_ine 74 (dat dk_X12_node 38 rfl) rfl (by omega) (by omega) (fun c49 => ?_) (fun c49 => ?_)
              · skip
                refine to_iconst (dat dk_X12_node 41 rfl) ?_
                exact jn75_n46 0 (by decide)
              · skip
                refine to_iconst (dat dk_X12_node 39 rfl) (to_goto (dat dk_X12_node 40 rfl) rfl ?_)
                exact jn75_n46 1 (by decide)
        exact lp37_n39 (n - (0 : Int)).toNat y34 0 (by omega) (by decide) (show 0 ≤ (0 : Int) by omega) (by omega)
      refine to_iload_n (dat dk_X12_node 6 rfl) rfl ?_
      refine to_ifle 31 (dat dk_X12_node 7 rfl) rfl hn (fun c50 => ?_) (fun c50 => ?_)
      · skip
        refine to_iconst (dat dk_X12_node 16 rfl) ?_
        exact jn32_n35 0 (by decide)
      · skip
        refine to_aload_n (dat dk_X12_node 8 rfl) rfl (to_getR 84 g_c13_88 (dat dk_X12_node 9 rfl) (hI.atS rfl) (hI.atE rfl) (to_iload (dat dk_X12_node 10 rfl) rfl ?_))
        obtain ⟨x51, ex51⟩ : ∃ y : Int, h.2.2 84 (Int.toNat y2) = y := ⟨_, rfl⟩
        have rx51 := hI.atR (a := 84) (j := Int.toNat y2) rfl
        rw [ex51] at rx51
        refine to_ialdv ex51 (dat dk_X12_node 11 rfl) (hI.atS rfl) rfl (by decide) (by omega) (to_iload_n (dat dk_X12_node 12 rfl) rfl ?_)
        refine to_ine 31 (dat dk_X12_node 13 rfl) rfl (by omega) hn (fun c52 => ?_) (fun c52 => ?_)
        · skip
          refine to_iconst (dat dk_X12_node 16 rfl) ?_
          exact jn32_n35 0 (by decide)
        · skip
          refine to_iconst (dat dk_X12_node 14 rfl) (to_goto (dat dk_X12_node 15 rfl) rfl ?_)
          exact jn32_n35 1 (by decide)
  exact lp3_n4 (h.2.2 60 37 - (0 : Int)).toNat 0 (by decide) (show 0 ≤ (0 : Int) by omega) (by omega)
abbrev Q_X12_isUnder (h : Hp) (p : Int) (q : Int) : Option V → Hp → Nat → Nat → Prop := RI (fun x H => h = H ∧ (x = 0 ∨ x = 1) ∧ (x = 1 ∨ ¬ Abv H p q))
set_option maxRecDepth 100000 in
theorem ct_X12_isUnder (l : Launch) (h : Hp) (hI : Inv h) (p : Int) (hp : I32 p) (q : Int) (hq : I32 q) (g0 : Forest h) (g1 : -1 ≤ p ∧ p < h.2.2 60 37) (g2 : 0 ≤ q) : Ct l D_X12_isUnder 0 0 [.inr (.inr 60), .inl p, .inl q] h (Q_X12_isUnder h p q) := by
  refine ct_of pn_X12_isUnder (Nat.le_of_ble_eq_true rfl) ?_
  show To l E_X12_isUnder (0, [(0, .inr (.inr 60)), (1, .inl p), (2, .inl q)], [], h, 0, 0) _
  have z37 := hI.atR (a := 60) (j := 37) rfl
  refine to_iload_n (dat dk_X12_isUnder 0 rfl) rfl (to_istore_n (L' := [(0, .inr (.inr 60)), (1, .inl p), (2, .inl q), (3, .inl p)]) (dat dk_X12_isUnder 1 rfl) (by decide) rfl ?_)
  have lp2_n4 : ∀ (n4 : Nat) (y1 : Int), (I32 y1) → (Abv h p q → Abv h y1 q) → (y1 = -1 ∨ (0 ≤ y1 ∧ y1 < h.2.2 60 37)) → (rkM h y1 ≤ (n4 : Int)) → To l E_X12_isUnder (2, [(0, .inr (.inr 60)), (1, .inl p), (2, .inl q), (3, .inl y1)], [], h, 0, 0) (Q_X12_isUnder h p q) := by
    intro n4
    induction n4 using Nat.strongRecOn with
    | _ n4 ihn4 =>
    intro y1 ry1 c2 c3 c5
    refine to_iload_n (dat dk_X12_isUnder 2 rfl) rfl (to_iconst (dat dk_X12_isUnder 3 rfl) ?_)
    refine to_ieq 22 (dat dk_X12_isUnder 4 rfl) rfl ry1 (by decide) (fun c6 => ?_) (fun c6 => ?_)
    · skip
      refine to_iload_n (dat dk_X12_isUnder 14 rfl) rfl (to_iload_n (dat dk_X12_isUnder 15 rfl) rfl ?_)
      refine to_ine 31 (dat dk_X12_isUnder 16 rfl) rfl ry1 hq (fun c7 => ?_) (fun c7 => ?_)
      · skip
        refine to_iconst (dat dk_X12_isUnder 19 rfl) ?_
        exact to_zret rfl (dat dk_X12_isUnder 20 rfl) (by decide) (ri_mk (by decide) ⟨rfl, (by decide), (Or.inr (Abv.no c2 (by omega) (by omega) (by omega)))⟩)
      · skip
        refine to_iconst (dat dk_X12_isUnder 17 rfl) (to_goto (dat dk_X12_isUnder 18 rfl) rfl ?_)
        exact to_zret rfl (dat dk_X12_isUnder 20 rfl) (by decide) (ri_mk (by decide) ⟨rfl, (by decide), (Or.inl rfl)⟩)
    · skip
      refine to_iload_n (dat dk_X12_isUnder 5 rfl) rfl (to_iload_n (dat dk_X12_isUnder 6 rfl) rfl ?_)
      refine to_ieq 22 (dat dk_X12_isUnder 7 rfl) rfl ry1 hq (fun c8 => ?_) (fun c8 => ?_)
      · skip
        refine to_iload_n (dat dk_X12_isUnder 14 rfl) rfl (to_iload_n (dat dk_X12_isUnder 15 rfl) rfl ?_)
        refine to_ine 31 (dat dk_X12_isUnder 16 rfl) rfl ry1 hq (fun c9 => ?_) (fun c9 => ?_)
        · skip
          refine to_iconst (dat dk_X12_isUnder 19 rfl) ?_
          exact to_zret rfl (dat dk_X12_isUnder 20 rfl) (by decide) (ri_mk (by decide) ⟨rfl, (by decide), (Or.inr (Abv.no c2 (by omega) (by omega) (by omega)))⟩)
        · skip
          refine to_iconst (dat dk_X12_isUnder 17 rfl) (to_goto (dat dk_X12_isUnder 18 rfl) rfl ?_)
          exact to_zret rfl (dat dk_X12_isUnder 20 rfl) (by decide) (ri_mk (by decide) ⟨rfl, (by decide), (Or.inl rfl)⟩)
      · skip
        refine to_aload_n (dat dk_X12_isUnder 8 rfl) rfl (to_getR 85 g_c13_91 (dat dk_X12_isUnder 9 rfl) (hI.atS rfl) (hI.atE rfl) (to_iload_n (dat dk_X12_isUnder 10 rfl) rfl ?_))
        obtain ⟨x10, ex10⟩ : ∃ y : Int, h.2.2 85 (Int.toNat y1) = y := ⟨_, rfl⟩
        have rx10 := hI.atR (a := 85) (j := Int.toNat y1) rfl
        rw [ex10] at rx10
        refine to_ialdv ex10 (dat dk_X12_isUnder 11 rfl) (hI.atS rfl) rfl (by decide) (by omega) ?_
        have z11 := Forest.step g0 (k := y1) (by omega)
        rw [ex10] at z11
        refine to_istore_n (L' := [(0, .inr (.inr 60)), (1, .inl p), (2, .inl q), (3, .inl x10)]) (dat dk_X12_isUnder 12 rfl) (by decide) rfl (to_goto (dat dk_X12_isUnder 13 rfl) rfl ?_)
        exact ihn4 (n4 - 1) (by omega) x10 (by omega) (fun q => (c2 q).next (by omega) (by omega) ex10) (show x10 = -1 ∨ (0 ≤ x10 ∧ x10 < h.2.2 60 37) by omega) (show rkM h x10 ≤ ((n4 - 1 : Nat) : Int) by omega)
  exact lp2_n4 (rkM h p).toNat p hp (fun k => k) (show p = -1 ∨ (0 ≤ p ∧ p < h.2.2 60 37) by omega) (by omega)
abbrev Q_X12_root (h : Hp) (p : Int) : Option V → Hp → Nat → Nat → Prop := RI (fun x H => h = H)
set_option maxRecDepth 100000 in
theorem ct_X12_root (l : Launch) (h : Hp) (hI : Inv h) (p : Int) (hp : I32 p) (g0 : Forest h) (g1 : 0 ≤ p ∧ p < h.2.2 60 37) : Ct l D_X12_root 0 0 [.inr (.inr 60), .inl p] h (Q_X12_root h p) := by
  refine ct_of pn_X12_root (Nat.le_of_ble_eq_true rfl) ?_
  show To l E_X12_root (0, [(0, .inr (.inr 60)), (1, .inl p)], [], h, 0, 0) _
  have z37 := hI.atR (a := 60) (j := 37) rfl
  refine to_iload_n (dat dk_X12_root 0 rfl) rfl (to_istore_n (L' := [(0, .inr (.inr 60)), (1, .inl p), (2, .inl p)]) (dat dk_X12_root 1 rfl) (by decide) rfl ?_)
  have lp2_n3 : ∀ (n3 : Nat) (y1 : Int), (I32 y1) → (0 ≤ y1 ∧ y1 < h.2.2 60 37) → (rkM h y1 ≤ (n3 : Int)) → To l E_X12_root (2, [(0, .inr (.inr 60)), (1, .inl p), (2, .inl y1)], [], h, 0, 0) (Q_X12_root h p) := by
    intro n3
    induction n3 using Nat.strongRecOn with
    | _ n3 ihn3 =>
    intro y1 ry1 c2 c4
    refine to_aload_n (dat dk_X12_root 2 rfl) rfl (to_getR 85 g_c13_91 (dat dk_X12_root 3 rfl) (hI.atS rfl) (hI.atE rfl) (to_iload_n (dat dk_X12_root 4 rfl) rfl ?_))
    obtain ⟨x5, ex5⟩ : ∃ y : Int, h.2.2 85 (Int.toNat y1) = y := ⟨_, rfl⟩
    have rx5 := hI.atR (a := 85) (j := Int.toNat y1) rfl
    rw [ex5] at rx5
    refine to_ialdv ex5 (dat dk_X12_root 5 rfl) (hI.atS rfl) rfl (by decide) (by omega) ?_
    have z6 := Forest.step g0 (k := y1) (by omega)
    rw [ex5] at z6
    refine to_iconst (dat dk_X12_root 6 rfl) ?_
    refine to_ieq 22 (dat dk_X12_root 7 rfl) rfl (by omega) (by decide) (fun c7 => ?_) (fun c7 => ?_)
    · skip
      refine to_iload_n (dat dk_X12_root 14 rfl) rfl ?_
      exact to_iret rfl (dat dk_X12_root 15 rfl) (ri_mk ry1 rfl)
    · skip
      refine to_aload_n (dat dk_X12_root 8 rfl) rfl (to_getR 85 g_c13_91 (dat dk_X12_root 9 rfl) (hI.atS rfl) (hI.atE rfl) (to_iload_n (dat dk_X12_root 10 rfl) rfl ?_))
      obtain ⟨x8, ex8⟩ : ∃ y : Int, h.2.2 85 (Int.toNat y1) = y := ⟨_, rfl⟩
      have rx8 := hI.atR (a := 85) (j := Int.toNat y1) rfl
      rw [ex8] at rx8
      refine to_ialdv ex8 (dat dk_X12_root 11 rfl) (hI.atS rfl) rfl (by decide) (by omega) ?_
      have z9 := Forest.step g0 (k := y1) (by omega)
      rw [ex8] at z9
      refine to_istore_n (L' := [(0, .inr (.inr 60)), (1, .inl p), (2, .inl x8)]) (dat dk_X12_root 12 rfl) (by decide) rfl (to_goto (dat dk_X12_root 13 rfl) rfl ?_)
      exact ihn3 (n3 - 1) (by omega) x8 (by omega) (show 0 ≤ x8 ∧ x8 < h.2.2 60 37 by omega) (show rkM h x8 ≤ ((n3 - 1 : Nat) : Int) by omega)
  exact lp2_n3 (rkM h p).toNat p hp (show 0 ≤ p ∧ p < h.2.2 60 37 by omega) (by omega)
abbrev Q_X12_threadOf (h : Hp) (m : Int) : Option V → Hp → Nat → Nat → Prop := RI (fun x H => h = H ∧ (x = m ∨ (0 ≤ x ∧ x < H.2.2 60 4)))
set_option maxRecDepth 100000 in
theorem ct_X12_threadOf (l : Launch) (h : Hp) (hI : Inv h) (m : Int) (hm : I32 m) (g0 : Lkd h) (g1 : 0 ≤ m ∧ m ≤ 199) (g2 : h.2.2 87 (Int.toNat m) < h.2.2 60 37) : Ct l D_X12_threadOf 1 22 [.inr (.inr 60), .inl m] h (Q_X12_threadOf h m) := by
  refine ct_of pn_X12_threadOf (Nat.le_of_ble_eq_true rfl) ?_
  show To l E_X12_threadOf (0, [(0, .inr (.inr 60)), (1, .inl m)], [], h, 0, 0) _
  refine to_iconst (dat dk_X12_threadOf 0 rfl) (to_istore_n (L' := [(0, .inr (.inr 60)), (1, .inl m), (2, .inl 0)]) (dat dk_X12_threadOf 1 rfl) (by decide) rfl ?_)
  have lp2_n3 : ∀ (n3 : Nat) (y1 : Int), (I32 y1) → (0 ≤ y1) → (h.2.2 60 4 - y1 ≤ (n3 : Int)) → To l E_X12_threadOf (2, [(0, .inr (.inr 60)), (1, .inl m), (2, .inl y1)], [], h, 0, 0) (Q_X12_threadOf h m) := by
    intro n3
    induction n3 using Nat.strongRecOn with
    | _ n3 ihn3 =>
    intro y1 ry1 c2 c4
    refine to_iload_n (dat dk_X12_threadOf 2 rfl) rfl (to_aload_n (dat dk_X12_threadOf 3 rfl) rfl ?_)
    obtain ⟨x5, ex5⟩ : ∃ y : Int, h.2.2 60 4 = y := ⟨_, rfl⟩
    have rx5 := hI.atR (a := 60) (j := 4) rfl
    rw [ex5] at rx5
    refine to_getIv (y := x5) ex5 g_c13_382 (dat dk_X12_threadOf 4 rfl) (hI.atS rfl) ?_
    refine to_ige 50 (dat dk_X12_threadOf 5 rfl) rfl ry1 (by omega) (fun c6 => ?_) (fun c6 => ?_)
    · skip
      refine to_iload_n (dat dk_X12_threadOf 28 rfl) rfl ?_
      exact to_iret rfl (dat dk_X12_threadOf 29 rfl) (ri_mk hm ⟨rfl, (show m = m ∨ (0 ≤ m ∧ m < h.2.2 60 4) by omega)⟩)
    · skip
      refine to_aload_n (dat dk_X12_threadOf 6 rfl) rfl (to_getR 65 g_c13_24 (dat dk_X12_threadOf 7 rfl) (hI.atS rfl) (hI.atE rfl) (to_iload_n (dat dk_X12_threadOf 8 rfl) rfl ?_))
      obtain ⟨x7, ex7⟩ : ∃ y : Int, h.2.2 65 (Int.toNat y1) = y := ⟨_, rfl⟩
      have rx7 := hI.atR (a := 65) (j := Int.toNat y1) rfl
      rw [ex7] at rx7
      refine to_baldv (q := 2) ex7 (dat dk_X12_threadOf 9 rfl) (by decide) (hI.atS rfl) rfl (by decide) (by omega) ?_
      refine to_ifeq 44 (dat dk_X12_threadOf 10 rfl) rfl (by omega) (fun c8 => ?_) (fun c8 => ?_)
      · skip
        refine to_iinc (L' := [(0, .inr (.inr 60)), (1, .inl m), (2, .inl (y1 + 1))]) (dat dk_X12_threadOf 26 rfl) rfl (by decide) rfl (to_goto (dat dk_X12_threadOf 27 rfl) rfl ?_)
        exact ihn3 (n3 - 1) (by omega) (y1 + 1) (by omega) (show 0 ≤ (y1 + 1) by omega) (show h.2.2 60 4 - (y1 + 1) ≤ ((n3 - 1 : Nat) : Int) by omega)
      · skip
        have z9 := g0.2.2 (Int.toNat y1) (by omega)
        rw [ex7] at z9
        refine to_aload_n (dat dk_X12_threadOf 11 rfl) rfl (to_aload_n (dat dk_X12_threadOf 12 rfl) rfl (to_getR 87 g_c13_97 (dat dk_X12_threadOf 13 rfl) (hI.atS rfl) (hI.atE rfl) (to_iload_n (dat dk_X12_threadOf 14 rfl) rfl ?_)))
        obtain ⟨x10, ex10⟩ : ∃ y : Int, h.2.2 87 (Int.toNat y1) = y := ⟨_, rfl⟩
        have rx10 := hI.atR (a := 87) (j := Int.toNat y1) rfl
        rw [ex10] at rx10
        refine to_ialdv ex10 (dat dk_X12_threadOf 15 rfl) (hI.atS rfl) rfl (by decide) (by omega) ?_
        refine to_cI ca_c13_388 (dat dk_X12_threadOf 16 rfl) (ct_X12_root l h hI x10 (by omega) g0.1 (show 0 ≤ x10 ∧ x10 < h.2.2 60 37 by omega)) rfl ⟨_, _, rfl, (hI.atS rfl)⟩ rfl (fun x11 h12 rx11 p13 => ?_)
        subst p13
        refine to_aload_n (dat dk_X12_threadOf 17 rfl) rfl (to_aload_n (dat dk_X12_threadOf 18 rfl) rfl (to_getR 87 g_c13_97 (dat dk_X12_threadOf 19 rfl) (hI.atS rfl) (hI.atE rfl) (to_iload_n (dat dk_X12_threadOf 20 rfl) rfl ?_)))
        obtain ⟨x14, ex14⟩ : ∃ y : Int, h.2.2 87 (Int.toNat m) = y := ⟨_, rfl⟩
        have rx14 := hI.atR (a := 87) (j := Int.toNat m) rfl
        rw [ex14] at rx14
        refine to_ialdv ex14 (dat dk_X12_threadOf 21 rfl) (hI.atS rfl) rfl (by decide) (by omega) ?_
        refine to_cI ca_c13_388 (dat dk_X12_threadOf 22 rfl) (ct_X12_root l h hI x14 (by omega) g0.1 (show 0 ≤ x14 ∧ x14 < h.2.2 60 37 by omega)) rfl ⟨_, _, rfl, (hI.atS rfl)⟩ rfl (fun x15 h16 rx15 p17 => ?_)
        subst p17
        refine to_ine 44 (dat dk_X12_threadOf 23 rfl) rfl rx11 rx15 (fun c18 => ?_) (fun c18 => ?_)
        · skip
          refine to_iinc (L' := [(0, .inr (.inr 60)), (1, .inl m), (2, .inl (y1 + 1))]) (dat dk_X12_threadOf 26 rfl) rfl (by decide) rfl (to_goto (dat dk_X12_threadOf 27 rfl) rfl ?_)
          exact ihn3 (n3 - 1) (by omega) (y1 + 1) (by omega) (show 0 ≤ (y1 + 1) by omega) (show h.2.2 60 4 - (y1 + 1) ≤ ((n3 - 1 : Nat) : Int) by omega)
        · skip
          refine to_iload_n (dat dk_X12_threadOf 24 rfl) rfl ?_
          exact to_iret rfl (dat dk_X12_threadOf 25 rfl) (ri_mk ry1 ⟨rfl, (show y1 = m ∨ (0 ≤ y1 ∧ y1 < h.2.2 60 4) by omega)⟩)
  exact lp2_n3 (h.2.2 60 4 - (0 : Int)).toNat 0 (by decide) (show 0 ≤ (0 : Int) by omega) (by omega)
abbrev Q_X12_parentOf (h : Hp) (m : Int) : Option V → Hp → Nat → Nat → Prop := RI (fun x H => h = H ∧ (rkN H x < rkN H m) ∧ (x = -1 ∨ (0 ≤ x ∧ x < H.2.2 60 4 ∧ x ≤ 199 ∧ H.2.2 87 (Int.toNat x) < H.2.2 60 37)))
set_option maxRecDepth 100000 in
theorem ct_X12_parentOf (l : Launch) (h : Hp) (hI : Inv h) (m : Int) (hm : I32 m) (g0 : Lkd h) (g1 : 0 ≤ m ∧ m ≤ 199) (g2 : h.2.2 87 (Int.toNat m) < h.2.2 60 37) : Ct l D_X12_parentOf 0 0 [.inr (.inr 60), .inl m] h (Q_X12_parentOf h m) := by
  refine ct_of pn_X12_parentOf (Nat.le_of_ble_eq_true rfl) ?_
  show To l E_X12_parentOf (0, [(0, .inr (.inr 60)), (1, .inl m)], [], h, 0, 0) _
  have z37 := hI.atR (a := 60) (j := 37) rfl
  have z87 := hI.atR (a := 87) (j := Int.toNat m) rfl
  have z04 := hI.atR (a := 60) (j := 4) rfl
  refine to_aload_n (dat dk_X12_parentOf 0 rfl) rfl (to_getR 85 g_c13_91 (dat dk_X12_parentOf 1 rfl) (hI.atS rfl) (hI.atE rfl) (to_aload_n (dat dk_X12_parentOf 2 rfl) rfl (to_getR 87 g_c13_97 (dat dk_X12_parentOf 3 rfl) (hI.atS rfl) (hI.atE rfl) (to_iload_n (dat dk_X12_parentOf 4 rfl) rfl ?_))))
  obtain ⟨x1, ex1⟩ : ∃ y : Int, h.2.2 87 (Int.toNat m) = y := ⟨_, rfl⟩
  have rx1 := hI.atR (a := 87) (j := Int.toNat m) rfl
  rw [ex1] at rx1
  refine to_ialdv ex1 (dat dk_X12_parentOf 5 rfl) (hI.atS rfl) rfl (by decide) (by omega) ?_
  obtain ⟨x2, ex2⟩ : ∃ y : Int, h.2.2 85 (Int.toNat x1) = y := ⟨_, rfl⟩
  have rx2 := hI.atR (a := 85) (j := Int.toNat x1) rfl
  rw [ex2] at rx2
  refine to_ialdv ex2 (dat dk_X12_parentOf 6 rfl) (hI.atS rfl) rfl (by decide) (by omega) ?_
  have z3 := Forest.step g0.1 (k := x1) (by omega)
  rw [ex2] at z3
  refine to_istore_n (L' := [(0, .inr (.inr 60)), (1, .inl m), (2, .inl x2)]) (dat dk_X12_parentOf 7 rfl) (by decide) rfl ?_
  have lp12_n6 : ∀ (n6 : Nat) (y4 : Int), (I32 y4) → ((y4 = -1 ∨ (0 ≤ y4 ∧ y4 < h.2.2 60 37)) ∧ rkM h y4 < rkM h (h.2.2 87 (Int.toNat m))) → (rkM h y4 ≤ (n6 : Int)) → To l E_X12_parentOf (12, [(0, .inr (.inr 60)), (1, .inl m), (2, .inl y4)], [], h, 0, 0) (Q_X12_parentOf h m) := by
    intro n6
    induction n6 using Nat.strongRecOn with
    | _ n6 ihn6 =>
    intro y4 ry4 c5 c7
    refine to_iload_n (dat dk_X12_parentOf 8 rfl) rfl (to_iconst (dat dk_X12_parentOf 9 rfl) ?_)
    refine to_ieq 37 (dat dk_X12_parentOf 10 rfl) rfl ry4 (by decide) (fun c8 => ?_) (fun c8 => ?_)
    · skip
      refine to_iload_n (dat dk_X12_parentOf 23 rfl) rfl (to_iconst (dat dk_X12_parentOf 24 rfl) ?_)
      refine to_ine 46 (dat dk_X12_parentOf 25 rfl) rfl ry4 (by decide) (fun c9 => ?_) (fun c9 => ?_)
      · skip
        refine to_aload_n (dat dk_X12_parentOf 28 rfl) rfl (to_getR 86 g_c13_94 (dat dk_X12_parentOf 29 rfl) (hI.atS rfl) (hI.atE rfl) (to_iload_n (dat dk_X12_parentOf 30 rfl) rfl ?_))
        obtain ⟨x10, ex10⟩ : ∃ y : Int, h.2.2 86 (Int.toNat y4) = y := ⟨_, rfl⟩
        have rx10 := hI.atR (a := 86) (j := Int.toNat y4) rfl
        rw [ex10] at rx10
        refine to_ialdv ex10 (dat dk_X12_parentOf 31 rfl) (hI.atS rfl) rfl (by decide) (by omega) ?_
        have z11 := g0.2.1 (Int.toNat y4) (by omega)
        rw [ex10] at z11
        exact to_iret rfl (dat dk_X12_parentOf 32 rfl) (ri_mk (by omega) ⟨rfl, (rkN_step (k := y4) (by omega) (by omega) (c5.2) (by omega) (by omega)), (show x10 = -1 ∨ (0 ≤ x10 ∧ x10 < h.2.2 60 4 ∧ x10 ≤ 199 ∧ h.2.2 87 (Int.toNat x10) < h.2.2 60 37) by omega)⟩)
      · skip
        refine to_iconst (dat dk_X12_parentOf 26 rfl) (to_goto (dat dk_X12_parentOf 27 rfl) rfl ?_)
        exact to_iret rfl (dat dk_X12_parentOf 32 rfl) (ri_mk (by decide) ⟨rfl, (rkN_end (by omega) (by omega)), (show (-1 : Int) = -1 ∨ (0 ≤ (-1 : Int) ∧ (-1 : Int) < h.2.2 60 4 ∧ (-1 : Int) ≤ 199 ∧ h.2.2 87 (Int.toNat (-1 : Int)) < h.2.2 60 37) by omega)⟩)
    · skip
      refine to_aload_n (dat dk_X12_parentOf 11 rfl) rfl (to_getR 86 g_c13_94 (dat dk_X12_parentOf 12 rfl) (hI.atS rfl) (hI.atE rfl) (to_iload_n (dat dk_X12_parentOf 13 rfl) rfl ?_))
      obtain ⟨x12, ex12⟩ : ∃ y : Int, h.2.2 86 (Int.toNat y4) = y := ⟨_, rfl⟩
      have rx12 := hI.atR (a := 86) (j := Int.toNat y4) rfl
      rw [ex12] at rx12
      refine to_ialdv ex12 (dat dk_X12_parentOf 14 rfl) (hI.atS rfl) rfl (by decide) (by omega) (to_iconst (dat dk_X12_parentOf 15 rfl) ?_)
      refine to_ine 37 (dat dk_X12_parentOf 16 rfl) rfl (by omega) (by decide) (fun c13 => ?_) (fun c13 => ?_)
      · skip
        refine to_iload_n (dat dk_X12_parentOf 23 rfl) rfl (to_iconst (dat dk_X12_parentOf 24 rfl) ?_)
        refine to_ine 46 (dat dk_X12_parentOf 25 rfl) rfl ry4 (by decide) (fun c14 => ?_) (fun c14 => ?_)
        · skip
          refine to_aload_n (dat dk_X12_parentOf 28 rfl) rfl (to_getR 86 g_c13_94 (dat dk_X12_parentOf 29 rfl) (hI.atS rfl) (hI.atE rfl) (to_iload_n (dat dk_X12_parentOf 30 rfl) rfl ?_))
          obtain ⟨x15, ex15⟩ : ∃ y : Int, h.2.2 86 (Int.toNat y4) = y := ⟨_, rfl⟩
          have rx15 := hI.atR (a := 86) (j := Int.toNat y4) rfl
          rw [ex15] at rx15
          refine to_ialdv ex15 (dat dk_X12_parentOf 31 rfl) (hI.atS rfl) rfl (by decide) (by omega) ?_
          have z16 := g0.2.1 (Int.toNat y4) (by omega)
          rw [ex15] at z16
          exact to_iret rfl (dat dk_X12_parentOf 32 rfl) (ri_mk (by omega) ⟨rfl, (rkN_step (k := y4) (by omega) (by omega) (c5.2) (by omega) (by omega)), (show x15 = -1 ∨ (0 ≤ x15 ∧ x15 < h.2.2 60 4 ∧ x15 ≤ 199 ∧ h.2.2 87 (Int.toNat x15) < h.2.2 60 37) by omega)⟩)
        · skip
          refine to_iconst (dat dk_X12_parentOf 26 rfl) (to_goto (dat dk_X12_parentOf 27 rfl) rfl ?_)
          exact to_iret rfl (dat dk_X12_parentOf 32 rfl) (ri_mk (by decide) ⟨rfl, (rkN_end (by omega) (by omega)), (show (-1 : Int) = -1 ∨ (0 ≤ (-1 : Int) ∧ (-1 : Int) < h.2.2 60 4 ∧ (-1 : Int) ≤ 199 ∧ h.2.2 87 (Int.toNat (-1 : Int)) < h.2.2 60 37) by omega)⟩)
      · skip
        refine to_aload_n (dat dk_X12_parentOf 17 rfl) rfl (to_getR 85 g_c13_91 (dat dk_X12_parentOf 18 rfl) (hI.atS rfl) (hI.atE rfl) (to_iload_n (dat dk_X12_parentOf 19 rfl) rfl ?_))
        obtain ⟨x17, ex17⟩ : ∃ y : Int, h.2.2 85 (Int.toNat y4) = y := ⟨_, rfl⟩
        have rx17 := hI.atR (a := 85) (j := Int.toNat y4) rfl
        rw [ex17] at rx17
        refine to_ialdv ex17 (dat dk_X12_parentOf 20 rfl) (hI.atS rfl) rfl (by decide) (by omega) ?_
        have z18 := Forest.step g0.1 (k := y4) (by omega)
        rw [ex17] at z18
        refine to_istore_n (L' := [(0, .inr (.inr 60)), (1, .inl m), (2, .inl x17)]) (dat dk_X12_parentOf 21 rfl) (by decide) rfl (to_goto (dat dk_X12_parentOf 22 rfl) rfl ?_)
        exact ihn6 (n6 - 1) (by omega) x17 (by omega) (show (x17 = -1 ∨ (0 ≤ x17 ∧ x17 < h.2.2 60 37)) ∧ rkM h x17 < rkM h (h.2.2 87 (Int.toNat m)) by omega) (show rkM h x17 ≤ ((n6 - 1 : Nat) : Int) by omega)
  exact lp12_n6 (rkM h x2).toNat x2 (by omega) (by rw [ex1]; omega) (by omega)
abbrev Q_X12_depth (h : Hp) (m : Int) : Option V → Hp → Nat → Nat → Prop := RI (fun x H => h = H)
set_option maxRecDepth 100000 in
theorem ct_X12_depth (l : Launch) (h : Hp) (hI : Inv h) (m : Int) (hm : I32 m) (g0 : Lkd h) (g1 : 0 ≤ m ∧ m ≤ 199) (g2 : h.2.2 87 (Int.toNat m) < h.2.2 60 37) : Ct l D_X12_depth 1 22 [.inr (.inr 60), .inl m] h (Q_X12_depth h m) := by
  refine ct_of pn_X12_depth (Nat.le_of_ble_eq_true rfl) ?_
  show To l E_X12_depth (0, [(0, .inr (.inr 60)), (1, .inl m)], [], h, 0, 0) _
  refine to_iconst (dat dk_X12_depth 0 rfl) (to_istore_n (L' := [(0, .inr (.inr 60)), (1, .inl m), (2, .inl 0)]) (dat dk_X12_depth 1 rfl) (by decide) rfl (to_aload_n (dat dk_X12_depth 2 rfl) rfl (to_iload_n (dat dk_X12_depth 3 rfl) rfl ?_)))
  obtain ⟨x1, ex1⟩ : ∃ y : Int, h.2.2 60 4 = y := ⟨_, rfl⟩
  have rx1 := hI.atR (a := 60) (j := 4) rfl
  rw [ex1] at rx1
  obtain ⟨x2, ex2⟩ : ∃ y : Int, h.2.2 60 37 = y := ⟨_, rfl⟩
  have rx2 := hI.atR (a := 60) (j := 37) rfl
  rw [ex2] at rx2
  refine to_cI ca_c13_530 (dat dk_X12_depth 4 rfl) (ct_X12_parentOf l h hI m hm g0 (show 0 ≤ m ∧ m ≤ 199 by omega) (show h.2.2 87 (Int.toNat m) < h.2.2 60 37 by omega)) rfl ⟨_, _, rfl, (hI.atS rfl)⟩ rfl (fun x3 h4 rx3 p5 => ?_)
  obtain ⟨rfl, p5_0, p5_1⟩ := p5
  have z6 := rkN_ge (h := h) (m := x3)
  refine to_istore_n (L' := [(0, .inr (.inr 60)), (1, .inl m), (2, .inl 0), (3, .inl x3)]) (dat dk_X12_depth 5 rfl) (by decide) rfl ?_
  have lp8_n10 : ∀ (n10 : Nat) (y7 : Int) (y8 : Int), (I32 y7) → (I32 y8) → (y8 = -1 ∨ (0 ≤ y8 ∧ y8 ≤ 199 ∧ h.2.2 87 (Int.toNat y8) < h.2.2 60 37)) → (rkN h y8 ≤ (n10 : Int)) → To l E_X12_depth (8, [(0, .inr (.inr 60)), (1, .inl m), (2, .inl y7), (3, .inl y8)], [], h, 0, 0) (Q_X12_depth h m) := by
    intro n10
    induction n10 using Nat.strongRecOn with
    | _ n10 ihn10 =>
    intro y7 y8 ry7 ry8 c9 c11
    refine to_iload_n (dat dk_X12_depth 6 rfl) rfl (to_iconst (dat dk_X12_depth 7 rfl) ?_)
    refine to_ieq 25 (dat dk_X12_depth 8 rfl) rfl ry8 (by decide) (fun c12 => ?_) (fun c12 => ?_)
    · skip
      refine to_iload_n (dat dk_X12_depth 15 rfl) rfl ?_
      exact to_iret rfl (dat dk_X12_depth 16 rfl) (ri_mk ry7 rfl)
    · skip
      refine to_iincA (L' := fun Y => [(0, .inr (.inr 60)), (1, .inl m), (2, .inl Y), (3, .inl y8)]) (dat dk_X12_depth 9 rfl) rfl (by decide) (fun _ => rfl) (fun x13 rx13 => ?_)
      refine to_aload_n (dat dk_X12_depth 10 rfl) rfl (to_iload_n (dat dk_X12_depth 11 rfl) rfl ?_)
      refine to_cI ca_c13_530 (dat dk_X12_depth 12 rfl) (ct_X12_parentOf l h hI y8 ry8 g0 (show 0 ≤ y8 ∧ y8 ≤ 199 by omega) (show h.2.2 87 (Int.toNat y8) < h.2.2 60 37 by omega)) rfl ⟨_, _, rfl, (hI.atS rfl)⟩ rfl (fun x14 h15 rx14 p16 => ?_)
      obtain ⟨rfl, p16_0, p16_1⟩ := p16
      have z17 := rkN_ge (h := h) (m := x14)
      refine to_istore_n (L' := [(0, .inr (.inr 60)), (1, .inl m), (2, .inl x13), (3, .inl x14)]) (dat dk_X12_depth 13 rfl) (by decide) rfl (to_goto (dat dk_X12_depth 14 rfl) rfl ?_)
      exact ihn10 (n10 - 1) (by omega) x13 x14 rx13 rx14 (show x14 = -1 ∨ (0 ≤ x14 ∧ x14 ≤ 199 ∧ h.2.2 87 (Int.toNat x14) < h.2.2 60 37) by omega) (show rkN h x14 ≤ ((n10 - 1 : Nat) : Int) by omega)
  exact lp8_n10 (rkN h x3).toNat 0 x3 (by decide) rx3 (show x3 = -1 ∨ (0 ≤ x3 ∧ x3 ≤ 199 ∧ h.2.2 87 (Int.toNat x3) < h.2.2 60 37) by omega) (by omega)
abbrev Q_X12_hang (h : Hp) (m : Int) : Option V → Hp → Nat → Nat → Prop := RV (fun H => Inv H ∧ Fr [69, 70, 71, 72, 73, 74, 75, 76, 77, 78, 79, 80, 81, 82, 83, 84, 85, 86, 87, 212, 216, 218, 219, 223, 225, 226, 228, 229, 233, 236, 237] h H ∧ (LkF H (m + 1)) ∧ (H.2.2 60 37 ≤ 18 * m + 18) ∧ (Cch H))
set_option maxRecDepth 100000 in
theorem ct_X12_hang (l : Launch) (h : Hp) (hI : Inv h) (m : Int) (hm : I32 m) (g0 : Cch h) (g1 : 0 ≤ m ∧ m < h.2.2 60 4) (g2 : h.2.2 60 37 ≤ 18 * m) (g3 : m ≤ 63) (g4 : LkF h m) : Ct l D_X12_hang 7 171 [.inr (.inr 60), .inl m] h (Q_X12_hang h m) := by
  refine ct_of pn_X12_hang (Nat.le_of_ble_eq_true rfl) ?_
  show To l E_X12_hang (0, [(0, .inr (.inr 60)), (1, .inl m)], [], h, 0, 0) _
  obtain ⟨x1, ex1⟩ : ∃ y : Int, h.2.2 60 37 = y := ⟨_, rfl⟩
  have rx1 := hI.atR (a := 60) (j := 37) rfl
  rw [ex1] at rx1
  obtain ⟨x2, ex2⟩ : ∃ y : Int, h.2.2 60 4 = y := ⟨_, rfl⟩
  have rx2 := hI.atR (a := 60) (j := 4) rfl
  rw [ex2] at rx2
  refine to_aload_n (dat dk_X12_hang 0 rfl) rfl (to_iload_n (dat dk_X12_hang 1 rfl) rfl ?_)
  refine to_cV ca_c13_373 (dat dk_X12_hang 2 rfl) (ct_X12_read l h hI m hm g0 (show 0 ≤ m ∧ m < h.2.2 60 4 by omega)) rfl ⟨_, _, rfl, (hI.atS rfl)⟩ rfl (fun h4 p5 => ?_)
  obtain ⟨Ih4, fh4, p5_0, p5_1⟩ := p5
  have f6 : Fr [69, 70, 71, 72, 73, 74, 75, 76, 77, 78, 79, 80, 81, 82, 83, 84, 85, 86, 87, 212, 216, 218, 219, 223, 225, 226, 228, 229, 233, 236, 237] h h4 := Fr.sub (Fr.rf _ _) fh4 rfl
  obtain ⟨x7, ex7⟩ : ∃ y : Int, h4.2.2 60 12 = y := ⟨_, rfl⟩
  have rx7 := Ih4.atR (a := 60) (j := 12) rfl
  rw [ex7] at rx7
  have k8 : LkF h4 m := LkF.fr fh4 hI rfl g4
  refine to_aload_n (dat dk_X12_hang 3 rfl) rfl (to_aload_n (dat dk_X12_hang 4 rfl) rfl (to_getR 72 g_c13_51 (dat dk_X12_hang 5 rfl) (Ih4.atS rfl) (Ih4.atE rfl) (to_iconst (dat dk_X12_hang 6 rfl) (to_aload_n (dat dk_X12_hang 7 rfl) rfl ?_))))
  obtain ⟨x9, ex9⟩ : ∃ y : Int, h4.2.2 60 18 = y := ⟨_, rfl⟩
  have rx9 := Ih4.atR (a := 60) (j := 18) rfl
  rw [ex9] at rx9
  refine to_getIv (y := x9) ex9 g_c13_364 (dat dk_X12_hang 8 rfl) (Ih4.atS rfl) ?_
  have e10 : h4.2.2 60 37 = x1 := ((Fr.get fh4 (by have := hI.1.1; omega) rfl).trans ex1)
  refine to_cI ca_c13_376 (dat dk_X12_hang 9 rfl) (ct_X12_node_vb l h4 Ih4 72 60 rfl 0 (by decide) x9 (by omega) (show 0 ≤ (0 : Int) by omega) (show 0 ≤ x9 ∧ x9 ≤ 60 by omega) (show (0 : Int) + x9 ≤ (60 : Int) by omega) (show h4.2.2 60 37 ≤ 1199 by omega)) rfl ⟨_, _, rfl, (Ih4.atS rfl)⟩ rfl (fun x11 h12 rx11 p13 => ?_)
  obtain ⟨Ih12, fh12, p13_0, p13_1, p13_2⟩ := p13
  have f14 : Fr [69, 70, 71, 72, 73, 74, 75, 76, 77, 78, 79, 80, 81, 82, 83, 84, 85, 86, 87, 212, 216, 218, 219, 223, 225, 226, 228, 229, 233, 236, 237] h h12 := Fr.sub f6 fh12 rfl
  have t15 : Cch h12 := Cch_fr fh12 Ih4 rfl p5_0
  obtain ⟨x16, ex16⟩ : ∃ y : Int, h12.2.2 60 37 = y := ⟨_, rfl⟩
  have rx16 := Ih12.atR (a := 60) (j := 37) rfl
  rw [ex16] at rx16
  have k17 : LkF h12 m := LkF.node k8 p13_2 (Ih4.atR (a := 60) (j := 37) rfl).1 (fh12.arr Ih4 (by decide) (fun _ => rfl)) (fh12.arr Ih4 (by decide) (fun _ => rfl))
  refine to_istore_n (L' := [(0, .inr (.inr 60)), (1, .inl m), (2, .inl x11)]) (dat dk_X12_hang 10 rfl) (by decide) rfl ?_
  have jn40_n24 : ∀ (y18 : Int) (h19 : Hp), (I32 y18) → (Inv h19) → (Fr [69, 70, 71, 72, 73, 74, 75, 76, 77, 78, 79, 80, 81, 82, 83, 84, 85, 86, 87, 212, 216, 218, 219, 223, 225, 226, 228, 229, 233, 236, 237] h h19) → (LkF h19 m) → (0 ≤ y18 ∧ y18 < h19.2.2 60 37) → (h19.2.2 60 37 ≤ 18 * m + 2) → (Cch h19) → To l E_X12_hang (40, [(0, .inr (.inr 60)), (1, .inl m), (2, .inl y18)], [], h19, 0, 0) (Q_X12_hang h m) := by
    intro y18 h19 ry18 Ih19 fh19 c20 c21 c22 c23
    obtain ⟨x25, ex25⟩ : ∃ y : Int, h19.2.2 60 37 = y := ⟨_, rfl⟩
    have rx25 := Ih19.atR (a := 60) (j := 37) rfl
    rw [ex25] at rx25
    refine to_aload_n (dat dk_X12_hang 24 rfl) rfl (to_getR 86 g_c13_94 (dat dk_X12_hang 25 rfl) (Ih19.atS rfl) (Ih19.atE rfl) (to_iload_n (dat dk_X12_hang 26 rfl) rfl (to_iload_n (dat dk_X12_hang 27 rfl) rfl (to_iastw (dat dk_X12_hang 28 rfl) (Ih19.atS rfl) rfl (by decide) (by omega) ?_))))
    intro h28 wh28
    have I26 : Inv h28 := by rw [wh28]; exact Ih19.put (a := 86) (j := (Int.toNat y18)) (x := m) (-1) (199) rfl rfl (show (-1 : Int) ≤ m ∧ m ≤ 199 by omega)
    have f27 : Fr [69, 70, 71, 72, 73, 74, 75, 76, 77, 78, 79, 80, 81, 82, 83, 84, 85, 86, 87, 212, 216, 218, 219, 223, 225, 226, 228, 229, 233, 236, 237] h h28 := by rw [wh28]; exact Fr.putF (a := 86) (j := (Int.toNat y18)) (x := m) fh19 rfl
    have t29 : Cch h28 := by rw [wh28]; exact Cch_wr rfl c23
    refine to_aload_n (dat dk_X12_hang 29 rfl) rfl (to_getR 87 g_c13_97 (dat dk_X12_hang 30 rfl) (I26.atS rfl) (I26.atE rfl) (to_iload_n (dat dk_X12_hang 31 rfl) rfl (to_iload_n (dat dk_X12_hang 32 rfl) rfl (to_iastw (dat dk_X12_hang 33 rfl) (I26.atS rfl) rfl (by decide) (by omega) ?_))))
    intro h32 wh32
    have I30 : Inv h32 := by rw [wh32]; exact I26.put (a := 87) (j := (Int.toNat m)) (x := y18) (0) (1199) rfl rfl (show (0 : Int) ≤ y18 ∧ y18 ≤ 1199 by omega)
    have f31 : Fr [69, 70, 71, 72, 73, 74, 75, 76, 77, 78, 79, 80, 81, 82, 83, 84, 85, 86, 87, 212, 216, 218, 219, 223, 225, 226, 228, 229, 233, 236, 237] h h32 := by rw [wh32]; exact Fr.putF (a := 87) (j := (Int.toNat m)) (x := y18) f27 rfl
    have t33 : Cch h32 := by rw [wh32]; exact Cch_wr rfl t29
    have k34 : LkF h32 (m + 1) := by rw [wh32, wh28]; exact LkF.own c20 (by omega) (by omega)
    refine to_iconst (dat dk_X12_hang 34 rfl) (to_istore_n (L' := [(0, .inr (.inr 60)), (1, .inl m), (2, .inl y18), (3, .inl (-1))]) (dat dk_X12_hang 35 rfl) (by decide) rfl (to_iconst (dat dk_X12_hang 36 rfl) (to_istore (L' := [(0, .inr (.inr 60)), (1, .inl m), (2, .inl y18), (3, .inl (-1)), (4, .inl 0)]) (dat dk_X12_hang 37 rfl) (by decide) rfl ?_)))
    have e39 : h32.2.2 60 37 = x25 := (by rw [wh32]; exact (show h28.2.2 60 37 = x25 from (by rw [wh28]; exact ex25)))
    have lp59_n46 : ∀ (n46 : Nat) (y35 : Int) (y36 : Int) (h37 : Hp), (I32 y35) → (I32 y36) → (Inv h37) → (Fr [69, 70, 71, 72, 73, 74, 75, 76, 77, 78, 79, 80, 81, 82, 83, 84, 85, 86, 87, 212, 216, 218, 219, 223, 225, 226, 228, 229, 233, 236, 237] h h37) → (LkF h37 (m + 1)) → (y35 = -1 ∨ (0 ≤ y35 ∧ y35 < h37.2.2 60 37)) → (0 ≤ y18 ∧ y18 < h37.2.2 60 37) → (0 ≤ y36) → (Cch h37) → (h37.2.2 60 37 ≤ 18 * m + 2 + y36) → (y36 ≤ 16) → (17 - y36 ≤ (n46 : Int)) → To l E_X12_hang (59, [(0, .inr (.inr 60)), (1, .inl m), (2, .inl y18), (3, .inl y35), (4, .inl y36)], [], h37, 0, 0) (Q_X12_hang h m) := by
      intro n46
      induction n46 using Nat.strongRecOn with
      | _ n46 ihn46 =>
      intro y35 y36 h37 ry35 ry36 Ih37 fh37 c38 c40 c41 c42 c43 c44 c45 c47
      obtain ⟨x48, ex48⟩ : ∃ y : Int, h37.2.2 60 37 = y := ⟨_, rfl⟩
      have rx48 := Ih37.atR (a := 60) (j := 37) rfl
      rw [ex48] at rx48
      refine to_iload (dat dk_X12_hang 38 rfl) rfl ?_
      refine to_aload_n (dat dk_X12_hang 39 rfl) rfl ?_
      obtain ⟨x49, ex49⟩ : ∃ y : Int, h37.2.2 60 19 = y := ⟨_, rfl⟩
      have rx49 := Ih37.atR (a := 60) (j := 19) rfl
      rw [ex49] at rx49
      refine to_getIv (y := x49) ex49 g_c13_336 (dat dk_X12_hang 40 rfl) (Ih37.atS rfl) ?_
      refine to_ige 133 (dat dk_X12_hang 41 rfl) rfl ry36 (by omega) (fun c50 => ?_) (fun c50 => ?_)
      · skip
        refine to_iload_n (dat dk_X12_hang 77 rfl) rfl (to_iconst (dat dk_X12_hang 78 rfl) ?_)
        refine to_ieq 154 (dat dk_X12_hang 79 rfl) rfl ry35 (by decide) (fun c51 => ?_) (fun c51 => ?_)
        · skip
          exact to_vret rfl (dat dk_X12_hang 90 rfl) (rv_mk ⟨Ih37, fh37, c38, (show h37.2.2 60 37 ≤ 18 * m + 18 by omega), c43⟩)
        · skip
          refine to_aload_n (dat dk_X12_hang 80 rfl) rfl (to_iload_n (dat dk_X12_hang 81 rfl) rfl (to_iload_n (dat dk_X12_hang 82 rfl) rfl ?_))
          refine to_cI ca_c13_379 (dat dk_X12_hang 83 rfl) (ct_X12_isUnder l h37 Ih37 y35 ry35 y18 ry18 (c38.1) (show -1 ≤ y35 ∧ y35 < h37.2.2 60 37 by omega) (show 0 ≤ y18 by omega)) rfl ⟨_, _, rfl, (Ih37.atS rfl)⟩ rfl (fun x52 h53 rx52 p54 => ?_)
          obtain ⟨rfl, zx52, p54_0⟩ := p54
          refine to_ifne 154 (dat dk_X12_hang 84 rfl) rfl rx52 (fun c55 => ?_) (fun c55 => ?_)
          · skip
            exact to_vret rfl (dat dk_X12_hang 90 rfl) (rv_mk ⟨Ih37, fh37, c38, (show h37.2.2 60 37 ≤ 18 * m + 18 by omega), c43⟩)
          · skip
            refine to_aload_n (dat dk_X12_hang 85 rfl) rfl (to_getR 85 g_c13_91 (dat dk_X12_hang 86 rfl) (Ih37.atS rfl) (Ih37.atE rfl) (to_iload_n (dat dk_X12_hang 87 rfl) rfl (to_iload_n (dat dk_X12_hang 88 rfl) rfl (to_iastw (dat dk_X12_hang 89 rfl) (Ih37.atS rfl) rfl (by decide) (by omega) ?_))))
            intro h58 wh58
            have I56 : Inv h58 := by rw [wh58]; exact Ih37.put (a := 85) (j := (Int.toNat y18)) (x := y35) (-1) (1199) rfl rfl (show (-1 : Int) ≤ y35 ∧ y35 ≤ 1199 by omega)
            have f57 : Fr [69, 70, 71, 72, 73, 74, 75, 76, 77, 78, 79, 80, 81, 82, 83, 84, 85, 86, 87, 212, 216, 218, 219, 223, 225, 226, 228, 229, 233, 236, 237] h h58 := by rw [wh58]; exact Fr.putF (a := 85) (j := (Int.toNat y18)) (x := y35) fh37 rfl
            have t59 : Cch h58 := by rw [wh58]; exact Cch_wr rfl c43
            have e60 : h58.2.2 60 37 = x48 := (by rw [wh58]; exact ex48)
            exact to_vret rfl (dat dk_X12_hang 90 rfl) (rv_mk ⟨I56, f57, (by rw [wh58]; exact LkF.hang c38 (by omega) (by omega) (p54_0.resolve_left (by omega))), (show h58.2.2 60 37 ≤ 18 * m + 18 by omega), t59⟩)
      · skip
        refine to_aload_n (dat dk_X12_hang 42 rfl) rfl (to_aload_n (dat dk_X12_hang 43 rfl) rfl (to_getR 73 g_c13_54 (dat dk_X12_hang 44 rfl) (Ih37.atS rfl) (Ih37.atE rfl) (to_bipush (dat dk_X12_hang 45 rfl) (by decide) (to_iload (dat dk_X12_hang 46 rfl) rfl (to_imul (dat dk_X12_hang 47 rfl) (to_aload_n (dat dk_X12_hang 48 rfl) rfl (to_getR 74 g_c13_57 (dat dk_X12_hang 49 rfl) (Ih37.atS rfl) (Ih37.atE rfl) (to_iload (dat dk_X12_hang 50 rfl) rfl ?_))))))))
        obtain ⟨x61, ex61⟩ : ∃ y : Int, h37.2.2 74 (Int.toNat y36) = y := ⟨_, rfl⟩
        have rx61 := Ih37.atR (a := 74) (j := Int.toNat y36) rfl
        rw [ex61] at rx61
        refine to_ialdv ex61 (dat dk_X12_hang 51 rfl) (Ih37.atS rfl) rfl (by decide) (by omega) ?_
        refine to_cI ca_c13_376 (dat dk_X12_hang 52 rfl) (ct_X12_node_vb l h37 Ih37 73 960 rfl (60 * y36) (by omega) x61 (by omega) (show 0 ≤ (60 * y36) by omega) (show 0 ≤ x61 ∧ x61 ≤ 60 by omega) (show (60 * y36) + x61 ≤ (960 : Int) by omega) (show h37.2.2 60 37 ≤ 1199 by omega)) rfl ⟨_, _, rfl, (Ih37.atS rfl)⟩ rfl (fun x62 h63 rx62 p64 => ?_)
        obtain ⟨Ih63, fh63, p64_0, p64_1, p64_2⟩ := p64
        have f65 : Fr [69, 70, 71, 72, 73, 74, 75, 76, 77, 78, 79, 80, 81, 82, 83, 84, 85, 86, 87, 212, 216, 218, 219, 223, 225, 226, 228, 229, 233, 236, 237] h h63 := Fr.sub fh37 fh63 rfl
        have t66 : Cch h63 := Cch_fr fh63 Ih37 rfl c43
        obtain ⟨x67, ex67⟩ : ∃ y : Int, h63.2.2 60 37 = y := ⟨_, rfl⟩
        have rx67 := Ih63.atR (a := 60) (j := 37) rfl
        rw [ex67] at rx67
        have k68 : LkF h63 (m + 1) := LkF.node c38 p64_2 (Ih37.atR (a := 60) (j := 37) rfl).1 (fh63.arr Ih37 (by decide) (fun _ => rfl)) (fh63.arr Ih37 (by decide) (fun _ => rfl))
        refine to_istore (L' := [(0, .inr (.inr 60)), (1, .inl m), (2, .inl y18), (3, .inl y35), (4, .inl y36), (5, .inl x62)]) (dat dk_X12_hang 53 rfl) (by decide) rfl ?_
        have jn124_n76 : ∀ (h69 : Hp), (Inv h69) → (Fr [69, 70, 71, 72, 73, 74, 75, 76, 77, 78, 79, 80, 81, 82, 83, 84, 85, 86, 87, 212, 216, 218, 219, 223, 225, 226, 228, 229, 233, 236, 237] h h69) → (LkF h69 (m + 1)) → (y35 = -1 ∨ (0 ≤ y35 ∧ y35 < h69.2.2 60 37)) → (0 ≤ y18 ∧ y18 < h69.2.2 60 37) → (0 ≤ x62 ∧ x62 < h69.2.2 60 37) → (h69.2.2 60 37 ≤ 18 * m + 3 + y36) → (Cch h69) → To l E_X12_hang (124, [(0, .inr (.inr 60)), (1, .inl m), (2, .inl y18), (3, .inl y35), (4, .inl y36), (5, .inl x62)], [], h69, 0, 0) (Q_X12_hang h m) := by
          intro h69 Ih69 fh69 c70 c71 c72 c73 c74 c75
          obtain ⟨x77, ex77⟩ : ∃ y : Int, h69.2.2 60 37 = y := ⟨_, rfl⟩
          have rx77 := Ih69.atR (a := 60) (j := 37) rfl
          rw [ex77] at rx77
          refine to_iload (dat dk_X12_hang 73 rfl) rfl (to_istore_n (L' := [(0, .inr (.inr 60)), (1, .inl m), (2, .inl y18), (3, .inl x62), (4, .inl y36), (5, .inl x62)]) (dat dk_X12_hang 74 rfl) (by decide) rfl (to_iinc (L' := [(0, .inr (.inr 60)), (1, .inl m), (2, .inl y18), (3, .inl x62), (4, .inl (y36 + 1)), (5, .inl x62)]) (dat dk_X12_hang 75 rfl) rfl (by decide) rfl (to_goto (dat dk_X12_hang 76 rfl) rfl ?_)))
          refine to_pick [0, 1, 2, 3, 4] rfl ?_
          exact ihn46 (n46 - 1) (by omega) x62 (y36 + 1) h69 rx62 (by omega) Ih69 fh69 c70 (show x62 = -1 ∨ (0 ≤ x62 ∧ x62 < h69.2.2 60 37) by omega) (show 0 ≤ y18 ∧ y18 < h69.2.2 60 37 by omega) (show 0 ≤ (y36 + 1) by omega) c75 (show h69.2.2 60 37 ≤ 18 * m + 2 + (y36 + 1) by omega) (show (y36 + 1) ≤ 16 by omega) (show 17 - (y36 + 1) ≤ ((n46 - 1 : Nat) : Int) by omega)
        refine to_iload_n (dat dk_X12_hang 54 rfl) rfl (to_iconst (dat dk_X12_hang 55 rfl) ?_)
        refine to_ieq 124 (dat dk_X12_hang 56 rfl) rfl ry35 (by decide) (fun c78 => ?_) (fun c78 => ?_)
        · skip
          exact jn124_n76 h63 Ih63 f65 k68 (show y35 = -1 ∨ (0 ≤ y35 ∧ y35 < h63.2.2 60 37) by omega) (show 0 ≤ y18 ∧ y18 < h63.2.2 60 37 by omega) (show 0 ≤ x62 ∧ x62 < h63.2.2 60 37 by omega) (show h63.2.2 60 37 ≤ 18 * m + 3 + y36 by omega) t66
        · skip
          refine to_aload_n (dat dk_X12_hang 57 rfl) rfl (to_getR 85 g_c13_91 (dat dk_X12_hang 58 rfl) (Ih63.atS rfl) (Ih63.atE rfl) (to_iload (dat dk_X12_hang 59 rfl) rfl ?_))
          obtain ⟨x79, ex79⟩ : ∃ y : Int, h63.2.2 85 (Int.toNat x62) = y := ⟨_, rfl⟩
          have rx79 := Ih63.atR (a := 85) (j := Int.toNat x62) rfl
          rw [ex79] at rx79
          refine to_ialdv ex79 (dat dk_X12_hang 60 rfl) (Ih63.atS rfl) rfl (by decide) (by omega) (to_iconst (dat dk_X12_hang 61 rfl) ?_)
          refine to_ine 124 (dat dk_X12_hang 62 rfl) rfl (by omega) (by decide) (fun c80 => ?_) (fun c80 => ?_)
          · skip
            exact jn124_n76 h63 Ih63 f65 k68 (show y35 = -1 ∨ (0 ≤ y35 ∧ y35 < h63.2.2 60 37) by omega) (show 0 ≤ y18 ∧ y18 < h63.2.2 60 37 by omega) (show 0 ≤ x62 ∧ x62 < h63.2.2 60 37 by omega) (show h63.2.2 60 37 ≤ 18 * m + 3 + y36 by omega) t66
          · skip
            refine to_aload_n (dat dk_X12_hang 63 rfl) rfl (to_iload_n (dat dk_X12_hang 64 rfl) rfl (to_iload (dat dk_X12_hang 65 rfl) rfl ?_))
            refine to_cI ca_c13_379 (dat dk_X12_hang 66 rfl) (ct_X12_isUnder l h63 Ih63 y35 ry35 x62 rx62 (k68.1) (show -1 ≤ y35 ∧ y35 < h63.2.2 60 37 by omega) (show 0 ≤ x62 by omega)) rfl ⟨_, _, rfl, (Ih63.atS rfl)⟩ rfl (fun x81 h82 rx81 p83 => ?_)
            obtain ⟨rfl, zx81, p83_0⟩ := p83
            refine to_ifne 124 (dat dk_X12_hang 67 rfl) rfl rx81 (fun c84 => ?_) (fun c84 => ?_)
            · skip
              exact jn124_n76 h63 Ih63 f65 k68 (show y35 = -1 ∨ (0 ≤ y35 ∧ y35 < h63.2.2 60 37) by omega) (show 0 ≤ y18 ∧ y18 < h63.2.2 60 37 by omega) (show 0 ≤ x62 ∧ x62 < h63.2.2 60 37 by omega) (show h63.2.2 60 37 ≤ 18 * m + 3 + y36 by omega) t66
            · skip
              refine to_aload_n (dat dk_X12_hang 68 rfl) rfl (to_getR 85 g_c13_91 (dat dk_X12_hang 69 rfl) (Ih63.atS rfl) (Ih63.atE rfl) (to_iload (dat dk_X12_hang 70 rfl) rfl (to_iload_n (dat dk_X12_hang 71 rfl) rfl (to_iastw (dat dk_X12_hang 72 rfl) (Ih63.atS rfl) rfl (by decide) (by omega) ?_))))
              intro h87 wh87
              have I85 : Inv h87 := by rw [wh87]; exact Ih63.put (a := 85) (j := (Int.toNat x62)) (x := y35) (-1) (1199) rfl rfl (show (-1 : Int) ≤ y35 ∧ y35 ≤ 1199 by omega)
              have f86 : Fr [69, 70, 71, 72, 73, 74, 75, 76, 77, 78, 79, 80, 81, 82, 83, 84, 85, 86, 87, 212, 216, 218, 219, 223, 225, 226, 228, 229, 233, 236, 237] h h87 := by rw [wh87]; exact Fr.putF (a := 85) (j := (Int.toNat x62)) (x := y35) f65 rfl
              have t88 : Cch h87 := by rw [wh87]; exact Cch_wr rfl t66
              have e89 : h87.2.2 60 37 = x67 := (by rw [wh87]; exact ex67)
              exact jn124_n76 h87 I85 f86 (by rw [wh87]; exact LkF.hang k68 (by omega) (by omega) (p83_0.resolve_left (by omega))) (show y35 = -1 ∨ (0 ≤ y35 ∧ y35 < h87.2.2 60 37) by omega) (show 0 ≤ y18 ∧ y18 < h87.2.2 60 37 by omega) (show 0 ≤ x62 ∧ x62 < h87.2.2 60 37 by omega) (show h87.2.2 60 37 ≤ 18 * m + 3 + y36 by omega) t88
    exact lp59_n46 (17 - (0 : Int)).toNat (-1) 0 h32 (by decide) (by decide) I30 f31 k34 (show (-1 : Int) = -1 ∨ (0 ≤ (-1 : Int) ∧ (-1 : Int) < h32.2.2 60 37) by omega) (show 0 ≤ y18 ∧ y18 < h32.2.2 60 37 by omega) (show 0 ≤ (0 : Int) by omega) t33 (show h32.2.2 60 37 ≤ 18 * m + 2 + (0 : Int) by omega) (show (0 : Int) ≤ 16 by omega) (by omega)
  refine to_aload_n (dat dk_X12_hang 11 rfl) rfl (to_getR 86 g_c13_94 (dat dk_X12_hang 12 rfl) (Ih12.atS rfl) (Ih12.atE rfl) (to_iload_n (dat dk_X12_hang 13 rfl) rfl ?_))
  obtain ⟨x90, ex90⟩ : ∃ y : Int, h12.2.2 86 (Int.toNat x11) = y := ⟨_, rfl⟩
  have rx90 := Ih12.atR (a := 86) (j := Int.toNat x11) rfl
  rw [ex90] at rx90
  refine to_ialdv ex90 (dat dk_X12_hang 14 rfl) (Ih12.atS rfl) rfl (by decide) (by omega) (to_iconst (dat dk_X12_hang 15 rfl) ?_)
  refine to_ieq 40 (dat dk_X12_hang 16 rfl) rfl (by omega) (by decide) (fun c91 => ?_) (fun c91 => ?_)
  · skip
    exact jn40_n24 x11 h12 rx11 Ih12 f14 k17 (show 0 ≤ x11 ∧ x11 < h12.2.2 60 37 by omega) (show h12.2.2 60 37 ≤ 18 * m + 2 by omega) t15
  · skip
    refine to_aload_n (dat dk_X12_hang 17 rfl) rfl (to_aload_n (dat dk_X12_hang 18 rfl) rfl (to_getR 72 g_c13_51 (dat dk_X12_hang 19 rfl) (Ih12.atS rfl) (Ih12.atE rfl) (to_iconst (dat dk_X12_hang 20 rfl) (to_iconst (dat dk_X12_hang 21 rfl) ?_))))
    refine to_cI ca_c13_376 (dat dk_X12_hang 22 rfl) (ct_X12_node_vb l h12 Ih12 72 60 rfl 0 (by decide) 0 (by decide) (show 0 ≤ (0 : Int) by omega) (show 0 ≤ (0 : Int) ∧ (0 : Int) ≤ 60 by omega) (show (0 : Int) + (0 : Int) ≤ (60 : Int) by omega) (show h12.2.2 60 37 ≤ 1199 by omega)) rfl ⟨_, _, rfl, (Ih12.atS rfl)⟩ rfl (fun x92 h93 rx92 p94 => ?_)
    obtain ⟨Ih93, fh93, p94_0, p94_1, p94_2⟩ := p94
    have f95 : Fr [69, 70, 71, 72, 73, 74, 75, 76, 77, 78, 79, 80, 81, 82, 83, 84, 85, 86, 87, 212, 216, 218, 219, 223, 225, 226, 228, 229, 233, 236, 237] h h93 := Fr.sub f14 fh93 rfl
    have t96 : Cch h93 := Cch_fr fh93 Ih12 rfl t15
    obtain ⟨x97, ex97⟩ : ∃ y : Int, h93.2.2 60 37 = y := ⟨_, rfl⟩
    have rx97 := Ih93.atR (a := 60) (j := 37) rfl
    rw [ex97] at rx97
    have k98 : LkF h93 m := LkF.node k17 p94_2 (Ih12.atR (a := 60) (j := 37) rfl).1 (fh93.arr Ih12 (by decide) (fun _ => rfl)) (fh93.arr Ih12 (by decide) (fun _ => rfl))
    refine to_istore_n (L' := [(0, .inr (.inr 60)), (1, .inl m), (2, .inl x92)]) (dat dk_X12_hang 23 rfl) (by decide) rfl ?_
    exact jn40_n24 x92 h93 rx92 Ih93 f95 k98 (show 0 ≤ x92 ∧ x92 < h93.2.2 60 37 by omega) (show h93.2.2 60 37 ≤ 18 * m + 2 by omega) t96
abbrev Q_X12_link (h : Hp) : Option V → Hp → Nat → Nat → Prop := RV (fun H => Inv H ∧ Fr [69, 70, 71, 72, 73, 74, 75, 76, 77, 78, 79, 80, 81, 82, 83, 84, 85, 86, 87, 212, 216, 218, 219, 223, 225, 226, 228, 229, 233, 236, 237] h H ∧ (Lkd H) ∧ (Cch H))
set_option maxRecDepth 100000 in
theorem ct_X12_link (l : Launch) (h : Hp) (hI : Inv h) (g0 : Cch h) (g1 : h.2.2 60 4 ≤ 64) : Ct l D_X12_link 8 196 [.inr (.inr 60)] h (Q_X12_link h) := by
  refine ct_of pn_X12_link (Nat.le_of_ble_eq_true rfl) ?_
  show To l E_X12_link (0, [(0, .inr (.inr 60))], [], h, 0, 0) _
  obtain ⟨x1, ex1⟩ : ∃ y : Int, h.2.2 60 4 = y := ⟨_, rfl⟩
  have rx1 := hI.atR (a := 60) (j := 4) rfl
  rw [ex1] at rx1
  obtain ⟨x2, ex2⟩ : ∃ y : Int, h.2.2 60 37 = y := ⟨_, rfl⟩
  have rx2 := hI.atR (a := 60) (j := 37) rfl
  rw [ex2] at rx2
  refine to_aload_n (dat dk_X12_link 0 rfl) rfl (to_iconst (dat dk_X12_link 1 rfl) (to_putIw p_c13_370 (dat dk_X12_link 2 rfl) (hI.atS rfl) ?_))
  intro h5 wh5
  have I3 : Inv h5 := by rw [wh5]; exact hI.put (a := 60) (j := 37) (x := 0) (0) (1200) rfl rfl (show (0 : Int) ≤ 0 ∧ 0 ≤ 1200 by decide)
  have f4 : Fr [69, 70, 71, 72, 73, 74, 75, 76, 77, 78, 79, 80, 81, 82, 83, 84, 85, 86, 87, 212, 216, 218, 219, 223, 225, 226, 228, 229, 233, 236, 237] h h5 := by rw [wh5]; exact Fr.putF (a := 60) (j := 37) (x := 0) (Fr.rf _ _) rfl
  have t6 : Cch h5 := by rw [wh5]; exact Cch_wr rfl g0
  refine to_iconst (dat dk_X12_link 3 rfl) (to_istore_n (L' := [(0, .inr (.inr 60)), (1, .inl 0)]) (dat dk_X12_link 4 rfl) (by decide) rfl ?_)
  have e11 : h5.2.2 60 37 = (0 : Int) := (by rw [wh5]; exact wr_eq)
  have e13 : h5.2.2 60 4 = x1 := (by rw [wh5]; exact ex1)
  have lp7_n15 : ∀ (n15 : Nat) (y7 : Int) (h8 : Hp), (I32 y7) → (Inv h8) → (Fr [69, 70, 71, 72, 73, 74, 75, 76, 77, 78, 79, 80, 81, 82, 83, 84, 85, 86, 87, 212, 216, 218, 219, 223, 225, 226, 228, 229, 233, 236, 237] h h8) → (LkF h8 y7) → (Cch h8) → (h8.2.2 60 37 ≤ 18 * y7) → (0 ≤ y7 ∧ y7 ≤ h8.2.2 60 4) → (h8.2.2 60 4 - y7 ≤ (n15 : Int)) → To l E_X12_link (7, [(0, .inr (.inr 60)), (1, .inl y7)], [], h8, 0, 0) (Q_X12_link h) := by
    intro n15
    induction n15 using Nat.strongRecOn with
    | _ n15 ihn15 =>
    intro y7 h8 ry7 Ih8 fh8 c9 c10 c12 c14 c16
    obtain ⟨x17, ex17⟩ : ∃ y : Int, h8.2.2 60 37 = y := ⟨_, rfl⟩
    have rx17 := Ih8.atR (a := 60) (j := 37) rfl
    rw [ex17] at rx17
    have e18 : h8.2.2 60 4 = x1 := ((Fr.get fh8 (by have := hI.1.1; omega) rfl).trans ex1)
    refine to_iload_n (dat dk_X12_link 5 rfl) rfl (to_aload_n (dat dk_X12_link 6 rfl) rfl (to_getIv (y := x1) e18 g_c13_382 (dat dk_X12_link 7 rfl) (Ih8.atS rfl) ?_))
    refine to_ige 35 (dat dk_X12_link 8 rfl) rfl ry7 (by omega) (fun c19 => ?_) (fun c19 => ?_)
    · skip
      exact to_vret rfl (dat dk_X12_link 19 rfl) (rv_mk ⟨Ih8, fh8, (by unfold Lkd; rw [show h8.2.2 60 4 = y7 by omega]; exact c9), c10⟩)
    · skip
      refine to_aload_n (dat dk_X12_link 9 rfl) rfl (to_getR 65 g_c13_24 (dat dk_X12_link 10 rfl) (Ih8.atS rfl) (Ih8.atE rfl) (to_iload_n (dat dk_X12_link 11 rfl) rfl ?_))
      obtain ⟨x20, ex20⟩ : ∃ y : Int, h8.2.2 65 (Int.toNat y7) = y := ⟨_, rfl⟩
      have rx20 := Ih8.atR (a := 65) (j := Int.toNat y7) rfl
      rw [ex20] at rx20
      refine to_baldv (q := 2) ex20 (dat dk_X12_link 12 rfl) (by decide) (Ih8.atS rfl) rfl (by decide) (by omega) ?_
      refine to_ifeq 29 (dat dk_X12_link 13 rfl) rfl (by omega) (fun c21 => ?_) (fun c21 => ?_)
      · skip
        refine to_iinc (L' := [(0, .inr (.inr 60)), (1, .inl (y7 + 1))]) (dat dk_X12_link 17 rfl) rfl (by decide) rfl (to_goto (dat dk_X12_link 18 rfl) rfl ?_)
        exact ihn15 (n15 - 1) (by omega) (y7 + 1) h8 (by omega) Ih8 fh8 (LkF.mono c9 (show h8.2.2 65 (Int.toNat y7) = 0 by omega) rfl (by omega)) c10 (show h8.2.2 60 37 ≤ 18 * (y7 + 1) by omega) (show 0 ≤ (y7 + 1) ∧ (y7 + 1) ≤ h8.2.2 60 4 by omega) (show h8.2.2 60 4 - (y7 + 1) ≤ ((n15 - 1 : Nat) : Int) by omega)
      · skip
        refine to_aload_n (dat dk_X12_link 14 rfl) rfl (to_iload_n (dat dk_X12_link 15 rfl) rfl ?_)
        refine to_cV ca_c13_385 (dat dk_X12_link 16 rfl) (ct_X12_hang l h8 Ih8 y7 ry7 c10 (show 0 ≤ y7 ∧ y7 < h8.2.2 60 4 by omega) (show h8.2.2 60 37 ≤ 18 * y7 by omega) (show y7 ≤ 63 by omega) c9) rfl ⟨_, _, rfl, (Ih8.atS rfl)⟩ rfl (fun h23 p24 => ?_)
        obtain ⟨Ih23, fh23, p24_0, p24_1, p24_2⟩ := p24
        have f25 : Fr [69, 70, 71, 72, 73, 74, 75, 76, 77, 78, 79, 80, 81, 82, 83, 84, 85, 86, 87, 212, 216, 218, 219, 223, 225, 226, 228, 229, 233, 236, 237] h h23 := Fr.sub fh8 fh23 (sub_self _)
        obtain ⟨x26, ex26⟩ : ∃ y : Int, h23.2.2 60 37 = y := ⟨_, rfl⟩
        have rx26 := Ih23.atR (a := 60) (j := 37) rfl
        rw [ex26] at rx26
        refine to_iinc (L' := [(0, .inr (.inr 60)), (1, .inl (y7 + 1))]) (dat dk_X12_link 17 rfl) rfl (by decide) rfl (to_goto (dat dk_X12_link 18 rfl) rfl ?_)
        have e27 : h23.2.2 60 4 = x1 := ((Fr.get fh23 (by have := Ih8.1.1; omega) rfl).trans e18)
        exact ihn15 (n15 - 1) (by omega) (y7 + 1) h23 (by omega) Ih23 f25 p24_0 p24_2 (show h23.2.2 60 37 ≤ 18 * (y7 + 1) by omega) (show 0 ≤ (y7 + 1) ∧ (y7 + 1) ≤ h23.2.2 60 4 by omega) (show h23.2.2 60 4 - (y7 + 1) ≤ ((n15 - 1 : Nat) : Int) by omega)
  exact lp7_n15 (h5.2.2 60 4 - (0 : Int)).toNat 0 h5 (by decide) I3 f4 (by rw [wh5]; exact LkF.zero) t6 (show h5.2.2 60 37 ≤ 18 * (0 : Int) by omega) (show 0 ≤ (0 : Int) ∧ (0 : Int) ≤ h5.2.2 60 4 by omega) (by omega)
