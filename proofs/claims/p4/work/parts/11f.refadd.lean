/-! Contracts, by program. -/
abbrev Q_X12_add_vbd (h : Hp) : Option V → Hp → Nat → Nat → Prop := RI (fun x H => Inv H ∧ Fr [63, 64, 65, 68, 200, 203, 204, 205] h H ∧ ((h.2.2 60 5 = 60 ∨ h.2.2 60 4 = 200) ∧ H.2.2 60 0 = 1 ∧ H.2.2 60 3 = h.2.2 60 3 ∧ H.2.2 60 4 = h.2.2 60 4 ∧ H.2.2 60 5 = h.2.2 60 5 ∧ H.2.2 65 = h.2.2 65 ∧ H.2.2 64 = h.2.2 64 ∨ (h.2.2 60 5 ≠ 60 ∧ h.2.2 60 4 ≠ 200) ∧ (H.2.2 60 0 = 0 ∧ x = h.2.2 60 4) ∧ H.2.2 60 3 = 0 ∧ H.2.2 60 4 = h.2.2 60 4 + 1 ∧ H.2.2 60 5 = h.2.2 60 5 + 1 ∧ (∀ j : Nat, H.2.2 65 j = if j = Int.toNat (h.2.2 60 4) then 1 else h.2.2 65 j) ∧ (∀ j : Nat, H.2.2 64 j = if j = Int.toNat (h.2.2 60 4) then h.2.2 60 3 else h.2.2 64 j)))
set_option maxRecDepth 100000 in
theorem ct_X12_add_vbd (l : Launch) (h : Hp) (hI : Inv h) (g0 : 0 ≤ h.2.2 60 5 ∧ h.2.2 60 5 ≤ 60) : Ct l D_X12_add 1 21 [.inr (.inr 60)] h (Q_X12_add_vbd h) := by
  refine ct_of pn_X12_add (Nat.le_of_ble_eq_true rfl) ?_
  show To l E_X12_add (0, [(0, .inr (.inr 60))], [], h, 0, 0) _
  obtain ⟨x1, ex1⟩ : ∃ y : Int, h.2.2 60 5 = y := ⟨_, rfl⟩
  have rx1 := hI.atR (a := 60) (j := 5) rfl
  rw [ex1] at rx1
  obtain ⟨x2, ex2⟩ : ∃ y : Int, h.2.2 60 4 = y := ⟨_, rfl⟩
  have rx2 := hI.atR (a := 60) (j := 4) rfl
  rw [ex2] at rx2
  obtain ⟨x3, ex3⟩ : ∃ y : Int, h.2.2 60 0 = y := ⟨_, rfl⟩
  have rx3 := hI.atR (a := 60) (j := 0) rfl
  rw [ex3] at rx3
  obtain ⟨x4, ex4⟩ : ∃ y : Int, h.2.2 60 3 = y := ⟨_, rfl⟩
  have rx4 := hI.atR (a := 60) (j := 3) rfl
  rw [ex4] at rx4
  refine to_aload_n (dat dk_X12_add 0 rfl) rfl ?_
  have jn25_n7 : ∀ (y5 : Int), (y5 = 0 ∨ y5 = 1) → ((y5 = 1 ∧ (h.2.2 60 5 = 60 ∨ h.2.2 60 4 = 200)) ∨ (y5 = 0 ∧ h.2.2 60 5 ≠ 60 ∧ h.2.2 60 4 ≠ 200)) → To l E_X12_add (25, [(0, .inr (.inr 60))], [.inl y5, .inr (.inr 60)], h, 0, 0) (Q_X12_add_vbd h) := by
    intro y5 ry5 c6
    replace ry5 := z_lin ry5
    refine to_putIw p_c13_154 (dat dk_X12_add 12 rfl) (hI.atS rfl) ?_
    intro h10 wh10
    have I8 : Inv h10 := by rw [wh10]; exact hI.put (a := 60) (j := 0) (x := y5) (0) (3) rfl rfl (show (0 : Int) ≤ y5 ∧ y5 ≤ 3 by omega)
    have f9 : Fr [63, 64, 65, 68, 200, 203, 204, 205] h h10 := by rw [wh10]; exact Fr.putF (a := 60) (j := 0) (x := y5) (Fr.rf _ _) rfl
    refine to_aload_n (dat dk_X12_add 13 rfl) rfl (to_getIv (y := y5) (by rw [wh10]; exact wr_eq) g_c13_154 (dat dk_X12_add 14 rfl) (I8.atS rfl) ?_)
    refine to_ifle 37 (dat dk_X12_add 15 rfl) rfl (z_i32 ry5) (fun c11 => ?_) (fun c11 => ?_)
    · skip
      refine to_aload_n (dat dk_X12_add 18 rfl) rfl ?_
      have e12 : h10.2.2 60 3 = x4 := (by rw [wh10]; exact ex4)
      refine to_cI ca_c13_502 (dat dk_X12_add 19 rfl) (ct_X12_take l h10 I8 ) rfl ⟨_, _, rfl, (I8.atS rfl)⟩ rfl (fun x13 h14 rx13 p15 => ?_)
      obtain ⟨Ih14, fh14, p15_0, p15_1⟩ := p15
      have f16 : Fr [63, 64, 65, 68, 200, 203, 204, 205] h h14 := Fr.sub f9 fh14 rfl
      obtain ⟨x17, ex17⟩ : ∃ y : Int, h14.2.2 60 3 = y := ⟨_, rfl⟩
      have rx17 := Ih14.atR (a := 60) (j := 3) rfl
      rw [ex17] at rx17
      refine to_istore_n (L' := [(0, .inr (.inr 60)), (1, .inl x13)]) (dat dk_X12_add 20 rfl) (by decide) rfl (to_iconst (dat dk_X12_add 21 rfl) (to_istore_n (L' := [(0, .inr (.inr 60)), (1, .inl x13), (2, .inl 0)]) (dat dk_X12_add 22 rfl) (by decide) rfl ?_))
      have e21 : h14.2.2 60 4 = x2 := ((Fr.get fh14 (by have := I8.1.1; omega) rfl).trans (by rw [wh10]; exact ex2))
      have e24 : h14.2.2 60 5 = x1 := ((Fr.get fh14 (by have := I8.1.1; omega) rfl).trans (by rw [wh10]; exact ex1))
      have e28 : h14.2.2 60 0 = y5 := ((Fr.get fh14 (by have := I8.1.1; omega) rfl).trans (by rw [wh10]; exact wr_eq))
      have lp44_n30 : ∀ (n30 : Nat) (y18 : Int) (h19 : Hp), (I32 y18) → (Inv h19) → (Fr [63, 64, 65, 68, 200, 203, 204, 205] h h19) → (0 ≤ y18) → (h19.2.2 60 4 = h.2.2 60 4) → (h19.2.2 60 3 = 0) → (h19.2.2 60 5 = h.2.2 60 5) → (h19.2.2 65 = h.2.2 65) → (h19.2.2 64 = h.2.2 64) → (h19.2.2 60 0 = 0) → (x13 - y18 ≤ (n30 : Int)) → To l E_X12_add (44, [(0, .inr (.inr 60)), (1, .inl x13), (2, .inl y18)], [], h19, 0, 0) (Q_X12_add_vbd h) := by
        intro n30
        induction n30 using Nat.strongRecOn with
        | _ n30 ihn30 =>
        intro y18 h19 ry18 Ih19 fh19 c20 c22 c23 c25 c26 c27 c29 c31
        obtain ⟨x32, ex32⟩ : ∃ y : Int, h19.2.2 60 4 = y := ⟨_, rfl⟩
        have rx32 := Ih19.atR (a := 60) (j := 4) rfl
        rw [ex32] at rx32
        obtain ⟨x33, ex33⟩ : ∃ y : Int, h19.2.2 60 3 = y := ⟨_, rfl⟩
        have rx33 := Ih19.atR (a := 60) (j := 3) rfl
        rw [ex33] at rx33
        obtain ⟨x34, ex34⟩ : ∃ y : Int, h19.2.2 60 5 = y := ⟨_, rfl⟩
        have rx34 := Ih19.atR (a := 60) (j := 5) rfl
        rw [ex34] at rx34
        obtain ⟨x35, ex35⟩ : ∃ y : Int, h19.2.2 60 0 = y := ⟨_, rfl⟩
        have rx35 := Ih19.atR (a := 60) (j := 0) rfl
        rw [ex35] at rx35
        refine to_iload_n (dat dk_X12_add 23 rfl) rfl (to_iload_n (dat dk_X12_add 24 rfl) rfl ?_)
        refine to_ige 76 (dat dk_X12_add 25 rfl) rfl ry18 rx13 (fun c36 => ?_) (fun c36 => ?_)
        · skip
          refine to_aload_n (dat dk_X12_add 41 rfl) rfl (to_getR 64 g_c13_20 (dat dk_X12_add 42 rfl) (Ih19.atS rfl) (Ih19.atE rfl) (to_aload_n (dat dk_X12_add 43 rfl) rfl (to_getIv (y := x32) ex32 g_c13_382 (dat dk_X12_add 44 rfl) (Ih19.atS rfl) (to_iload_n (dat dk_X12_add 45 rfl) rfl (to_iastw (dat dk_X12_add 46 rfl) (Ih19.atS rfl) rfl (by decide) (by omega) ?_)))))
          intro h39 wh39
          have I37 : Inv h39 := by rw [wh39]; exact Ih19.put (a := 64) (j := (Int.toNat x32)) (x := x13) (0) (1200) rfl rfl (show (0 : Int) ≤ x13 ∧ x13 ≤ 1200 by omega)
          have f38 : Fr [63, 64, 65, 68, 200, 203, 204, 205] h h39 := by rw [wh39]; exact Fr.putF (a := 64) (j := (Int.toNat x32)) (x := x13) fh19 rfl
          refine to_aload_n (dat dk_X12_add 47 rfl) rfl (to_getR 65 g_c13_24 (dat dk_X12_add 48 rfl) (I37.atS rfl) (I37.atE rfl) (to_aload_n (dat dk_X12_add 49 rfl) rfl (to_getIv (y := x32) (by rw [wh39]; exact ex32) g_c13_382 (dat dk_X12_add 50 rfl) (I37.atS rfl) (to_iconst (dat dk_X12_add 51 rfl) (to_zastw (dat dk_X12_add 52 rfl) (I37.atS rfl) rfl (by decide) (by omega) (by decide) ?_)))))
          intro h42 wh42
          have I40 : Inv h42 := by rw [wh42]; exact I37.put (a := 65) (j := (Int.toNat x32)) (x := 1) (0) (1) rfl rfl (show (0 : Int) ≤ 1 ∧ 1 ≤ 1 by decide)
          have f41 : Fr [63, 64, 65, 68, 200, 203, 204, 205] h h42 := by rw [wh42]; exact Fr.putF (a := 65) (j := (Int.toNat x32)) (x := 1) f38 rfl
          refine to_aload_n (dat dk_X12_add 53 rfl) rfl (to_getR 68 g_c13_34 (dat dk_X12_add 54 rfl) (I40.atS rfl) (I40.atE rfl) (to_aload_n (dat dk_X12_add 55 rfl) rfl (to_getIv (y := x32) (by rw [wh42]; exact (show h39.2.2 60 4 = x32 from (by rw [wh39]; exact ex32))) g_c13_382 (dat dk_X12_add 56 rfl) (I40.atS rfl) (to_iconst (dat dk_X12_add 57 rfl) (to_iastw (dat dk_X12_add 58 rfl) (I40.atS rfl) rfl (by decide) (by omega) ?_)))))
          intro h45 wh45
          have I43 : Inv h45 := by rw [wh45]; exact I40.put (a := 68) (j := (Int.toNat x32)) (x := 0) (0) (8) rfl rfl (show (0 : Int) ≤ 0 ∧ 0 ≤ 8 by decide)
          have f44 : Fr [63, 64, 65, 68, 200, 203, 204, 205] h h45 := by rw [wh45]; exact Fr.putF (a := 68) (j := (Int.toNat x32)) (x := 0) f41 rfl
          refine to_aload_n (dat dk_X12_add 59 rfl) rfl (to_dup (dat dk_X12_add 60 rfl) rfl (to_getIv (y := x32) (by rw [wh45]; exact (show h42.2.2 60 4 = x32 from (by rw [wh42]; exact (show h39.2.2 60 4 = x32 from (by rw [wh39]; exact ex32))))) g_c13_382 (dat dk_X12_add 61 rfl) (I43.atS rfl) (to_iconst (dat dk_X12_add 62 rfl) (to_iadd (dat dk_X12_add 63 rfl) (to_putIw p_c13_382 (dat dk_X12_add 64 rfl) (I43.atS rfl) ?_)))))
          intro h48 wh48
          have I46 : Inv h48 := by rw [wh48]; exact I43.put (a := 60) (j := 4) (x := (x32 + 1)) (0) (200) rfl rfl (show (0 : Int) ≤ (x32 + 1) ∧ (x32 + 1) ≤ 200 by omega)
          have f47 : Fr [63, 64, 65, 68, 200, 203, 204, 205] h h48 := by rw [wh48]; exact Fr.putF (a := 60) (j := 4) (x := (x32 + 1)) f44 rfl
          refine to_aload_n (dat dk_X12_add 65 rfl) rfl (to_dup (dat dk_X12_add 66 rfl) rfl (to_getIv (y := x34) (by rw [wh48]; exact (show h45.2.2 60 5 = x34 from (by rw [wh45]; exact (show h42.2.2 60 5 = x34 from (by rw [wh42]; exact (show h39.2.2 60 5 = x34 from (by rw [wh39]; exact ex34))))))) g_c13_499 (dat dk_X12_add 67 rfl) (I46.atS rfl) (to_iconst (dat dk_X12_add 68 rfl) (to_iadd (dat dk_X12_add 69 rfl) (to_putIw p_c13_499 (dat dk_X12_add 70 rfl) (I46.atS rfl) ?_)))))
          intro h51 wh51
          have I49 : Inv h51 := by rw [wh51]; exact I46.put (a := 60) (j := 5) (x := (x34 + 1)) (-2147483648) (2147483647) rfl rfl (show (-2147483648 : Int) ≤ (x34 + 1) ∧ (x34 + 1) ≤ 2147483647 by omega)
          have f50 : Fr [63, 64, 65, 68, 200, 203, 204, 205] h h51 := by rw [wh51]; exact Fr.putF (a := 60) (j := 5) (x := (x34 + 1)) f47 rfl
          refine to_aload_n (dat dk_X12_add 71 rfl) rfl (to_getIv (y := (x32 + 1)) (by rw [wh51]; exact (show h48.2.2 60 4 = (x32 + 1) from (by rw [wh48]; exact wr_eq))) g_c13_382 (dat dk_X12_add 72 rfl) (I49.atS rfl) (to_iconst (dat dk_X12_add 73 rfl) (to_isub (dat dk_X12_add 74 rfl) ?_)))
          have e52 : h51.2.2 60 0 = x35 := (by rw [wh51]; exact (show h48.2.2 60 0 = x35 from (by rw [wh48]; exact (show h45.2.2 60 0 = x35 from (by rw [wh45]; exact (show h42.2.2 60 0 = x35 from (by rw [wh42]; exact (show h39.2.2 60 0 = x35 from (by rw [wh39]; exact ex35)))))))))
          have e53 : h51.2.2 60 3 = x33 := (by rw [wh51]; exact (show h48.2.2 60 3 = x33 from (by rw [wh48]; exact (show h45.2.2 60 3 = x33 from (by rw [wh45]; exact (show h42.2.2 60 3 = x33 from (by rw [wh42]; exact (show h39.2.2 60 3 = x33 from (by rw [wh39]; exact ex33)))))))))
          have e54 : h51.2.2 60 4 = (x32 + 1) := (by rw [wh51]; exact (show h48.2.2 60 4 = (x32 + 1) from (by rw [wh48]; exact wr_eq)))
          have e55 : h51.2.2 60 5 = (x34 + 1) := (by rw [wh51]; exact wr_eq)
          exact to_iret rfl (dat dk_X12_add 75 rfl) (ri_mk (by omega) ⟨I49, f50, (Or.inr ⟨by omega, ⟨by omega, by omega⟩, by omega, by omega, by omega, fun j => by rw [wh51, wr_ne (by decide), wh48, wr_ne (by decide), wh45, wr_ne (by decide), wh42, wr_if, wh39, wr_ne (by decide), c26]; simp only [true_and]; congr 2; omega, fun j => by rw [wh51, wr_ne (by decide), wh48, wr_ne (by decide), wh45, wr_ne (by decide), wh42, wr_ne (by decide), wh39, wr_if, c27]; simp only [true_and]; congr 2 <;> omega⟩)⟩)
        · skip
          refine to_aload_n (dat dk_X12_add 26 rfl) rfl (to_getR 63 g_c13_17 (dat dk_X12_add 27 rfl) (Ih19.atS rfl) (Ih19.atE rfl) (to_sipush (dat dk_X12_add 28 rfl) (by decide) (to_aload_n (dat dk_X12_add 29 rfl) rfl (to_getIv (y := x32) ex32 g_c13_382 (dat dk_X12_add 30 rfl) (Ih19.atS rfl) (to_imul (dat dk_X12_add 31 rfl) (to_iload_n (dat dk_X12_add 32 rfl) rfl (to_iadd (dat dk_X12_add 33 rfl) (to_aload_n (dat dk_X12_add 34 rfl) rfl (to_getR 62 g_c13_13 (dat dk_X12_add 35 rfl) (Ih19.atS rfl) (Ih19.atE rfl) (to_iload_n (dat dk_X12_add 36 rfl) rfl ?_))))))))))
          obtain ⟨x56, ex56⟩ : ∃ y : Int, h19.2.2 62 (Int.toNat y18) = y := ⟨_, rfl⟩
          have rx56 := Ih19.atR (a := 62) (j := Int.toNat y18) rfl
          rw [ex56] at rx56
          refine to_baldv (q := 1) ex56 (dat dk_X12_add 37 rfl) (by decide) (Ih19.atS rfl) rfl (by decide) (by omega) (to_bastw (dat dk_X12_add 38 rfl) (Ih19.atS rfl) rfl (by decide) (by omega) ?_)
          intro h59 wh59
          have I57 : Inv h59 := by rw [wh59]; exact Ih19.put (a := 63) (j := (Int.toNat ((1200 * x32) + y18))) (x := (b8 x56)) (-128) (127) rfl rfl (show (-128 : Int) ≤ (b8 x56) ∧ (b8 x56) ≤ 127 by have := b8_in x56; omega)
          have f58 : Fr [63, 64, 65, 68, 200, 203, 204, 205] h h59 := by rw [wh59]; exact Fr.putF (a := 63) (j := (Int.toNat ((1200 * x32) + y18))) (x := (b8 x56)) fh19 rfl
          refine to_iinc (L' := [(0, .inr (.inr 60)), (1, .inl x13), (2, .inl (y18 + 1))]) (dat dk_X12_add 39 rfl) rfl (by decide) rfl (to_goto (dat dk_X12_add 40 rfl) rfl ?_)
          have e60 : h59.2.2 60 4 = x32 := (by rw [wh59]; exact ex32)
          have e61 : h59.2.2 60 3 = x33 := (by rw [wh59]; exact ex33)
          have e62 : h59.2.2 60 5 = x34 := (by rw [wh59]; exact ex34)
          have e63 : h59.2.2 60 0 = x35 := (by rw [wh59]; exact ex35)
          exact ihn30 (n30 - 1) (by omega) (y18 + 1) h59 (by omega) I57 f58 (show 0 ≤ (y18 + 1) by omega) (show h59.2.2 60 4 = h.2.2 60 4 by omega) (show h59.2.2 60 3 = 0 by omega) (show h59.2.2 60 5 = h.2.2 60 5 by omega) (by rw [wh59]; exact (funext fun i => wr_ne (by decide)).trans c26) (by rw [wh59]; exact (funext fun i => wr_ne (by decide)).trans c27) (show h59.2.2 60 0 = 0 by omega) (show x13 - (y18 + 1) ≤ ((n30 - 1 : Nat) : Int) by omega)
      exact lp44_n30 (x13 - (0 : Int)).toNat 0 h14 (by decide) Ih14 f16 (show 0 ≤ (0 : Int) by omega) (show h14.2.2 60 4 = h.2.2 60 4 by omega) (show h14.2.2 60 3 = 0 by omega) (show h14.2.2 60 5 = h.2.2 60 5 by omega) ((Fr.arr fh14 I8 (by decide) (fun _ => rfl)).trans (show h10.2.2 65 = h.2.2 65 by rw [wh10]; exact funext fun i => wr_ne (by decide))) ((Fr.arr fh14 I8 (by decide) (fun _ => rfl)).trans (show h10.2.2 64 = h.2.2 64 by rw [wh10]; exact funext fun i => wr_ne (by decide))) (show h14.2.2 60 0 = 0 by omega) (by omega)
    · skip
      refine to_iconst (dat dk_X12_add 16 rfl) ?_
      have e64 : h10.2.2 60 0 = y5 := (by rw [wh10]; exact wr_eq)
      have e65 : h10.2.2 60 3 = x4 := (by rw [wh10]; exact ex4)
      have e66 : h10.2.2 60 4 = x2 := (by rw [wh10]; exact ex2)
      have e67 : h10.2.2 60 5 = x1 := (by rw [wh10]; exact ex1)
      exact to_iret rfl (dat dk_X12_add 17 rfl) (ri_mk (by decide) ⟨I8, f9, (Or.inl ⟨by omega, by omega, by omega, by omega, by omega, by rw [wh10]; exact funext fun i => wr_ne (by decide), by rw [wh10]; exact funext fun i => wr_ne (by decide)⟩)⟩)
  refine to_aload_n (dat dk_X12_add 1 rfl) rfl (to_getIv (y := x1) ex1 g_c13_499 (dat dk_X12_add 2 rfl) (hI.atS rfl) (to_bipush (dat dk_X12_add 3 rfl) (by decide) ?_))
  refine to_ieq 20 (dat dk_X12_add 4 rfl) rfl (by omega) (by decide) (fun c68 => ?_) (fun c68 => ?_)
  · skip
    refine to_iconst (dat dk_X12_add 9 rfl) (to_goto (dat dk_X12_add 10 rfl) rfl ?_)
    exact jn25_n7 1 (by decide) (show ((1 : Int) = 1 ∧ (h.2.2 60 5 = 60 ∨ h.2.2 60 4 = 200)) ∨ ((1 : Int) = 0 ∧ h.2.2 60 5 ≠ 60 ∧ h.2.2 60 4 ≠ 200) by omega)
  · skip
    refine to_aload_n (dat dk_X12_add 5 rfl) rfl (to_getIv (y := x2) ex2 g_c13_382 (dat dk_X12_add 6 rfl) (hI.atS rfl) (to_sipush (dat dk_X12_add 7 rfl) (by decide) ?_))
    refine to_ine 24 (dat dk_X12_add 8 rfl) rfl (by omega) (by decide) (fun c69 => ?_) (fun c69 => ?_)
    · skip
      refine to_iconst (dat dk_X12_add 11 rfl) ?_
      exact jn25_n7 0 (by decide) (show ((0 : Int) = 1 ∧ (h.2.2 60 5 = 60 ∨ h.2.2 60 4 = 200)) ∨ ((0 : Int) = 0 ∧ h.2.2 60 5 ≠ 60 ∧ h.2.2 60 4 ≠ 200) by omega)
    · skip
      refine to_iconst (dat dk_X12_add 9 rfl) (to_goto (dat dk_X12_add 10 rfl) rfl ?_)
      exact jn25_n7 1 (by decide) (show ((1 : Int) = 1 ∧ (h.2.2 60 5 = 60 ∨ h.2.2 60 4 = 200)) ∨ ((1 : Int) = 0 ∧ h.2.2 60 5 ≠ 60 ∧ h.2.2 60 4 ≠ 200) by omega)
