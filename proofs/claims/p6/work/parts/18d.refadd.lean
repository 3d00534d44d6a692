/-! Contracts, by program. -/
abbrev Q_X12_add_vb6 (h : Hp) : Option V → Hp → Nat → Nat → Prop := RI (fun x H => Inv H ∧ Fr [63, 64, 65, 68, 200, 203, 204, 205] h H ∧ ((h.2.2 60 5 = 60 ∨ h.2.2 60 4 = 200) ∧ H.2.2 60 3 = h.2.2 60 3 ∧ H.2.2 60 4 = h.2.2 60 4 ∧ H.2.2 60 5 = h.2.2 60 5 ∧ H.2.2 65 = h.2.2 65 ∧ H.2.2 64 = h.2.2 64 ∨ (h.2.2 60 5 ≠ 60 ∧ h.2.2 60 4 ≠ 200) ∧ H.2.2 60 3 = 0 ∧ H.2.2 60 4 = h.2.2 60 4 + 1 ∧ H.2.2 60 5 = h.2.2 60 5 + 1 ∧ (∀ j : Nat, H.2.2 65 j = if j = Int.toNat (h.2.2 60 4) then 1 else h.2.2 65 j) ∧ (∀ j : Nat, H.2.2 64 j = if j = Int.toNat (h.2.2 60 4) then h.2.2 60 3 else h.2.2 64 j)) ∧ ((H.2.2 60 4 = h.2.2 60 4 ∧ H.2.2 68 = h.2.2 68) ∨ (H.2.2 60 4 = h.2.2 60 4 + 1 ∧ ∀ j : Nat, H.2.2 68 j = if j = Int.toNat (h.2.2 60 4) then 0 else h.2.2 68 j)))
set_option maxRecDepth 100000 in
theorem ct_X12_add_vb6 (l : Launch) (h : Hp) (hI : Inv h) (g0 : 0 ≤ h.2.2 60 5 ∧ h.2.2 60 5 ≤ 60) : Ct l D_X12_add 1 21 [.inr (.inr 60)] h (Q_X12_add_vb6 h) := by
  refine ct_of pn_X12_add (Nat.le_of_ble_eq_true rfl) ?_
  show To l E_X12_add (0, [(0, .inr (.inr 60))], [], h, 0, 0) _
  obtain ⟨x1, ex1⟩ : ∃ y : Int, h.2.2 60 5 = y := ⟨_, rfl⟩
  have rx1 := hI.atR (a := 60) (j := 5) rfl
  rw [ex1] at rx1
  obtain ⟨x2, ex2⟩ : ∃ y : Int, h.2.2 60 4 = y := ⟨_, rfl⟩
  have rx2 := hI.atR (a := 60) (j := 4) rfl
  rw [ex2] at rx2
  obtain ⟨x3, ex3⟩ : ∃ y : Int, h.2.2 60 3 = y := ⟨_, rfl⟩
  have rx3 := hI.atR (a := 60) (j := 3) rfl
  rw [ex3] at rx3
  refine to_aload_n (dat dk_X12_add 0 rfl) rfl ?_
  have jn25_n6 : ∀ (y4 : Int), (y4 = 0 ∨ y4 = 1) → ((y4 = 1 ∧ (h.2.2 60 5 = 60 ∨ h.2.2 60 4 = 200)) ∨ (y4 = 0 ∧ h.2.2 60 5 ≠ 60 ∧ h.2.2 60 4 ≠ 200)) → To l E_X12_add (25, [(0, .inr (.inr 60))], [.inl y4, .inr (.inr 60)], h, 0, 0) (Q_X12_add_vb6 h) := by
    intro y4 ry4 c5
    replace ry4 := z_lin ry4
    refine to_putIw p_c13_154 (dat dk_X12_add 12 rfl) (hI.atS rfl) ?_
    intro h9 wh9
    have I7 : Inv h9 := by rw [wh9]; exact hI.put (a := 60) (j := 0) (x := y4) (0) (3) rfl rfl (show (0 : Int) ≤ y4 ∧ y4 ≤ 3 by omega)
    have f8 : Fr [63, 64, 65, 68, 200, 203, 204, 205] h h9 := by rw [wh9]; exact Fr.putF (a := 60) (j := 0) (x := y4) (Fr.rf _ _) rfl
    refine to_aload_n (dat dk_X12_add 13 rfl) rfl (to_getIv (y := y4) (by rw [wh9]; exact wr_eq) g_c13_154 (dat dk_X12_add 14 rfl) (I7.atS rfl) ?_)
    refine to_ifle 37 (dat dk_X12_add 15 rfl) rfl (z_i32 ry4) (fun c10 => ?_) (fun c10 => ?_)
    · skip
      refine to_aload_n (dat dk_X12_add 18 rfl) rfl ?_
      have e11 : h9.2.2 60 3 = x3 := (by rw [wh9]; exact ex3)
      refine to_cI ca_c13_502 (dat dk_X12_add 19 rfl) (ct_X12_take l h9 I7 ) rfl ⟨_, _, rfl, (I7.atS rfl)⟩ rfl (fun x12 h13 rx12 p14 => ?_)
      obtain ⟨Ih13, fh13, p14_0, p14_1⟩ := p14
      have f15 : Fr [63, 64, 65, 68, 200, 203, 204, 205] h h13 := Fr.sub f8 fh13 rfl
      obtain ⟨x16, ex16⟩ : ∃ y : Int, h13.2.2 60 3 = y := ⟨_, rfl⟩
      have rx16 := Ih13.atR (a := 60) (j := 3) rfl
      rw [ex16] at rx16
      refine to_istore_n (L' := [(0, .inr (.inr 60)), (1, .inl x12)]) (dat dk_X12_add 20 rfl) (by decide) rfl (to_iconst (dat dk_X12_add 21 rfl) (to_istore_n (L' := [(0, .inr (.inr 60)), (1, .inl x12), (2, .inl 0)]) (dat dk_X12_add 22 rfl) (by decide) rfl ?_))
      have e20 : h13.2.2 60 4 = x2 := ((Fr.get fh13 (by have := I7.1.1; omega) rfl).trans (by rw [wh9]; exact ex2))
      have e23 : h13.2.2 60 5 = x1 := ((Fr.get fh13 (by have := I7.1.1; omega) rfl).trans (by rw [wh9]; exact ex1))
      have lp44_n28 : ∀ (n28 : Nat) (y17 : Int) (h18 : Hp), (I32 y17) → (Inv h18) → (Fr [63, 64, 65, 68, 200, 203, 204, 205] h h18) → (0 ≤ y17) → (h18.2.2 60 4 = h.2.2 60 4) → (h18.2.2 60 3 = 0) → (h18.2.2 60 5 = h.2.2 60 5) → (h18.2.2 65 = h.2.2 65) → (h18.2.2 64 = h.2.2 64) → (h18.2.2 68 = h.2.2 68) → (x12 - y17 ≤ (n28 : Int)) → To l E_X12_add (44, [(0, .inr (.inr 60)), (1, .inl x12), (2, .inl y17)], [], h18, 0, 0) (Q_X12_add_vb6 h) := by
        intro n28
        induction n28 using Nat.strongRecOn with
        | _ n28 ihn28 =>
        intro y17 h18 ry17 Ih18 fh18 c19 c21 c22 c24 c25 c26 c27 c29
        obtain ⟨x30, ex30⟩ : ∃ y : Int, h18.2.2 60 4 = y := ⟨_, rfl⟩
        have rx30 := Ih18.atR (a := 60) (j := 4) rfl
        rw [ex30] at rx30
        obtain ⟨x31, ex31⟩ : ∃ y : Int, h18.2.2 60 3 = y := ⟨_, rfl⟩
        have rx31 := Ih18.atR (a := 60) (j := 3) rfl
        rw [ex31] at rx31
        obtain ⟨x32, ex32⟩ : ∃ y : Int, h18.2.2 60 5 = y := ⟨_, rfl⟩
        have rx32 := Ih18.atR (a := 60) (j := 5) rfl
        rw [ex32] at rx32
        refine to_iload_n (dat dk_X12_add 23 rfl) rfl (to_iload_n (dat dk_X12_add 24 rfl) rfl ?_)
        refine to_ige 76 (dat dk_X12_add 25 rfl) rfl ry17 rx12 (fun c33 => ?_) (fun c33 => ?_)
        · skip
          refine to_aload_n (dat dk_X12_add 41 rfl) rfl (to_getR 64 g_c13_20 (dat dk_X12_add 42 rfl) (Ih18.atS rfl) (Ih18.atE rfl) (to_aload_n (dat dk_X12_add 43 rfl) rfl (to_getIv (y := x30) ex30 g_c13_382 (dat dk_X12_add 44 rfl) (Ih18.atS rfl) (to_iload_n (dat dk_X12_add 45 rfl) rfl (to_iastw (dat dk_X12_add 46 rfl) (Ih18.atS rfl) rfl (by decide) (by omega) ?_)))))
          intro h36 wh36
          have I34 : Inv h36 := by rw [wh36]; exact Ih18.put (a := 64) (j := (Int.toNat x30)) (x := x12) (0) (1200) rfl rfl (show (0 : Int) ≤ x12 ∧ x12 ≤ 1200 by omega)
          have f35 : Fr [63, 64, 65, 68, 200, 203, 204, 205] h h36 := by rw [wh36]; exact Fr.putF (a := 64) (j := (Int.toNat x30)) (x := x12) fh18 rfl
          refine to_aload_n (dat dk_X12_add 47 rfl) rfl (to_getR 65 g_c13_24 (dat dk_X12_add 48 rfl) (I34.atS rfl) (I34.atE rfl) (to_aload_n (dat dk_X12_add 49 rfl) rfl (to_getIv (y := x30) (by rw [wh36]; exact ex30) g_c13_382 (dat dk_X12_add 50 rfl) (I34.atS rfl) (to_iconst (dat dk_X12_add 51 rfl) (to_zastw (dat dk_X12_add 52 rfl) (I34.atS rfl) rfl (by decide) (by omega) (by decide) ?_)))))
          intro h39 wh39
          have I37 : Inv h39 := by rw [wh39]; exact I34.put (a := 65) (j := (Int.toNat x30)) (x := 1) (0) (1) rfl rfl (show (0 : Int) ≤ 1 ∧ 1 ≤ 1 by decide)
          have f38 : Fr [63, 64, 65, 68, 200, 203, 204, 205] h h39 := by rw [wh39]; exact Fr.putF (a := 65) (j := (Int.toNat x30)) (x := 1) f35 rfl
          refine to_aload_n (dat dk_X12_add 53 rfl) rfl (to_getR 68 g_c13_34 (dat dk_X12_add 54 rfl) (I37.atS rfl) (I37.atE rfl) (to_aload_n (dat dk_X12_add 55 rfl) rfl (to_getIv (y := x30) (by rw [wh39]; exact (show h36.2.2 60 4 = x30 from (by rw [wh36]; exact ex30))) g_c13_382 (dat dk_X12_add 56 rfl) (I37.atS rfl) (to_iconst (dat dk_X12_add 57 rfl) (to_iastw (dat dk_X12_add 58 rfl) (I37.atS rfl) rfl (by decide) (by omega) ?_)))))
          intro h42 wh42
          have I40 : Inv h42 := by rw [wh42]; exact I37.put (a := 68) (j := (Int.toNat x30)) (x := 0) (0) (8) rfl rfl (show (0 : Int) ≤ 0 ∧ 0 ≤ 8 by decide)
          have f41 : Fr [63, 64, 65, 68, 200, 203, 204, 205] h h42 := by rw [wh42]; exact Fr.putF (a := 68) (j := (Int.toNat x30)) (x := 0) f38 rfl
          refine to_aload_n (dat dk_X12_add 59 rfl) rfl (to_dup (dat dk_X12_add 60 rfl) rfl (to_getIv (y := x30) (by rw [wh42]; exact (show h39.2.2 60 4 = x30 from (by rw [wh39]; exact (show h36.2.2 60 4 = x30 from (by rw [wh36]; exact ex30))))) g_c13_382 (dat dk_X12_add 61 rfl) (I40.atS rfl) (to_iconst (dat dk_X12_add 62 rfl) (to_iadd (dat dk_X12_add 63 rfl) (to_putIw p_c13_382 (dat dk_X12_add 64 rfl) (I40.atS rfl) ?_)))))
          intro h45 wh45
          have I43 : Inv h45 := by rw [wh45]; exact I40.put (a := 60) (j := 4) (x := (x30 + 1)) (0) (200) rfl rfl (show (0 : Int) ≤ (x30 + 1) ∧ (x30 + 1) ≤ 200 by omega)
          have f44 : Fr [63, 64, 65, 68, 200, 203, 204, 205] h h45 := by rw [wh45]; exact Fr.putF (a := 60) (j := 4) (x := (x30 + 1)) f41 rfl
          refine to_aload_n (dat dk_X12_add 65 rfl) rfl (to_dup (dat dk_X12_add 66 rfl) rfl (to_getIv (y := x32) (by rw [wh45]; exact (show h42.2.2 60 5 = x32 from (by rw [wh42]; exact (show h39.2.2 60 5 = x32 from (by rw [wh39]; exact (show h36.2.2 60 5 = x32 from (by rw [wh36]; exact ex32))))))) g_c13_499 (dat dk_X12_add 67 rfl) (I43.atS rfl) (to_iconst (dat dk_X12_add 68 rfl) (to_iadd (dat dk_X12_add 69 rfl) (to_putIw p_c13_499 (dat dk_X12_add 70 rfl) (I43.atS rfl) ?_)))))
          intro h48 wh48
          have I46 : Inv h48 := by rw [wh48]; exact I43.put (a := 60) (j := 5) (x := (x32 + 1)) (-2147483648) (2147483647) rfl rfl (show (-2147483648 : Int) ≤ (x32 + 1) ∧ (x32 + 1) ≤ 2147483647 by omega)
          have f47 : Fr [63, 64, 65, 68, 200, 203, 204, 205] h h48 := by rw [wh48]; exact Fr.putF (a := 60) (j := 5) (x := (x32 + 1)) f44 rfl
          refine to_aload_n (dat dk_X12_add 71 rfl) rfl (to_getIv (y := (x30 + 1)) (by rw [wh48]; exact (show h45.2.2 60 4 = (x30 + 1) from (by rw [wh45]; exact wr_eq))) g_c13_382 (dat dk_X12_add 72 rfl) (I46.atS rfl) (to_iconst (dat dk_X12_add 73 rfl) (to_isub (dat dk_X12_add 74 rfl) ?_)))
          have e49 : h48.2.2 60 3 = x31 := (by rw [wh48]; exact (show h45.2.2 60 3 = x31 from (by rw [wh45]; exact (show h42.2.2 60 3 = x31 from (by rw [wh42]; exact (show h39.2.2 60 3 = x31 from (by rw [wh39]; exact (show h36.2.2 60 3 = x31 from (by rw [wh36]; exact ex31)))))))))
          have e50 : h48.2.2 60 4 = (x30 + 1) := (by rw [wh48]; exact (show h45.2.2 60 4 = (x30 + 1) from (by rw [wh45]; exact wr_eq)))
          have e51 : h48.2.2 60 5 = (x32 + 1) := (by rw [wh48]; exact wr_eq)
          exact to_iret rfl (dat dk_X12_add 75 rfl) (ri_mk (by omega) ⟨I46, f47, (Or.inr ⟨by omega, by omega, by omega, by omega, fun j => by rw [wh48, wr_ne (by decide), wh45, wr_ne (by decide), wh42, wr_ne (by decide), wh39, wr_if, wh36, wr_ne (by decide), c25]; simp only [true_and]; congr 2; omega, fun j => by rw [wh48, wr_ne (by decide), wh45, wr_ne (by decide), wh42, wr_ne (by decide), wh39, wr_ne (by decide), wh36, wr_if, c26]; simp only [true_and]; congr 2 <;> omega⟩), (Or.inr ⟨by omega, fun j => by rw [wh48, wr_ne (by decide), wh45, wr_ne (by decide), wh42, wr_if, wh39, wr_ne (by decide), wh36, wr_ne (by decide), c27]; simp only [true_and]; congr 2; omega⟩)⟩)
        · skip
          refine to_aload_n (dat dk_X12_add 26 rfl) rfl (to_getR 63 g_c13_17 (dat dk_X12_add 27 rfl) (Ih18.atS rfl) (Ih18.atE rfl) (to_sipush (dat dk_X12_add 28 rfl) (by decide) (to_aload_n (dat dk_X12_add 29 rfl) rfl (to_getIv (y := x30) ex30 g_c13_382 (dat dk_X12_add 30 rfl) (Ih18.atS rfl) (to_imul (dat dk_X12_add 31 rfl) (to_iload_n (dat dk_X12_add 32 rfl) rfl (to_iadd (dat dk_X12_add 33 rfl) (to_aload_n (dat dk_X12_add 34 rfl) rfl (to_getR 62 g_c13_13 (dat dk_X12_add 35 rfl) (Ih18.atS rfl) (Ih18.atE rfl) (to_iload_n (dat dk_X12_add 36 rfl) rfl ?_))))))))))
          obtain ⟨x52, ex52⟩ : ∃ y : Int, h18.2.2 62 (Int.toNat y17) = y := ⟨_, rfl⟩
          have rx52 := Ih18.atR (a := 62) (j := Int.toNat y17) rfl
          rw [ex52] at rx52
          refine to_baldv (q := 1) ex52 (dat dk_X12_add 37 rfl) (by decide) (Ih18.atS rfl) rfl (by decide) (by omega) (to_bastw (dat dk_X12_add 38 rfl) (Ih18.atS rfl) rfl (by decide) (by omega) ?_)
          intro h55 wh55
          have I53 : Inv h55 := by rw [wh55]; exact Ih18.put (a := 63) (j := (Int.toNat ((1200 * x30) + y17))) (x := (b8 x52)) (-128) (127) rfl rfl (show (-128 : Int) ≤ (b8 x52) ∧ (b8 x52) ≤ 127 by have := b8_in x52; omega)
          have f54 : Fr [63, 64, 65, 68, 200, 203, 204, 205] h h55 := by rw [wh55]; exact Fr.putF (a := 63) (j := (Int.toNat ((1200 * x30) + y17))) (x := (b8 x52)) fh18 rfl
          refine to_iinc (L' := [(0, .inr (.inr 60)), (1, .inl x12), (2, .inl (y17 + 1))]) (dat dk_X12_add 39 rfl) rfl (by decide) rfl (to_goto (dat dk_X12_add 40 rfl) rfl ?_)
          have e56 : h55.2.2 60 4 = x30 := (by rw [wh55]; exact ex30)
          have e57 : h55.2.2 60 3 = x31 := (by rw [wh55]; exact ex31)
          have e58 : h55.2.2 60 5 = x32 := (by rw [wh55]; exact ex32)
          exact ihn28 (n28 - 1) (by omega) (y17 + 1) h55 (by omega) I53 f54 (show 0 ≤ (y17 + 1) by omega) (show h55.2.2 60 4 = h.2.2 60 4 by omega) (show h55.2.2 60 3 = 0 by omega) (show h55.2.2 60 5 = h.2.2 60 5 by omega) (by rw [wh55]; exact (funext fun i => wr_ne (by decide)).trans c25) (by rw [wh55]; exact (funext fun i => wr_ne (by decide)).trans c26) (by rw [wh55]; exact (funext fun i => wr_ne (by decide)).trans c27) (show x12 - (y17 + 1) ≤ ((n28 - 1 : Nat) : Int) by omega)
      exact lp44_n28 (x12 - (0 : Int)).toNat 0 h13 (by decide) Ih13 f15 (show 0 ≤ (0 : Int) by omega) (show h13.2.2 60 4 = h.2.2 60 4 by omega) (show h13.2.2 60 3 = 0 by omega) (show h13.2.2 60 5 = h.2.2 60 5 by omega) ((Fr.arr fh13 I7 (by decide) (fun _ => rfl)).trans (show h9.2.2 65 = h.2.2 65 by rw [wh9]; exact funext fun i => wr_ne (by decide))) ((Fr.arr fh13 I7 (by decide) (fun _ => rfl)).trans (show h9.2.2 64 = h.2.2 64 by rw [wh9]; exact funext fun i => wr_ne (by decide))) ((Fr.arr fh13 I7 (by decide) (fun _ => rfl)).trans (show h9.2.2 68 = h.2.2 68 by rw [wh9]; exact funext fun i => wr_ne (by decide))) (by omega)
    · skip
      refine to_iconst (dat dk_X12_add 16 rfl) ?_
      have e59 : h9.2.2 60 3 = x3 := (by rw [wh9]; exact ex3)
      have e60 : h9.2.2 60 4 = x2 := (by rw [wh9]; exact ex2)
      have e61 : h9.2.2 60 5 = x1 := (by rw [wh9]; exact ex1)
      exact to_iret rfl (dat dk_X12_add 17 rfl) (ri_mk (by decide) ⟨I7, f8, (Or.inl ⟨by omega, by omega, by omega, by omega, by rw [wh9]; exact funext fun i => wr_ne (by decide), by rw [wh9]; exact funext fun i => wr_ne (by decide)⟩), (Or.inl ⟨by omega, by rw [wh9]; exact funext fun i => wr_ne (by decide)⟩)⟩)
  refine to_aload_n (dat dk_X12_add 1 rfl) rfl (to_getIv (y := x1) ex1 g_c13_499 (dat dk_X12_add 2 rfl) (hI.atS rfl) (to_bipush (dat dk_X12_add 3 rfl) (by decide) ?_))
  refine to_ieq 20 (dat dk_X12_add 4 rfl) rfl (by omega) (by decide) (fun c62 => ?_) (fun c62 => ?_)
  · skip
    refine to_iconst (dat dk_X12_add 9 rfl) (to_goto (dat dk_X12_add 10 rfl) rfl ?_)
    exact jn25_n6 1 (by decide) (show ((1 : Int) = 1 ∧ (h.2.2 60 5 = 60 ∨ h.2.2 60 4 = 200)) ∨ ((1 : Int) = 0 ∧ h.2.2 60 5 ≠ 60 ∧ h.2.2 60 4 ≠ 200) by omega)
  · skip
    refine to_aload_n (dat dk_X12_add 5 rfl) rfl (to_getIv (y := x2) ex2 g_c13_382 (dat dk_X12_add 6 rfl) (hI.atS rfl) (to_sipush (dat dk_X12_add 7 rfl) (by decide) ?_))
    refine to_ine 24 (dat dk_X12_add 8 rfl) rfl (by omega) (by decide) (fun c63 => ?_) (fun c63 => ?_)
    · skip
      refine to_iconst (dat dk_X12_add 11 rfl) ?_
      exact jn25_n6 0 (by decide) (show ((0 : Int) = 1 ∧ (h.2.2 60 5 = 60 ∨ h.2.2 60 4 = 200)) ∨ ((0 : Int) = 0 ∧ h.2.2 60 5 ≠ 60 ∧ h.2.2 60 4 ≠ 200) by omega)
    · skip
      refine to_iconst (dat dk_X12_add 9 rfl) (to_goto (dat dk_X12_add 10 rfl) rfl ?_)
      exact jn25_n6 1 (by decide) (show ((1 : Int) = 1 ∧ (h.2.2 60 5 = 60 ∨ h.2.2 60 4 = 200)) ∨ ((1 : Int) = 0 ∧ h.2.2 60 5 ≠ 60 ∧ h.2.2 60 4 ≠ 200) by omega)
