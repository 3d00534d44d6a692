/-! Contracts, by program. -/
abbrev Q_X12_isSameWord (h : Hp) (m : Int) (n : Int) (u : Int) : Option V → Hp → Nat → Nat → Prop := RI (fun x H => h = H ∧ (x = 0 ∨ x = 1))
set_option maxRecDepth 100000 in
theorem ct_X12_isSameWord (l : Launch) (h : Hp) (hI : Inv h) (m : Int) (hm : I32 m) (n : Int) (hn : I32 n) (u : Int) (hu : u = 0 ∨ u = 1) (g0 : 0 ≤ m ∧ m ≤ 2559) (g1 : 0 ≤ n ∧ n ≤ 639) : Ct l D_X12_isSameWord 0 0 [.inr (.inr 60), .inl m, .inl n, .inl u] h (Q_X12_isSameWord h m n u) := by
  refine ct_of pn_X12_isSameWord (Nat.le_of_ble_eq_true rfl) ?_
  show To l E_X12_isSameWord (0, [(0, .inr (.inr 60)), (1, .inl m), (2, .inl n), (3, .inl u)], [], h, 0, 0) _
  refine to_iload_n (dat dk_X12_isSameWord 0 rfl) rfl ?_
  refine to_ifeq 22 (dat dk_X12_isSameWord 1 rfl) rfl (by omega) (fun c1 => ?_) (fun c1 => ?_)
  · skip
    refine to_aload_n (dat dk_X12_isSameWord 12 rfl) rfl (to_getR 71 g_c13_48 (dat dk_X12_isSameWord 13 rfl) (hI.atS rfl) (hI.atE rfl) (to_iload_n (dat dk_X12_isSameWord 14 rfl) rfl ?_))
    obtain ⟨x2, ex2⟩ : ∃ y : Int, h.2.2 71 (Int.toNat m) = y := ⟨_, rfl⟩
    have rx2 := hI.atR (a := 71) (j := Int.toNat m) rfl
    rw [ex2] at rx2
    refine to_ialdv ex2 (dat dk_X12_isSameWord 15 rfl) (hI.atS rfl) rfl (by decide) (by omega) (to_aload_n (dat dk_X12_isSameWord 16 rfl) rfl (to_getR 99 g_c13_134 (dat dk_X12_isSameWord 17 rfl) (hI.atS rfl) (hI.atE rfl) (to_iload_n (dat dk_X12_isSameWord 18 rfl) rfl ?_)))
    obtain ⟨x3, ex3⟩ : ∃ y : Int, h.2.2 99 (Int.toNat n) = y := ⟨_, rfl⟩
    have rx3 := hI.atR (a := 99) (j := Int.toNat n) rfl
    rw [ex3] at rx3
    refine to_ialdv ex3 (dat dk_X12_isSameWord 19 rfl) (hI.atS rfl) rfl (by decide) (by omega) ?_
    refine to_ieq 39 (dat dk_X12_isSameWord 20 rfl) rfl (by omega) (by omega) (fun c4 => ?_) (fun c4 => ?_)
    · skip
      refine to_iconst (dat dk_X12_isSameWord 23 rfl) (to_istore (L' := [(0, .inr (.inr 60)), (1, .inl m), (2, .inl n), (3, .inl u), (4, .inl 0)]) (dat dk_X12_isSameWord 24 rfl) (by decide) rfl ?_)
      have lp42_n7 : ∀ (n7 : Nat) (y5 : Int), (I32 y5) → (0 ≤ y5) → (17 - y5 ≤ (n7 : Int)) → To l E_X12_isSameWord (42, [(0, .inr (.inr 60)), (1, .inl m), (2, .inl n), (3, .inl u), (4, .inl y5)], [], h, 0, 0) (Q_X12_isSameWord h m n u) := by
        intro n7
        induction n7 using Nat.strongRecOn with
        | _ n7 ihn7 =>
        intro y5 ry5 c6 c8
        refine to_iload (dat dk_X12_isSameWord 25 rfl) rfl (to_aload_n (dat dk_X12_isSameWord 26 rfl) rfl (to_getR 99 g_c13_134 (dat dk_X12_isSameWord 27 rfl) (hI.atS rfl) (hI.atE rfl) (to_iload_n (dat dk_X12_isSameWord 28 rfl) rfl ?_)))
        obtain ⟨x9, ex9⟩ : ∃ y : Int, h.2.2 99 (Int.toNat n) = y := ⟨_, rfl⟩
        have rx9 := hI.atR (a := 99) (j := Int.toNat n) rfl
        rw [ex9] at rx9
        refine to_ialdv ex9 (dat dk_X12_isSameWord 29 rfl) (hI.atS rfl) rfl (by decide) (by omega) ?_
        refine to_ige 88 (dat dk_X12_isSameWord 30 rfl) rfl ry5 (by omega) (fun c10 => ?_) (fun c10 => ?_)
        · skip
          refine to_iconst (dat dk_X12_isSameWord 52 rfl) ?_
          exact to_zret rfl (dat dk_X12_isSameWord 53 rfl) (by decide) (ri_mk (by decide) ⟨rfl, (by decide)⟩)
        · skip
          refine to_aload_n (dat dk_X12_isSameWord 31 rfl) rfl (to_getR 70 g_c13_45 (dat dk_X12_isSameWord 32 rfl) (hI.atS rfl) (hI.atE rfl) (to_bipush (dat dk_X12_isSameWord 33 rfl) (by decide) (to_iload_n (dat dk_X12_isSameWord 34 rfl) rfl (to_imul (dat dk_X12_isSameWord 35 rfl) (to_iload (dat dk_X12_isSameWord 36 rfl) rfl (to_iadd (dat dk_X12_isSameWord 37 rfl) ?_))))))
          obtain ⟨x11, ex11⟩ : ∃ y : Int, h.2.2 70 (Int.toNat ((16 * m) + y5)) = y := ⟨_, rfl⟩
          have rx11 := hI.atR (a := 70) (j := Int.toNat ((16 * m) + y5)) rfl
          rw [ex11] at rx11
          refine to_baldv (q := 1) ex11 (dat dk_X12_isSameWord 38 rfl) (by decide) (hI.atS rfl) rfl (by decide) (by omega) (to_aload_n (dat dk_X12_isSameWord 39 rfl) rfl (to_getR 98 g_c13_131 (dat dk_X12_isSameWord 40 rfl) (hI.atS rfl) (hI.atE rfl) (to_bipush (dat dk_X12_isSameWord 41 rfl) (by decide) (to_iload_n (dat dk_X12_isSameWord 42 rfl) rfl (to_imul (dat dk_X12_isSameWord 43 rfl) (to_iload (dat dk_X12_isSameWord 44 rfl) rfl (to_iadd (dat dk_X12_isSameWord 45 rfl) ?_)))))))
          obtain ⟨x12, ex12⟩ : ∃ y : Int, h.2.2 98 (Int.toNat ((16 * n) + y5)) = y := ⟨_, rfl⟩
          have rx12 := hI.atR (a := 98) (j := Int.toNat ((16 * n) + y5)) rfl
          rw [ex12] at rx12
          refine to_baldv (q := 1) ex12 (dat dk_X12_isSameWord 46 rfl) (by decide) (hI.atS rfl) rfl (by decide) (by omega) ?_
          refine to_ieq 82 (dat dk_X12_isSameWord 47 rfl) rfl (by omega) (by omega) (fun c13 => ?_) (fun c13 => ?_)
          · skip
            refine to_iinc (L' := [(0, .inr (.inr 60)), (1, .inl m), (2, .inl n), (3, .inl u), (4, .inl (y5 + 1))]) (dat dk_X12_isSameWord 50 rfl) rfl (by decide) rfl (to_goto (dat dk_X12_isSameWord 51 rfl) rfl ?_)
            exact ihn7 (n7 - 1) (by omega) (y5 + 1) (by omega) (show 0 ≤ (y5 + 1) by omega) (show 17 - (y5 + 1) ≤ ((n7 - 1 : Nat) : Int) by omega)
          · skip
            refine to_iconst (dat dk_X12_isSameWord 48 rfl) ?_
            exact to_zret rfl (dat dk_X12_isSameWord 49 rfl) (by decide) (ri_mk (by decide) ⟨rfl, (by decide)⟩)
      exact lp42_n7 (17 - (0 : Int)).toNat 0 (by decide) (show 0 ≤ (0 : Int) by omega) (by omega)
    · skip
      refine to_iconst (dat dk_X12_isSameWord 21 rfl) ?_
      exact to_zret rfl (dat dk_X12_isSameWord 22 rfl) (by decide) (ri_mk (by decide) ⟨rfl, (by decide)⟩)
  · skip
    refine to_aload_n (dat dk_X12_isSameWord 2 rfl) rfl (to_getR 71 g_c13_48 (dat dk_X12_isSameWord 3 rfl) (hI.atS rfl) (hI.atE rfl) (to_iload_n (dat dk_X12_isSameWord 4 rfl) rfl ?_))
    obtain ⟨x14, ex14⟩ : ∃ y : Int, h.2.2 71 (Int.toNat m) = y := ⟨_, rfl⟩
    have rx14 := hI.atR (a := 71) (j := Int.toNat m) rfl
    rw [ex14] at rx14
    refine to_ialdv ex14 (dat dk_X12_isSameWord 5 rfl) (hI.atS rfl) rfl (by decide) (by omega) (to_aload_n (dat dk_X12_isSameWord 6 rfl) rfl (to_getR 99 g_c13_134 (dat dk_X12_isSameWord 7 rfl) (hI.atS rfl) (hI.atE rfl) (to_iload_n (dat dk_X12_isSameWord 8 rfl) rfl ?_)))
    obtain ⟨x15, ex15⟩ : ∃ y : Int, h.2.2 99 (Int.toNat n) = y := ⟨_, rfl⟩
    have rx15 := hI.atR (a := 99) (j := Int.toNat n) rfl
    rw [ex15] at rx15
    refine to_ialdv ex15 (dat dk_X12_isSameWord 9 rfl) (hI.atS rfl) rfl (by decide) (by omega) ?_
    refine to_ige 39 (dat dk_X12_isSameWord 10 rfl) rfl (by omega) (by omega) (fun c16 => ?_) (fun c16 => ?_)
    · skip
      refine to_iconst (dat dk_X12_isSameWord 23 rfl) (to_istore (L' := [(0, .inr (.inr 60)), (1, .inl m), (2, .inl n), (3, .inl u), (4, .inl 0)]) (dat dk_X12_isSameWord 24 rfl) (by decide) rfl ?_)
      have lp42_n19 : ∀ (n19 : Nat) (y17 : Int), (I32 y17) → (0 ≤ y17) → (17 - y17 ≤ (n19 : Int)) → To l E_X12_isSameWord (42, [(0, .inr (.inr 60)), (1, .inl m), (2, .inl n), (3, .inl u), (4, .inl y17)], [], h, 0, 0) (Q_X12_isSameWord h m n u) := by
        intro n19
        induction n19 using Nat.strongRecOn with
        | _ n19 ihn19 =>
        intro y17 ry17 c18 c20
        refine to_iload (dat dk_X12_isSameWord 25 rfl) rfl (to_aload_n (dat dk_X12_isSameWord 26 rfl) rfl (to_getR 99 g_c13_134 (dat dk_X12_isSameWord 27 rfl) (hI.atS rfl) (hI.atE rfl) (to_iload_n (dat dk_X12_isSameWord 28 rfl) rfl ?_)))
        obtain ⟨x21, ex21⟩ : ∃ y : Int, h.2.2 99 (Int.toNat n) = y := ⟨_, rfl⟩
        have rx21 := hI.atR (a := 99) (j := Int.toNat n) rfl
        rw [ex21] at rx21
        refine to_ialdv ex21 (dat dk_X12_isSameWord 29 rfl) (hI.atS rfl) rfl (by decide) (by omega) ?_
        refine to_ige 88 (dat dk_X12_isSameWord 30 rfl) rfl ry17 (by omega) (fun c22 => ?_) (fun c22 => ?_)
        · skip
          refine to_iconst (dat dk_X12_isSameWord 52 rfl) ?_
          exact to_zret rfl (dat dk_X12_isSameWord 53 rfl) (by decide) (ri_mk (by decide) ⟨rfl, (by decide)⟩)
        · skip
          refine to_aload_n (dat dk_X12_isSameWord 31 rfl) rfl (to_getR 70 g_c13_45 (dat dk_X12_isSameWord 32 rfl) (hI.atS rfl) (hI.atE rfl) (to_bipush (dat dk_X12_isSameWord 33 rfl) (by decide) (to_iload_n (dat dk_X12_isSameWord 34 rfl) rfl (to_imul (dat dk_X12_isSameWord 35 rfl) (to_iload (dat dk_X12_isSameWord 36 rfl) rfl (to_iadd (dat dk_X12_isSameWord 37 rfl) ?_))))))
          obtain ⟨x23, ex23⟩ : ∃ y : Int, h.2.2 70 (Int.toNat ((16 * m) + y17)) = y := ⟨_, rfl⟩
          have rx23 := hI.atR (a := 70) (j := Int.toNat ((16 * m) + y17)) rfl
          rw [ex23] at rx23
          refine to_baldv (q := 1) ex23 (dat dk_X12_isSameWord 38 rfl) (by decide) (hI.atS rfl) rfl (by decide) (by omega) (to_aload_n (dat dk_X12_isSameWord 39 rfl) rfl (to_getR 98 g_c13_131 (dat dk_X12_isSameWord 40 rfl) (hI.atS rfl) (hI.atE rfl) (to_bipush (dat dk_X12_isSameWord 41 rfl) (by decide) (to_iload_n (dat dk_X12_isSameWord 42 rfl) rfl (to_imul (dat dk_X12_isSameWord 43 rfl) (to_iload (dat dk_X12_isSameWord 44 rfl) rfl (to_iadd (dat dk_X12_isSameWord 45 rfl) ?_)))))))
          obtain ⟨x24, ex24⟩ : ∃ y : Int, h.2.2 98 (Int.toNat ((16 * n) + y17)) = y := ⟨_, rfl⟩
          have rx24 := hI.atR (a := 98) (j := Int.toNat ((16 * n) + y17)) rfl
          rw [ex24] at rx24
          refine to_baldv (q := 1) ex24 (dat dk_X12_isSameWord 46 rfl) (by decide) (hI.atS rfl) rfl (by decide) (by omega) ?_
          refine to_ieq 82 (dat dk_X12_isSameWord 47 rfl) rfl (by omega) (by omega) (fun c25 => ?_) (fun c25 => ?_)
          · skip
            refine to_iinc (L' := [(0, .inr (.inr 60)), (1, .inl m), (2, .inl n), (3, .inl u), (4, .inl (y17 + 1))]) (dat dk_X12_isSameWord 50 rfl) rfl (by decide) rfl (to_goto (dat dk_X12_isSameWord 51 rfl) rfl ?_)
            exact ihn19 (n19 - 1) (by omega) (y17 + 1) (by omega) (show 0 ≤ (y17 + 1) by omega) (show 17 - (y17 + 1) ≤ ((n19 - 1 : Nat) : Int) by omega)
          · skip
            refine to_iconst (dat dk_X12_isSameWord 48 rfl) ?_
            exact to_zret rfl (dat dk_X12_isSameWord 49 rfl) (by decide) (ri_mk (by decide) ⟨rfl, (by decide)⟩)
      exact lp42_n19 (17 - (0 : Int)).toNat 0 (by decide) (show 0 ≤ (0 : Int) by omega) (by omega)
    · skip
      refine to_goto (dat dk_X12_isSameWord 11 rfl) rfl (to_iconst (dat dk_X12_isSameWord 21 rfl) ?_)
      exact to_zret rfl (dat dk_X12_isSameWord 22 rfl) (by decide) (ri_mk (by decide) ⟨rfl, (by decide)⟩)
abbrev Q_X12_stands (h : Hp) (c : Int) (u : Int) : Option V → Hp → Nat → Nat → Prop := RI (fun x H => h = H ∧ (x = 0 ∨ x = 1))
set_option maxRecDepth 100000 in
theorem ct_X12_stands (l : Launch) (h : Hp) (hI : Inv h) (c : Int) (hc : I32 c) (u : Int) (hu : u = 0 ∨ u = 1) (g0 : 0 ≤ c ∧ c ≤ 3) : Ct l D_X12_stands 1 24 [.inr (.inr 60), .inl c, .inl u] h (Q_X12_stands h c u) := by
  refine ct_of pn_X12_stands (Nat.le_of_ble_eq_true rfl) ?_
  show To l E_X12_stands (0, [(0, .inr (.inr 60)), (1, .inl c), (2, .inl u)], [], h, 0, 0) _
  refine to_iconst (dat dk_X12_stands 0 rfl) (to_istore_n (L' := [(0, .inr (.inr 60)), (1, .inl c), (2, .inl u), (3, .inl 0)]) (dat dk_X12_stands 1 rfl) (by decide) rfl ?_)
  have lp2_n3 : ∀ (n3 : Nat) (y1 : Int), (I32 y1) → (0 ≤ y1 ∧ y1 ≤ 641) → (641 - y1 ≤ (n3 : Int)) → To l E_X12_stands (2, [(0, .inr (.inr 60)), (1, .inl c), (2, .inl u), (3, .inl y1)], [], h, 0, 0) (Q_X12_stands h c u) := by
    intro n3
    induction n3 using Nat.strongRecOn with
    | _ n3 ihn3 =>
    intro y1 ry1 c2 c4
    refine to_iload_n (dat dk_X12_stands 2 rfl) rfl (to_aload_n (dat dk_X12_stands 3 rfl) rfl ?_)
    obtain ⟨x5, ex5⟩ : ∃ y : Int, h.2.2 60 60 = y := ⟨_, rfl⟩
    have rx5 := hI.atR (a := 60) (j := 60) rfl
    rw [ex5] at rx5
    refine to_getIv (y := x5) ex5 g_c13_471 (dat dk_X12_stands 4 rfl) (hI.atS rfl) (to_iadd (dat dk_X12_stands 5 rfl) (to_aload_n (dat dk_X12_stands 6 rfl) rfl (to_getR 69 g_c13_41 (dat dk_X12_stands 7 rfl) (hI.atS rfl) (hI.atE rfl) (to_iload_n (dat dk_X12_stands 8 rfl) rfl ?_))))
    obtain ⟨x6, ex6⟩ : ∃ y : Int, h.2.2 69 (Int.toNat c) = y := ⟨_, rfl⟩
    have rx6 := hI.atR (a := 69) (j := Int.toNat c) rfl
    rw [ex6] at rx6
    refine to_ialdv ex6 (dat dk_X12_stands 9 rfl) (hI.atS rfl) rfl (by decide) (by omega) ?_
    refine to_igt 94 (dat dk_X12_stands 10 rfl) rfl (by omega) (by omega) (fun c7 => ?_) (fun c7 => ?_)
    · skip
      refine to_iconst (dat dk_X12_stands 51 rfl) ?_
      exact to_zret rfl (dat dk_X12_stands 52 rfl) (by decide) (ri_mk (by decide) ⟨rfl, (by decide)⟩)
    · skip
      refine to_iconst (dat dk_X12_stands 11 rfl) (to_istore (L' := [(0, .inr (.inr 60)), (1, .inl c), (2, .inl u), (3, .inl y1), (4, .inl 1)]) (dat dk_X12_stands 12 rfl) (by decide) rfl (to_iconst (dat dk_X12_stands 13 rfl) (to_istore (L' := [(0, .inr (.inr 60)), (1, .inl c), (2, .inl u), (3, .inl y1), (4, .inl 1), (5, .inl 0)]) (dat dk_X12_stands 14 rfl) (by decide) rfl ?_)))
      have lp23_n11 : ∀ (n11 : Nat) (y8 : Int) (y9 : Int), (y8 = 0 ∨ y8 = 1) → (I32 y9) → (0 ≤ y9) → (h.2.2 60 60 - y9 ≤ (n11 : Int)) → To l E_X12_stands (23, [(0, .inr (.inr 60)), (1, .inl c), (2, .inl u), (3, .inl y1), (4, .inl y8), (5, .inl y9)], [], h, 0, 0) (Q_X12_stands h c u) := by
        intro n11
        induction n11 using Nat.strongRecOn with
        | _ n11 ihn11 =>
        intro y8 y9 ry8 ry9 c10 c12
        refine to_iload (dat dk_X12_stands 15 rfl) rfl (to_aload_n (dat dk_X12_stands 16 rfl) rfl (to_getIv (y := x5) ex5 g_c13_471 (dat dk_X12_stands 17 rfl) (hI.atS rfl) ?_))
        refine to_ige 81 (dat dk_X12_stands 18 rfl) rfl ry9 (by omega) (fun c13 => ?_) (fun c13 => ?_)
        · skip
          refine to_iload (dat dk_X12_stands 45 rfl) rfl ?_
          refine to_ifeq 88 (dat dk_X12_stands 46 rfl) rfl (by omega) (fun c14 => ?_) (fun c14 => ?_)
          · skip
            refine to_iinc (L' := [(0, .inr (.inr 60)), (1, .inl c), (2, .inl u), (3, .inl (y1 + 1)), (4, .inl y8), (5, .inl y9)]) (dat dk_X12_stands 49 rfl) rfl (by decide) rfl (to_goto (dat dk_X12_stands 50 rfl) rfl ?_)
            refine to_pick [0, 1, 2, 3] rfl ?_
            exact ihn3 (n3 - 1) (by omega) (y1 + 1) (by omega) (show 0 ≤ (y1 + 1) ∧ (y1 + 1) ≤ 641 by omega) (show 641 - (y1 + 1) ≤ ((n3 - 1 : Nat) : Int) by omega)
          · skip
            refine to_iconst (dat dk_X12_stands 47 rfl) ?_
            exact to_zret rfl (dat dk_X12_stands 48 rfl) (by decide) (ri_mk (by decide) ⟨rfl, (by decide)⟩)
        · skip
          refine to_iload (dat dk_X12_stands 19 rfl) rfl ?_
          refine to_ifeq 81 (dat dk_X12_stands 20 rfl) rfl (by omega) (fun c15 => ?_) (fun c15 => ?_)
          · skip
            refine to_iload (dat dk_X12_stands 45 rfl) rfl ?_
            refine to_ifeq 88 (dat dk_X12_stands 46 rfl) rfl (by omega) (fun c16 => ?_) (fun c16 => ?_)
            · skip
              refine to_iinc (L' := [(0, .inr (.inr 60)), (1, .inl c), (2, .inl u), (3, .inl (y1 + 1)), (4, .inl y8), (5, .inl y9)]) (dat dk_X12_stands 49 rfl) rfl (by decide) rfl (to_goto (dat dk_X12_stands 50 rfl) rfl ?_)
              refine to_pick [0, 1, 2, 3] rfl ?_
              exact ihn3 (n3 - 1) (by omega) (y1 + 1) (by omega) (show 0 ≤ (y1 + 1) ∧ (y1 + 1) ≤ 641 by omega) (show 641 - (y1 + 1) ≤ ((n3 - 1 : Nat) : Int) by omega)
            · skip
              refine to_iconst (dat dk_X12_stands 47 rfl) ?_
              exact to_zret rfl (dat dk_X12_stands 48 rfl) (by decide) (ri_mk (by decide) ⟨rfl, (by decide)⟩)
          · skip
            refine to_aload_n (dat dk_X12_stands 21 rfl) rfl (to_sipush (dat dk_X12_stands 22 rfl) (by decide) (to_iload_n (dat dk_X12_stands 23 rfl) rfl (to_imul (dat dk_X12_stands 24 rfl) (to_iload_n (dat dk_X12_stands 25 rfl) rfl (to_iadd (dat dk_X12_stands 26 rfl) (to_iload (dat dk_X12_stands 27 rfl) rfl (to_iadd (dat dk_X12_stands 28 rfl) (to_iload (dat dk_X12_stands 29 rfl) rfl ?_))))))))
            have jn70_n18 : ∀ (y17 : Int), (y17 = 0 ∨ y17 = 1) → To l E_X12_stands (70, [(0, .inr (.inr 60)), (1, .inl c), (2, .inl u), (3, .inl y1), (4, .inl y8), (5, .inl y9)], [.inl y17, .inl y9, .inl (((640 * c) + y1) + y9), .inr (.inr 60)], h, 0, 0) (Q_X12_stands h c u) := by
              intro y17 ry17
              refine to_cI ca_c13_474 (dat dk_X12_stands 41 rfl) (ct_X12_isSameWord l h hI (((640 * c) + y1) + y9) (by omega) y9 ry9 y17 (by omega) (show 0 ≤ (((640 * c) + y1) + y9) ∧ (((640 * c) + y1) + y9) ≤ 2559 by omega) (show 0 ≤ y9 ∧ y9 ≤ 639 by omega)) rfl ⟨_, _, rfl, (hI.atS rfl)⟩ rfl (fun x19 h20 rx19 p21 => ?_)
              obtain ⟨rfl, zx19⟩ := p21
              refine to_istore (L' := [(0, .inr (.inr 60)), (1, .inl c), (2, .inl u), (3, .inl y1), (4, .inl x19), (5, .inl y9)]) (dat dk_X12_stands 42 rfl) (by decide) rfl (to_iinc (L' := [(0, .inr (.inr 60)), (1, .inl c), (2, .inl u), (3, .inl y1), (4, .inl x19), (5, .inl (y9 + 1))]) (dat dk_X12_stands 43 rfl) rfl (by decide) rfl (to_goto (dat dk_X12_stands 44 rfl) rfl ?_))
              exact ihn11 (n11 - 1) (by omega) x19 (y9 + 1) (by omega) (by omega) (show 0 ≤ (y9 + 1) by omega) (show h.2.2 60 60 - (y9 + 1) ≤ ((n11 - 1 : Nat) : Int) by omega)
            refine to_iload_n (dat dk_X12_stands 30 rfl) rfl ?_
            refine to_ifeq 69 (dat dk_X12_stands 31 rfl) rfl (by omega) (fun c22 => ?_) (fun c22 => ?_)
            · skip
              refine to_iconst (dat dk_X12_stands 40 rfl) ?_
              exact jn70_n18 0 (by decide)
            · skip
              refine to_iload (dat dk_X12_stands 32 rfl) rfl (to_aload_n (dat dk_X12_stands 33 rfl) rfl (to_getIv (y := x5) ex5 g_c13_471 (dat dk_X12_stands 34 rfl) (hI.atS rfl) (to_iconst (dat dk_X12_stands 35 rfl) (to_isub (dat dk_X12_stands 36 rfl) ?_))))
              refine to_ine 69 (dat dk_X12_stands 37 rfl) rfl ry9 (by omega) (fun c23 => ?_) (fun c23 => ?_)
              · skip
                refine to_iconst (dat dk_X12_stands 40 rfl) ?_
                exact jn70_n18 0 (by decide)
              · skip
                refine to_iconst (dat dk_X12_stands 38 rfl) (to_goto (dat dk_X12_stands 39 rfl) rfl ?_)
                exact jn70_n18 1 (by decide)
      exact lp23_n11 (h.2.2 60 60 - (0 : Int)).toNat 1 0 (by decide) (by decide) (show 0 ≤ (0 : Int) by omega) (by omega)
  exact lp2_n3 (641 - (0 : Int)).toNat 0 (by decide) (show 0 ≤ (0 : Int) ∧ (0 : Int) ≤ 641 by omega) (by omega)
