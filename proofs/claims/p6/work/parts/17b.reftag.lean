/-! Contracts, by program. -/
abbrev Q_X12_isDigit_vy (h : Hp) (b : Int) : Option V → Hp → Nat → Nat → Prop := RI (fun x H => h = H ∧ (x = 0 ∨ x = 1) ∧ ((x = 1 ∧ 48 ≤ b ∧ b ≤ 57) ∨ (x = 0 ∧ (b < 48 ∨ 57 < b))))
set_option maxRecDepth 100000 in
theorem ct_X12_isDigit_vy (l : Launch) (h : Hp) (hI : Inv h) (b : Int) (hb : I32 b) : Ct l D_X12_isDigit 0 0 [.inl b] h (Q_X12_isDigit_vy h b) := by
  refine ct_of pn_X12_isDigit (Nat.le_of_ble_eq_true rfl) ?_
  show To l E_X12_isDigit (0, [(0, .inl b)], [], h, 0, 0) _
  refine to_iload_n (dat dk_X12_isDigit 0 rfl) rfl (to_bipush (dat dk_X12_isDigit 1 rfl) (by decide) ?_)
  refine to_ilt 16 (dat dk_X12_isDigit 2 rfl) rfl hb (by decide) (fun c1 => ?_) (fun c1 => ?_)
  · skip
    refine to_iconst (dat dk_X12_isDigit 8 rfl) ?_
    exact to_zret rfl (dat dk_X12_isDigit 9 rfl) (by decide) (ri_mk (by decide) ⟨rfl, (by decide), (show ((0 : Int) = 1 ∧ 48 ≤ b ∧ b ≤ 57) ∨ ((0 : Int) = 0 ∧ (b < 48 ∨ 57 < b)) by omega)⟩)
  · skip
    refine to_iload_n (dat dk_X12_isDigit 3 rfl) rfl (to_bipush (dat dk_X12_isDigit 4 rfl) (by decide) ?_)
    refine to_igt 16 (dat dk_X12_isDigit 5 rfl) rfl hb (by decide) (fun c2 => ?_) (fun c2 => ?_)
    · skip
      refine to_iconst (dat dk_X12_isDigit 8 rfl) ?_
      exact to_zret rfl (dat dk_X12_isDigit 9 rfl) (by decide) (ri_mk (by decide) ⟨rfl, (by decide), (show ((0 : Int) = 1 ∧ 48 ≤ b ∧ b ≤ 57) ∨ ((0 : Int) = 0 ∧ (b < 48 ∨ 57 < b)) by omega)⟩)
    · skip
      refine to_iconst (dat dk_X12_isDigit 6 rfl) (to_goto (dat dk_X12_isDigit 7 rfl) rfl ?_)
      exact to_zret rfl (dat dk_X12_isDigit 9 rfl) (by decide) (ri_mk (by decide) ⟨rfl, (by decide), (show ((1 : Int) = 1 ∧ 48 ≤ b ∧ b ≤ 57) ∨ ((1 : Int) = 0 ∧ (b < 48 ∨ 57 < b)) by omega)⟩)
abbrev Q_X12_isTag_vx (h : Hp) (n : Int) : Option V → Hp → Nat → Nat → Prop := RI (fun x H => h = H ∧ (x = 0 ∨ x = 1) ∧ ((x = 1 ∧ isTg (H.2.2 62) n) ∨ (x = 0 ∧ ¬ isTg (H.2.2 62) n)))
set_option maxRecDepth 100000 in
theorem ct_X12_isTag_vx (l : Launch) (h : Hp) (hI : Inv h) (n : Int) (hn : I32 n) (g0 : n ≤ 1200) : Ct l D_X12_isTag 1 20 [.inr (.inr 60), .inl n] h (Q_X12_isTag_vx h n) := by
  refine ct_of pn_X12_isTag (Nat.le_of_ble_eq_true rfl) ?_
  show To l E_X12_isTag (0, [(0, .inr (.inr 60)), (1, .inl n)], [], h, 0, 0) _
  have jn16_n3 : ∀ (y1 : Int), (y1 = 0 ∨ y1 = 1) → ((y1 = 1 ∧ 1 ≤ n ∧ n ≤ 12) ∨ (y1 = 0 ∧ (n < 1 ∨ 12 < n))) → To l E_X12_isTag (16, [(0, .inr (.inr 60)), (1, .inl n)], [.inl y1], h, 0, 0) (Q_X12_isTag_vx h n) := by
    intro y1 ry1 c2
    refine to_istore_n (L' := [(0, .inr (.inr 60)), (1, .inl n), (2, .inl y1)]) (dat dk_X12_isTag 9 rfl) (by decide) rfl (to_iconst (dat dk_X12_isTag 10 rfl) (to_istore_n (L' := [(0, .inr (.inr 60)), (1, .inl n), (2, .inl y1), (3, .inl 0)]) (dat dk_X12_isTag 11 rfl) (by decide) rfl ?_))
    have lp19_n8 : ∀ (n8 : Nat) (y4 : Int) (y5 : Int), (y4 = 0 ∨ y4 = 1) → (I32 y5) → (0 ≤ y5) → (TGi (h.2.2 62) n y5 y4) → (n - y5 ≤ (n8 : Int)) → To l E_X12_isTag (19, [(0, .inr (.inr 60)), (1, .inl n), (2, .inl y4), (3, .inl y5)], [], h, 0, 0) (Q_X12_isTag_vx h n) := by
      intro n8
      induction n8 using Nat.strongRecOn with
      | _ n8 ihn8 =>
      intro y4 y5 ry4 ry5 c6 c7 c9
      refine to_iload_n (dat dk_X12_isTag 12 rfl) rfl (to_iload_n (dat dk_X12_isTag 13 rfl) rfl ?_)
      refine to_ige 74 (dat dk_X12_isTag 14 rfl) rfl ry5 hn (fun c10 => ?_) (fun c10 => ?_)
      · skip
        refine to_iload_n (dat dk_X12_isTag 41 rfl) rfl ?_
        exact to_zret rfl (dat dk_X12_isTag 42 rfl) (by omega) (ri_mk (by omega) ⟨rfl, (by omega), (TGi.fin c7 (by omega))⟩)
      · skip
        refine to_iload_n (dat dk_X12_isTag 15 rfl) rfl ?_
        refine to_ifeq 74 (dat dk_X12_isTag 16 rfl) rfl (by omega) (fun c11 => ?_) (fun c11 => ?_)
        · skip
          refine to_iload_n (dat dk_X12_isTag 41 rfl) rfl ?_
          exact to_zret rfl (dat dk_X12_isTag 42 rfl) (by omega) (ri_mk (by omega) ⟨rfl, (by omega), (TGi.fin c7 (by omega))⟩)
        · skip
          have jn67_n14 : ∀ (y12 : Int), (y12 = 0 ∨ y12 = 1) → (TGi (h.2.2 62) n (y5 + 1) y12) → To l E_X12_isTag (67, [(0, .inr (.inr 60)), (1, .inl n), (2, .inl y4), (3, .inl y5)], [.inl y12], h, 0, 0) (Q_X12_isTag_vx h n) := by
            intro y12 ry12 c13
            refine to_istore_n (L' := [(0, .inr (.inr 60)), (1, .inl n), (2, .inl y12), (3, .inl y5)]) (dat dk_X12_isTag 38 rfl) (by decide) rfl (to_iinc (L' := [(0, .inr (.inr 60)), (1, .inl n), (2, .inl y12), (3, .inl (y5 + 1))]) (dat dk_X12_isTag 39 rfl) rfl (by decide) rfl (to_goto (dat dk_X12_isTag 40 rfl) rfl ?_))
            exact ihn8 (n8 - 1) (by omega) y12 (y5 + 1) (by omega) (by omega) (show 0 ≤ (y5 + 1) by omega) c13 (show n - (y5 + 1) ≤ ((n8 - 1 : Nat) : Int) by omega)
          refine to_aload_n (dat dk_X12_isTag 17 rfl) rfl (to_getR 62 g_c13_13 (dat dk_X12_isTag 18 rfl) (hI.atS rfl) (hI.atE rfl) (to_iload_n (dat dk_X12_isTag 19 rfl) rfl ?_))
          obtain ⟨x15, ex15⟩ : ∃ y : Int, h.2.2 62 (Int.toNat y5) = y := ⟨_, rfl⟩
          have rx15 := hI.atR (a := 62) (j := Int.toNat y5) rfl
          rw [ex15] at rx15
          refine to_baldv (q := 1) ex15 (dat dk_X12_isTag 20 rfl) (by decide) (hI.atS rfl) rfl (by decide) (by omega) ?_
          refine to_cI ca_c13_161 (dat dk_X12_isTag 21 rfl) (ct_X12_isDigit_vy l h hI x15 (by omega)) rfl trivial rfl (fun x16 h17 rx16 p18 => ?_)
          obtain ⟨rfl, zx16, p18_0⟩ := p18
          refine to_ifne 62 (dat dk_X12_isTag 22 rfl) rfl rx16 (fun c19 => ?_) (fun c19 => ?_)
          · skip
            refine to_iconst (dat dk_X12_isTag 35 rfl) (to_goto (dat dk_X12_isTag 36 rfl) rfl ?_)
            exact jn67_n14 1 (by decide) (TGi.yes c7 (by omega) (by omega) ex15 (by unfold gch; omega))
          · skip
            refine to_aload_n (dat dk_X12_isTag 23 rfl) rfl (to_getR 62 g_c13_13 (dat dk_X12_isTag 24 rfl) (hI.atS rfl) (hI.atE rfl) (to_iload_n (dat dk_X12_isTag 25 rfl) rfl ?_))
            obtain ⟨x20, ex20⟩ : ∃ y : Int, h.2.2 62 (Int.toNat y5) = y := ⟨_, rfl⟩
            have rx20 := hI.atR (a := 62) (j := Int.toNat y5) rfl
            rw [ex20] at rx20
            refine to_baldv (q := 1) ex20 (dat dk_X12_isTag 26 rfl) (by decide) (hI.atS rfl) rfl (by decide) (by omega) (to_bipush (dat dk_X12_isTag 27 rfl) (by decide) ?_)
            refine to_ilt 66 (dat dk_X12_isTag 28 rfl) rfl (by omega) (by decide) (fun c21 => ?_) (fun c21 => ?_)
            · skip
              refine to_iconst (dat dk_X12_isTag 37 rfl) ?_
              exact jn67_n14 0 (by decide) (TGi.no (by omega) ex20 (by unfold gch; omega))
            · skip
              refine to_aload_n (dat dk_X12_isTag 29 rfl) rfl (to_getR 62 g_c13_13 (dat dk_X12_isTag 30 rfl) (hI.atS rfl) (hI.atE rfl) (to_iload_n (dat dk_X12_isTag 31 rfl) rfl ?_))
              obtain ⟨x22, ex22⟩ : ∃ y : Int, h.2.2 62 (Int.toNat y5) = y := ⟨_, rfl⟩
              have rx22 := hI.atR (a := 62) (j := Int.toNat y5) rfl
              rw [ex22] at rx22
              refine to_baldv (q := 1) ex22 (dat dk_X12_isTag 32 rfl) (by decide) (hI.atS rfl) rfl (by decide) (by omega) (to_bipush (dat dk_X12_isTag 33 rfl) (by decide) ?_)
              refine to_igt 66 (dat dk_X12_isTag 34 rfl) rfl (by omega) (by decide) (fun c23 => ?_) (fun c23 => ?_)
              · skip
                refine to_iconst (dat dk_X12_isTag 37 rfl) ?_
                exact jn67_n14 0 (by decide) (TGi.no (by omega) ex22 (by unfold gch; omega))
              · skip
                refine to_iconst (dat dk_X12_isTag 35 rfl) (to_goto (dat dk_X12_isTag 36 rfl) rfl ?_)
                exact jn67_n14 1 (by decide) (TGi.yes c7 (by omega) (by omega) ex22 (by unfold gch; omega))
    exact lp19_n8 (n - (0 : Int)).toNat y1 0 (by omega) (by decide) (show 0 ≤ (0 : Int) by omega) (TGi.s (by omega)) (by omega)
  refine to_iload_n (dat dk_X12_isTag 0 rfl) rfl (to_iconst (dat dk_X12_isTag 1 rfl) ?_)
  refine to_ilt 15 (dat dk_X12_isTag 2 rfl) rfl hn (by decide) (fun c24 => ?_) (fun c24 => ?_)
  · skip
    refine to_iconst (dat dk_X12_isTag 8 rfl) ?_
    exact jn16_n3 0 (by decide) (show ((0 : Int) = 1 ∧ 1 ≤ n ∧ n ≤ 12) ∨ ((0 : Int) = 0 ∧ (n < 1 ∨ 12 < n)) by omega)
  · skip
    refine to_iload_n (dat dk_X12_isTag 3 rfl) rfl (to_bipush (dat dk_X12_isTag 4 rfl) (by decide) ?_)
    refine to_igt 15 (dat dk_X12_isTag 5 rfl) rfl hn (by decide) (fun c25 => ?_) (fun c25 => ?_)
    · skip
      refine to_iconst (dat dk_X12_isTag 8 rfl) ?_
      exact jn16_n3 0 (by decide) (show ((0 : Int) = 1 ∧ 1 ≤ n ∧ n ≤ 12) ∨ ((0 : Int) = 0 ∧ (n < 1 ∨ 12 < n)) by omega)
    · skip
      refine to_iconst (dat dk_X12_isTag 6 rfl) (to_goto (dat dk_X12_isTag 7 rfl) rfl ?_)
      exact jn16_n3 1 (by decide) (show ((1 : Int) = 1 ∧ 1 ≤ n ∧ n ≤ 12) ∨ ((1 : Int) = 0 ∧ (n < 1 ∨ 12 < n)) by omega)
abbrev Q_X12_tagAt_vx (h : Hp) (m : Int) (n : Int) : Option V → Hp → Nat → Nat → Prop := RI (fun x H => h = H ∧ (-9 ≤ x ∧ x ≤ 7) ∧ (-1 - H.2.2 68 (Int.toNat m) ≤ x ∧ x < H.2.2 68 (Int.toNat m)) ∧ (TAx H m (H.2.2 62) n x))
set_option maxRecDepth 100000 in
theorem ct_X12_tagAt_vx (l : Launch) (h : Hp) (hI : Inv h) (m : Int) (hm : I32 m) (n : Int) (hn : I32 n) (g0 : 0 ≤ m ∧ m ≤ 199) (g1 : 0 ≤ n ∧ n ≤ 1200) : Ct l D_X12_tagAt 0 0 [.inr (.inr 60), .inl m, .inr (.inr 62), .inl 0, .inl n] h (Q_X12_tagAt_vx h m n) := by
  refine ct_of pn_X12_tagAt (Nat.le_of_ble_eq_true rfl) ?_
  show To l E_X12_tagAt (0, [(0, .inr (.inr 60)), (1, .inl m), (2, .inr (.inr 62)), (3, .inl 0), (4, .inl n)], [], h, 0, 0) _
  refine to_iconst (dat dk_X12_tagAt 0 rfl) (to_istore (L' := [(0, .inr (.inr 60)), (1, .inl m), (2, .inr (.inr 62)), (3, .inl 0), (4, .inl n), (5, .inl 0)]) (dat dk_X12_tagAt 1 rfl) (by decide) rfl ?_)
  have lp3_n4 : ∀ (n4 : Nat) (y1 : Int), (I32 y1) → (0 ≤ y1 ∧ y1 ≤ h.2.2 68 (Int.toNat m)) → (∀ t : Int, 0 ≤ t → t < y1 → LtT (tb h (8 * m + t)) (ts h (8 * m + t)) (h.2.2 62) n) → (9 - y1 ≤ (n4 : Int)) → To l E_X12_tagAt (3, [(0, .inr (.inr 60)), (1, .inl m), (2, .inr (.inr 62)), (3, .inl 0), (4, .inl n), (5, .inl y1)], [], h, 0, 0) (Q_X12_tagAt_vx h m n) := by
    intro n4
    induction n4 using Nat.strongRecOn with
    | _ n4 ihn4 =>
    intro y1 ry1 c2 c3 c5
    refine to_iload (dat dk_X12_tagAt 2 rfl) rfl (to_aload_n (dat dk_X12_tagAt 3 rfl) rfl (to_getR 68 g_c13_34 (dat dk_X12_tagAt 4 rfl) (hI.atS rfl) (hI.atE rfl) (to_iload_n (dat dk_X12_tagAt 5 rfl) rfl ?_)))
    obtain ⟨x6, ex6⟩ : ∃ y : Int, h.2.2 68 (Int.toNat m) = y := ⟨_, rfl⟩
    have rx6 := hI.atR (a := 68) (j := Int.toNat m) rfl
    rw [ex6] at rx6
    refine to_ialdv ex6 (dat dk_X12_tagAt 6 rfl) (hI.atS rfl) rfl (by decide) (by omega) ?_
    refine to_ige 147 (dat dk_X12_tagAt 7 rfl) rfl ry1 (by omega) (fun c7 => ?_) (fun c7 => ?_)
    · skip
      refine to_iconst (dat dk_X12_tagAt 83 rfl) (to_aload_n (dat dk_X12_tagAt 84 rfl) rfl (to_getR 68 g_c13_34 (dat dk_X12_tagAt 85 rfl) (hI.atS rfl) (hI.atE rfl) (to_iload_n (dat dk_X12_tagAt 86 rfl) rfl ?_)))
      obtain ⟨x8, ex8⟩ : ∃ y : Int, h.2.2 68 (Int.toNat m) = y := ⟨_, rfl⟩
      have rx8 := hI.atR (a := 68) (j := Int.toNat m) rfl
      rw [ex8] at rx8
      refine to_ialdv ex8 (dat dk_X12_tagAt 87 rfl) (hI.atS rfl) rfl (by decide) (by omega) (to_isub (dat dk_X12_tagAt 88 rfl) ?_)
      exact to_iret rfl (dat dk_X12_tagAt 89 rfl) (ri_mk (by omega) ⟨rfl, (show -9 ≤ ((-1) - x8) ∧ ((-1) - x8) ≤ 7 by omega), (show -1 - h.2.2 68 (Int.toNat m) ≤ ((-1) - x8) ∧ ((-1) - x8) < h.2.2 68 (Int.toNat m) by omega), (Or.inr ⟨by omega, by unfold tcn; omega, fun t h0 ht => c3 t h0 (by omega), Or.inl (by unfold tcn; omega)⟩)⟩)
    · skip
      refine to_aload_n (dat dk_X12_tagAt 8 rfl) rfl (to_getR 67 g_c13_31 (dat dk_X12_tagAt 9 rfl) (hI.atS rfl) (hI.atE rfl) (to_bipush (dat dk_X12_tagAt 10 rfl) (by decide) (to_iload_n (dat dk_X12_tagAt 11 rfl) rfl (to_imul (dat dk_X12_tagAt 12 rfl) (to_iload (dat dk_X12_tagAt 13 rfl) rfl (to_iadd (dat dk_X12_tagAt 14 rfl) ?_))))))
      obtain ⟨x9, ex9⟩ : ∃ y : Int, h.2.2 67 (Int.toNat ((8 * m) + y1)) = y := ⟨_, rfl⟩
      have rx9 := hI.atR (a := 67) (j := Int.toNat ((8 * m) + y1)) rfl
      rw [ex9] at rx9
      refine to_ialdv ex9 (dat dk_X12_tagAt 15 rfl) (hI.atS rfl) rfl (by decide) (by omega) (to_istore (L' := [(0, .inr (.inr 60)), (1, .inl m), (2, .inr (.inr 62)), (3, .inl 0), (4, .inl n), (5, .inl y1), (6, .inl x9)]) (dat dk_X12_tagAt 16 rfl) (by decide) rfl ?_)
      have zts : ts h (8 * m + y1) = x9 := ex9
      refine to_iconst (dat dk_X12_tagAt 17 rfl) (to_istore (L' := [(0, .inr (.inr 60)), (1, .inl m), (2, .inr (.inr 62)), (3, .inl 0), (4, .inl n), (5, .inl y1), (6, .inl x9), (7, .inl 0)]) (dat dk_X12_tagAt 18 rfl) (by decide) rfl ?_)
      have lp31_n14 : ∀ (n14 : Nat) (y10 : Int), (I32 y10) → (0 ≤ y10 ∧ y10 ≤ x9) → (y10 ≤ n) → (∀ i : Nat, (i : Int) < y10 → tb h (8 * m + y1) i = h.2.2 62 i) → (n - y10 ≤ (n14 : Int)) → To l E_X12_tagAt (31, [(0, .inr (.inr 60)), (1, .inl m), (2, .inr (.inr 62)), (3, .inl 0), (4, .inl n), (5, .inl y1), (6, .inl x9), (7, .inl y10)], [], h, 0, 0) (Q_X12_tagAt_vx h m n) := by
        intro n14
        induction n14 using Nat.strongRecOn with
        | _ n14 ihn14 =>
        intro y10 ry10 c11 c12 c13 c15
        refine to_iload (dat dk_X12_tagAt 19 rfl) rfl (to_iload (dat dk_X12_tagAt 20 rfl) rfl ?_)
        refine to_ige 78 (dat dk_X12_tagAt 21 rfl) rfl ry10 hn (fun c16 => ?_) (fun c16 => ?_)
        · skip
          refine to_iload (dat dk_X12_tagAt 45 rfl) rfl (to_iload (dat dk_X12_tagAt 46 rfl) rfl ?_)
          refine to_ine 95 (dat dk_X12_tagAt 47 rfl) rfl ry10 hn (fun c17 => ?_) (fun c17 => ?_)
          · skip
            refine to_iload (dat dk_X12_tagAt 53 rfl) rfl (to_iload (dat dk_X12_tagAt 54 rfl) rfl ?_)
            refine to_ieq 136 (dat dk_X12_tagAt 55 rfl) rfl ry10 hn (fun c18 => ?_) (fun c18 => ?_)
            · skip
              refine to_iconst (dat dk_X12_tagAt 77 rfl) (to_iload (dat dk_X12_tagAt 78 rfl) rfl (to_isub (dat dk_X12_tagAt 79 rfl) ?_))
              exact to_iret rfl (dat dk_X12_tagAt 80 rfl) (ri_mk (by omega) ⟨rfl, (show -9 ≤ ((-1) - y1) ∧ ((-1) - y1) ≤ 7 by omega), (show -1 - h.2.2 68 (Int.toNat m) ≤ ((-1) - y1) ∧ ((-1) - y1) < h.2.2 68 (Int.toNat m) by omega), (Or.inr ⟨by omega, by unfold tcn; omega, fun t h0 ht => c3 t h0 (by omega), Or.inr (by rw [show -1 - (-1 - y1) = y1 by omega]; exact tg_gt (k := y10) (by omega) c13 (by omega))⟩)⟩)
            · skip
              refine to_iload (dat dk_X12_tagAt 56 rfl) rfl (to_iload (dat dk_X12_tagAt 57 rfl) rfl ?_)
              refine to_ige 141 (dat dk_X12_tagAt 58 rfl) rfl ry10 (by omega) (fun c19 => ?_) (fun c19 => ?_)
              · skip
                refine to_iinc (L' := [(0, .inr (.inr 60)), (1, .inl m), (2, .inr (.inr 62)), (3, .inl 0), (4, .inl n), (5, .inl (y1 + 1)), (6, .inl x9), (7, .inl y10)]) (dat dk_X12_tagAt 81 rfl) rfl (by decide) rfl (to_goto (dat dk_X12_tagAt 82 rfl) rfl ?_)
                refine to_pick [0, 1, 2, 3, 4, 5] rfl ?_
                exact ihn4 (n4 - 1) (by omega) (y1 + 1) (by omega) (show 0 ≤ (y1 + 1) ∧ (y1 + 1) ≤ h.2.2 68 (Int.toNat m) by omega) (fun t h0 ht => if ct : t = y1 then (by rw [ct]; exact tg_lt (k := y10) (by omega) c13 (by omega)) else c3 t h0 (by omega)) (show 9 - (y1 + 1) ≤ ((n4 - 1 : Nat) : Int) by omega)
              · skip
                refine to_aload_n (dat dk_X12_tagAt 59 rfl) rfl (to_getR 66 g_c13_28 (dat dk_X12_tagAt 60 rfl) (hI.atS rfl) (hI.atE rfl) (to_bipush (dat dk_X12_tagAt 61 rfl) (by decide) (to_bipush (dat dk_X12_tagAt 62 rfl) (by decide) (to_iload_n (dat dk_X12_tagAt 63 rfl) rfl (to_imul (dat dk_X12_tagAt 64 rfl) (to_iload (dat dk_X12_tagAt 65 rfl) rfl (to_iadd (dat dk_X12_tagAt 66 rfl) (to_imul (dat dk_X12_tagAt 67 rfl) (to_iload (dat dk_X12_tagAt 68 rfl) rfl (to_iadd (dat dk_X12_tagAt 69 rfl) ?_))))))))))
                obtain ⟨x20, ex20⟩ : ∃ y : Int, h.2.2 66 (Int.toNat ((12 * ((8 * m) + y1)) + y10)) = y := ⟨_, rfl⟩
                have rx20 := hI.atR (a := 66) (j := Int.toNat ((12 * ((8 * m) + y1)) + y10)) rfl
                rw [ex20] at rx20
                refine to_baldv (q := 1) ex20 (dat dk_X12_tagAt 70 rfl) (by decide) (hI.atS rfl) rfl (by decide) (by omega) (to_aload_n (dat dk_X12_tagAt 71 rfl) rfl (to_iload_n (dat dk_X12_tagAt 72 rfl) rfl (to_iload (dat dk_X12_tagAt 73 rfl) rfl (to_iadd (dat dk_X12_tagAt 74 rfl) ?_))))
                obtain ⟨x21, ex21⟩ : ∃ y : Int, h.2.2 62 (Int.toNat (0 + y10)) = y := ⟨_, rfl⟩
                have rx21 := hI.atR (a := 62) (j := Int.toNat (0 + y10)) rfl
                rw [ex21] at rx21
                refine to_baldv (q := 1) ex21 (dat dk_X12_tagAt 75 rfl) (by decide) (hI.atS rfl) rfl (by decide) (by omega) ?_
                have zb22 : tb h (8 * m + y1) (Int.toNat y10) = x20 := (show h.2.2 66 (Int.toNat (12 * (8 * m + y1) + ((Int.toNat y10 : Nat) : Int))) = x20 by rw [show 12 * (8 * m + y1) + ((Int.toNat y10 : Nat) : Int) = 12 * (8 * m + y1) + y10 by omega]; exact ex20)
                have zyzb22 : h.2.2 62 (Int.toNat y10) = x21 := by have q := ex21; rw [show 0 + y10 = y10 by omega] at q; exact q
                refine to_ile 141 (dat dk_X12_tagAt 76 rfl) rfl (by omega) (by omega) (fun c23 => ?_) (fun c23 => ?_)
                · skip
                  refine to_iinc (L' := [(0, .inr (.inr 60)), (1, .inl m), (2, .inr (.inr 62)), (3, .inl 0), (4, .inl n), (5, .inl (y1 + 1)), (6, .inl x9), (7, .inl y10)]) (dat dk_X12_tagAt 81 rfl) rfl (by decide) rfl (to_goto (dat dk_X12_tagAt 82 rfl) rfl ?_)
                  refine to_pick [0, 1, 2, 3, 4, 5] rfl ?_
                  exact ihn4 (n4 - 1) (by omega) (y1 + 1) (by omega) (show 0 ≤ (y1 + 1) ∧ (y1 + 1) ≤ h.2.2 68 (Int.toNat m) by omega) (fun t h0 ht => if ct : t = y1 then (by rw [ct]; exact tg_lt (k := y10) (by omega) c13 (by omega)) else c3 t h0 (by omega)) (show 9 - (y1 + 1) ≤ ((n4 - 1 : Nat) : Int) by omega)
                · skip
                  refine to_iconst (dat dk_X12_tagAt 77 rfl) (to_iload (dat dk_X12_tagAt 78 rfl) rfl (to_isub (dat dk_X12_tagAt 79 rfl) ?_))
                  exact to_iret rfl (dat dk_X12_tagAt 80 rfl) (ri_mk (by omega) ⟨rfl, (show -9 ≤ ((-1) - y1) ∧ ((-1) - y1) ≤ 7 by omega), (show -1 - h.2.2 68 (Int.toNat m) ≤ ((-1) - y1) ∧ ((-1) - y1) < h.2.2 68 (Int.toNat m) by omega), (Or.inr ⟨by omega, by unfold tcn; omega, fun t h0 ht => c3 t h0 (by omega), Or.inr (by rw [show -1 - (-1 - y1) = y1 by omega]; exact tg_gt (k := y10) (by omega) c13 (by omega))⟩)⟩)
          · skip
            refine to_iload (dat dk_X12_tagAt 48 rfl) rfl (to_iload (dat dk_X12_tagAt 49 rfl) rfl ?_)
            refine to_ine 95 (dat dk_X12_tagAt 50 rfl) rfl ry10 (by omega) (fun c24 => ?_) (fun c24 => ?_)
            · skip
              refine to_iload (dat dk_X12_tagAt 53 rfl) rfl (to_iload (dat dk_X12_tagAt 54 rfl) rfl ?_)
              refine to_ieq 136 (dat dk_X12_tagAt 55 rfl) rfl ry10 hn (fun c25 => ?_) (fun c25 => ?_)
              · skip
                refine to_iconst (dat dk_X12_tagAt 77 rfl) (to_iload (dat dk_X12_tagAt 78 rfl) rfl (to_isub (dat dk_X12_tagAt 79 rfl) ?_))
                exact to_iret rfl (dat dk_X12_tagAt 80 rfl) (ri_mk (by omega) ⟨rfl, (show -9 ≤ ((-1) - y1) ∧ ((-1) - y1) ≤ 7 by omega), (show -1 - h.2.2 68 (Int.toNat m) ≤ ((-1) - y1) ∧ ((-1) - y1) < h.2.2 68 (Int.toNat m) by omega), (Or.inr ⟨by omega, by unfold tcn; omega, fun t h0 ht => c3 t h0 (by omega), Or.inr (by rw [show -1 - (-1 - y1) = y1 by omega]; exact tg_gt (k := y10) (by omega) c13 (by omega))⟩)⟩)
              · skip
                refine to_iload (dat dk_X12_tagAt 56 rfl) rfl (to_iload (dat dk_X12_tagAt 57 rfl) rfl ?_)
                refine to_ige 141 (dat dk_X12_tagAt 58 rfl) rfl ry10 (by omega) (fun c26 => ?_) (fun c26 => ?_)
                · skip
                  refine to_iinc (L' := [(0, .inr (.inr 60)), (1, .inl m), (2, .inr (.inr 62)), (3, .inl 0), (4, .inl n), (5, .inl (y1 + 1)), (6, .inl x9), (7, .inl y10)]) (dat dk_X12_tagAt 81 rfl) rfl (by decide) rfl (to_goto (dat dk_X12_tagAt 82 rfl) rfl ?_)
                  refine to_pick [0, 1, 2, 3, 4, 5] rfl ?_
                  exact ihn4 (n4 - 1) (by omega) (y1 + 1) (by omega) (show 0 ≤ (y1 + 1) ∧ (y1 + 1) ≤ h.2.2 68 (Int.toNat m) by omega) (fun t h0 ht => if ct : t = y1 then (by rw [ct]; exact tg_lt (k := y10) (by omega) c13 (by omega)) else c3 t h0 (by omega)) (show 9 - (y1 + 1) ≤ ((n4 - 1 : Nat) : Int) by omega)
                · skip
                  refine to_aload_n (dat dk_X12_tagAt 59 rfl) rfl (to_getR 66 g_c13_28 (dat dk_X12_tagAt 60 rfl) (hI.atS rfl) (hI.atE rfl) (to_bipush (dat dk_X12_tagAt 61 rfl) (by decide) (to_bipush (dat dk_X12_tagAt 62 rfl) (by decide) (to_iload_n (dat dk_X12_tagAt 63 rfl) rfl (to_imul (dat dk_X12_tagAt 64 rfl) (to_iload (dat dk_X12_tagAt 65 rfl) rfl (to_iadd (dat dk_X12_tagAt 66 rfl) (to_imul (dat dk_X12_tagAt 67 rfl) (to_iload (dat dk_X12_tagAt 68 rfl) rfl (to_iadd (dat dk_X12_tagAt 69 rfl) ?_))))))))))
                  obtain ⟨x27, ex27⟩ : ∃ y : Int, h.2.2 66 (Int.toNat ((12 * ((8 * m) + y1)) + y10)) = y := ⟨_, rfl⟩
                  have rx27 := hI.atR (a := 66) (j := Int.toNat ((12 * ((8 * m) + y1)) + y10)) rfl
                  rw [ex27] at rx27
                  refine to_baldv (q := 1) ex27 (dat dk_X12_tagAt 70 rfl) (by decide) (hI.atS rfl) rfl (by decide) (by omega) (to_aload_n (dat dk_X12_tagAt 71 rfl) rfl (to_iload_n (dat dk_X12_tagAt 72 rfl) rfl (to_iload (dat dk_X12_tagAt 73 rfl) rfl (to_iadd (dat dk_X12_tagAt 74 rfl) ?_))))
                  obtain ⟨x28, ex28⟩ : ∃ y : Int, h.2.2 62 (Int.toNat (0 + y10)) = y := ⟨_, rfl⟩
                  have rx28 := hI.atR (a := 62) (j := Int.toNat (0 + y10)) rfl
                  rw [ex28] at rx28
                  refine to_baldv (q := 1) ex28 (dat dk_X12_tagAt 75 rfl) (by decide) (hI.atS rfl) rfl (by decide) (by omega) ?_
                  have zb29 : tb h (8 * m + y1) (Int.toNat y10) = x27 := (show h.2.2 66 (Int.toNat (12 * (8 * m + y1) + ((Int.toNat y10 : Nat) : Int))) = x27 by rw [show 12 * (8 * m + y1) + ((Int.toNat y10 : Nat) : Int) = 12 * (8 * m + y1) + y10 by omega]; exact ex27)
                  have zyzb29 : h.2.2 62 (Int.toNat y10) = x28 := by have q := ex28; rw [show 0 + y10 = y10 by omega] at q; exact q
                  refine to_ile 141 (dat dk_X12_tagAt 76 rfl) rfl (by omega) (by omega) (fun c30 => ?_) (fun c30 => ?_)
                  · skip
                    refine to_iinc (L' := [(0, .inr (.inr 60)), (1, .inl m), (2, .inr (.inr 62)), (3, .inl 0), (4, .inl n), (5, .inl (y1 + 1)), (6, .inl x9), (7, .inl y10)]) (dat dk_X12_tagAt 81 rfl) rfl (by decide) rfl (to_goto (dat dk_X12_tagAt 82 rfl) rfl ?_)
                    refine to_pick [0, 1, 2, 3, 4, 5] rfl ?_
                    exact ihn4 (n4 - 1) (by omega) (y1 + 1) (by omega) (show 0 ≤ (y1 + 1) ∧ (y1 + 1) ≤ h.2.2 68 (Int.toNat m) by omega) (fun t h0 ht => if ct : t = y1 then (by rw [ct]; exact tg_lt (k := y10) (by omega) c13 (by omega)) else c3 t h0 (by omega)) (show 9 - (y1 + 1) ≤ ((n4 - 1 : Nat) : Int) by omega)
                  · skip
                    refine to_iconst (dat dk_X12_tagAt 77 rfl) (to_iload (dat dk_X12_tagAt 78 rfl) rfl (to_isub (dat dk_X12_tagAt 79 rfl) ?_))
                    exact to_iret rfl (dat dk_X12_tagAt 80 rfl) (ri_mk (by omega) ⟨rfl, (show -9 ≤ ((-1) - y1) ∧ ((-1) - y1) ≤ 7 by omega), (show -1 - h.2.2 68 (Int.toNat m) ≤ ((-1) - y1) ∧ ((-1) - y1) < h.2.2 68 (Int.toNat m) by omega), (Or.inr ⟨by omega, by unfold tcn; omega, fun t h0 ht => c3 t h0 (by omega), Or.inr (by rw [show -1 - (-1 - y1) = y1 by omega]; exact tg_gt (k := y10) (by omega) c13 (by omega))⟩)⟩)
            · skip
              refine to_iload (dat dk_X12_tagAt 51 rfl) rfl ?_
              exact to_iret rfl (dat dk_X12_tagAt 52 rfl) (ri_mk ry1 ⟨rfl, (show -9 ≤ y1 ∧ y1 ≤ 7 by omega), (show -1 - h.2.2 68 (Int.toNat m) ≤ y1 ∧ y1 < h.2.2 68 (Int.toNat m) by omega), (Or.inl ⟨by omega, by unfold tcn; omega, tg_eq (k := y10) c13 (by omega) (by omega)⟩)⟩)
        · skip
          refine to_iload (dat dk_X12_tagAt 22 rfl) rfl (to_iload (dat dk_X12_tagAt 23 rfl) rfl ?_)
          refine to_ige 78 (dat dk_X12_tagAt 24 rfl) rfl ry10 (by omega) (fun c31 => ?_) (fun c31 => ?_)
          · skip
            refine to_iload (dat dk_X12_tagAt 45 rfl) rfl (to_iload (dat dk_X12_tagAt 46 rfl) rfl ?_)
            refine to_ine 95 (dat dk_X12_tagAt 47 rfl) rfl ry10 hn (fun c32 => ?_) (fun c32 => ?_)
            · skip
              refine to_iload (dat dk_X12_tagAt 53 rfl) rfl (to_iload (dat dk_X12_tagAt 54 rfl) rfl ?_)
              refine to_ieq 136 (dat dk_X12_tagAt 55 rfl) rfl ry10 hn (fun c33 => ?_) (fun c33 => ?_)
              · skip
                refine to_iconst (dat dk_X12_tagAt 77 rfl) (to_iload (dat dk_X12_tagAt 78 rfl) rfl (to_isub (dat dk_X12_tagAt 79 rfl) ?_))
                exact to_iret rfl (dat dk_X12_tagAt 80 rfl) (ri_mk (by omega) ⟨rfl, (show -9 ≤ ((-1) - y1) ∧ ((-1) - y1) ≤ 7 by omega), (show -1 - h.2.2 68 (Int.toNat m) ≤ ((-1) - y1) ∧ ((-1) - y1) < h.2.2 68 (Int.toNat m) by omega), (Or.inr ⟨by omega, by unfold tcn; omega, fun t h0 ht => c3 t h0 (by omega), Or.inr (by rw [show -1 - (-1 - y1) = y1 by omega]; exact tg_gt (k := y10) (by omega) c13 (by omega))⟩)⟩)
              · skip
                refine to_iload (dat dk_X12_tagAt 56 rfl) rfl (to_iload (dat dk_X12_tagAt 57 rfl) rfl ?_)
                refine to_ige 141 (dat dk_X12_tagAt 58 rfl) rfl ry10 (by omega) (fun c34 => ?_) (fun c34 => ?_)
                · skip
                  refine to_iinc (L' := [(0, .inr (.inr 60)), (1, .inl m), (2, .inr (.inr 62)), (3, .inl 0), (4, .inl n), (5, .inl (y1 + 1)), (6, .inl x9), (7, .inl y10)]) (dat dk_X12_tagAt 81 rfl) rfl (by decide) rfl (to_goto (dat dk_X12_tagAt 82 rfl) rfl ?_)
                  refine to_pick [0, 1, 2, 3, 4, 5] rfl ?_
                  exact ihn4 (n4 - 1) (by omega) (y1 + 1) (by omega) (show 0 ≤ (y1 + 1) ∧ (y1 + 1) ≤ h.2.2 68 (Int.toNat m) by omega) (fun t h0 ht => if ct : t = y1 then (by rw [ct]; exact tg_lt (k := y10) (by omega) c13 (by omega)) else c3 t h0 (by omega)) (show 9 - (y1 + 1) ≤ ((n4 - 1 : Nat) : Int) by omega)
                · skip
                  refine to_aload_n (dat dk_X12_tagAt 59 rfl) rfl (to_getR 66 g_c13_28 (dat dk_X12_tagAt 60 rfl) (hI.atS rfl) (hI.atE rfl) (to_bipush (dat dk_X12_tagAt 61 rfl) (by decide) (to_bipush (dat dk_X12_tagAt 62 rfl) (by decide) (to_iload_n (dat dk_X12_tagAt 63 rfl) rfl (to_imul (dat dk_X12_tagAt 64 rfl) (to_iload (dat dk_X12_tagAt 65 rfl) rfl (to_iadd (dat dk_X12_tagAt 66 rfl) (to_imul (dat dk_X12_tagAt 67 rfl) (to_iload (dat dk_X12_tagAt 68 rfl) rfl (to_iadd (dat dk_X12_tagAt 69 rfl) ?_))))))))))
                  obtain ⟨x35, ex35⟩ : ∃ y : Int, h.2.2 66 (Int.toNat ((12 * ((8 * m) + y1)) + y10)) = y := ⟨_, rfl⟩
                  have rx35 := hI.atR (a := 66) (j := Int.toNat ((12 * ((8 * m) + y1)) + y10)) rfl
                  rw [ex35] at rx35
                  refine to_baldv (q := 1) ex35 (dat dk_X12_tagAt 70 rfl) (by decide) (hI.atS rfl) rfl (by decide) (by omega) (to_aload_n (dat dk_X12_tagAt 71 rfl) rfl (to_iload_n (dat dk_X12_tagAt 72 rfl) rfl (to_iload (dat dk_X12_tagAt 73 rfl) rfl (to_iadd (dat dk_X12_tagAt 74 rfl) ?_))))
                  obtain ⟨x36, ex36⟩ : ∃ y : Int, h.2.2 62 (Int.toNat (0 + y10)) = y := ⟨_, rfl⟩
                  have rx36 := hI.atR (a := 62) (j := Int.toNat (0 + y10)) rfl
                  rw [ex36] at rx36
                  refine to_baldv (q := 1) ex36 (dat dk_X12_tagAt 75 rfl) (by decide) (hI.atS rfl) rfl (by decide) (by omega) ?_
                  have zb37 : tb h (8 * m + y1) (Int.toNat y10) = x35 := (show h.2.2 66 (Int.toNat (12 * (8 * m + y1) + ((Int.toNat y10 : Nat) : Int))) = x35 by rw [show 12 * (8 * m + y1) + ((Int.toNat y10 : Nat) : Int) = 12 * (8 * m + y1) + y10 by omega]; exact ex35)
                  have zyzb37 : h.2.2 62 (Int.toNat y10) = x36 := by have q := ex36; rw [show 0 + y10 = y10 by omega] at q; exact q
                  refine to_ile 141 (dat dk_X12_tagAt 76 rfl) rfl (by omega) (by omega) (fun c38 => ?_) (fun c38 => ?_)
                  · skip
                    refine to_iinc (L' := [(0, .inr (.inr 60)), (1, .inl m), (2, .inr (.inr 62)), (3, .inl 0), (4, .inl n), (5, .inl (y1 + 1)), (6, .inl x9), (7, .inl y10)]) (dat dk_X12_tagAt 81 rfl) rfl (by decide) rfl (to_goto (dat dk_X12_tagAt 82 rfl) rfl ?_)
                    refine to_pick [0, 1, 2, 3, 4, 5] rfl ?_
                    exact ihn4 (n4 - 1) (by omega) (y1 + 1) (by omega) (show 0 ≤ (y1 + 1) ∧ (y1 + 1) ≤ h.2.2 68 (Int.toNat m) by omega) (fun t h0 ht => if ct : t = y1 then (by rw [ct]; exact tg_lt (k := y10) (by omega) c13 (by omega)) else c3 t h0 (by omega)) (show 9 - (y1 + 1) ≤ ((n4 - 1 : Nat) : Int) by omega)
                  · skip
                    refine to_iconst (dat dk_X12_tagAt 77 rfl) (to_iload (dat dk_X12_tagAt 78 rfl) rfl (to_isub (dat dk_X12_tagAt 79 rfl) ?_))
                    exact to_iret rfl (dat dk_X12_tagAt 80 rfl) (ri_mk (by omega) ⟨rfl, (show -9 ≤ ((-1) - y1) ∧ ((-1) - y1) ≤ 7 by omega), (show -1 - h.2.2 68 (Int.toNat m) ≤ ((-1) - y1) ∧ ((-1) - y1) < h.2.2 68 (Int.toNat m) by omega), (Or.inr ⟨by omega, by unfold tcn; omega, fun t h0 ht => c3 t h0 (by omega), Or.inr (by rw [show -1 - (-1 - y1) = y1 by omega]; exact tg_gt (k := y10) (by omega) c13 (by omega))⟩)⟩)
            · skip
              refine to_iload (dat dk_X12_tagAt 48 rfl) rfl (to_iload (dat dk_X12_tagAt 49 rfl) rfl ?_)
              refine to_ine 95 (dat dk_X12_tagAt 50 rfl) rfl ry10 (by omega) (fun c39 => ?_) (fun c39 => ?_)
              · skip
                refine to_iload (dat dk_X12_tagAt 53 rfl) rfl (to_iload (dat dk_X12_tagAt 54 rfl) rfl ?_)
                refine to_ieq 136 (dat dk_X12_tagAt 55 rfl) rfl ry10 hn (fun c40 => ?_) (fun c40 => ?_)
                · skip
                  refine to_iconst (dat dk_X12_tagAt 77 rfl) (to_iload (dat dk_X12_tagAt 78 rfl) rfl (to_isub (dat dk_X12_tagAt 79 rfl) ?_))
                  exact to_iret rfl (dat dk_X12_tagAt 80 rfl) (ri_mk (by omega) ⟨rfl, (show -9 ≤ ((-1) - y1) ∧ ((-1) - y1) ≤ 7 by omega), (show -1 - h.2.2 68 (Int.toNat m) ≤ ((-1) - y1) ∧ ((-1) - y1) < h.2.2 68 (Int.toNat m) by omega), (Or.inr ⟨by omega, by unfold tcn; omega, fun t h0 ht => c3 t h0 (by omega), Or.inr (by rw [show -1 - (-1 - y1) = y1 by omega]; exact tg_gt (k := y10) (by omega) c13 (by omega))⟩)⟩)
                · skip
                  refine to_iload (dat dk_X12_tagAt 56 rfl) rfl (to_iload (dat dk_X12_tagAt 57 rfl) rfl ?_)
                  refine to_ige 141 (dat dk_X12_tagAt 58 rfl) rfl ry10 (by omega) (fun c41 => ?_) (fun c41 => ?_)
                  · skip
                    refine to_iinc (L' := [(0, .inr (.inr 60)), (1, .inl m), (2, .inr (.inr 62)), (3, .inl 0), (4, .inl n), (5, .inl (y1 + 1)), (6, .inl x9), (7, .inl y10)]) (dat dk_X12_tagAt 81 rfl) rfl (by decide) rfl (to_goto (dat dk_X12_tagAt 82 rfl) rfl ?_)
                    refine to_pick [0, 1, 2, 3, 4, 5] rfl ?_
                    exact ihn4 (n4 - 1) (by omega) (y1 + 1) (by omega) (show 0 ≤ (y1 + 1) ∧ (y1 + 1) ≤ h.2.2 68 (Int.toNat m) by omega) (fun t h0 ht => if ct : t = y1 then (by rw [ct]; exact tg_lt (k := y10) (by omega) c13 (by omega)) else c3 t h0 (by omega)) (show 9 - (y1 + 1) ≤ ((n4 - 1 : Nat) : Int) by omega)
                  · skip
                    refine to_aload_n (dat dk_X12_tagAt 59 rfl) rfl (to_getR 66 g_c13_28 (dat dk_X12_tagAt 60 rfl) (hI.atS rfl) (hI.atE rfl) (to_bipush (dat dk_X12_tagAt 61 rfl) (by decide) (to_bipush (dat dk_X12_tagAt 62 rfl) (by decide) (to_iload_n (dat dk_X12_tagAt 63 rfl) rfl (to_imul (dat dk_X12_tagAt 64 rfl) (to_iload (dat dk_X12_tagAt 65 rfl) rfl (to_iadd (dat dk_X12_tagAt 66 rfl) (to_imul (dat dk_X12_tagAt 67 rfl) (to_iload (dat dk_X12_tagAt 68 rfl) rfl (to_iadd (dat dk_X12_tagAt 69 rfl) ?_))))))))))
                    obtain ⟨x42, ex42⟩ : ∃ y : Int, h.2.2 66 (Int.toNat ((12 * ((8 * m) + y1)) + y10)) = y := ⟨_, rfl⟩
                    have rx42 := hI.atR (a := 66) (j := Int.toNat ((12 * ((8 * m) + y1)) + y10)) rfl
                    rw [ex42] at rx42
                    refine to_baldv (q := 1) ex42 (dat dk_X12_tagAt 70 rfl) (by decide) (hI.atS rfl) rfl (by decide) (by omega) (to_aload_n (dat dk_X12_tagAt 71 rfl) rfl (to_iload_n (dat dk_X12_tagAt 72 rfl) rfl (to_iload (dat dk_X12_tagAt 73 rfl) rfl (to_iadd (dat dk_X12_tagAt 74 rfl) ?_))))
                    obtain ⟨x43, ex43⟩ : ∃ y : Int, h.2.2 62 (Int.toNat (0 + y10)) = y := ⟨_, rfl⟩
                    have rx43 := hI.atR (a := 62) (j := Int.toNat (0 + y10)) rfl
                    rw [ex43] at rx43
                    refine to_baldv (q := 1) ex43 (dat dk_X12_tagAt 75 rfl) (by decide) (hI.atS rfl) rfl (by decide) (by omega) ?_
                    have zb44 : tb h (8 * m + y1) (Int.toNat y10) = x42 := (show h.2.2 66 (Int.toNat (12 * (8 * m + y1) + ((Int.toNat y10 : Nat) : Int))) = x42 by rw [show 12 * (8 * m + y1) + ((Int.toNat y10 : Nat) : Int) = 12 * (8 * m + y1) + y10 by omega]; exact ex42)
                    have zyzb44 : h.2.2 62 (Int.toNat y10) = x43 := by have q := ex43; rw [show 0 + y10 = y10 by omega] at q; exact q
                    refine to_ile 141 (dat dk_X12_tagAt 76 rfl) rfl (by omega) (by omega) (fun c45 => ?_) (fun c45 => ?_)
                    · skip
                      refine to_iinc (L' := [(0, .inr (.inr 60)), (1, .inl m), (2, .inr (.inr 62)), (3, .inl 0), (4, .inl n), (5, .inl (y1 + 1)), (6, .inl x9), (7, .inl y10)]) (dat dk_X12_tagAt 81 rfl) rfl (by decide) rfl (to_goto (dat dk_X12_tagAt 82 rfl) rfl ?_)
                      refine to_pick [0, 1, 2, 3, 4, 5] rfl ?_
                      exact ihn4 (n4 - 1) (by omega) (y1 + 1) (by omega) (show 0 ≤ (y1 + 1) ∧ (y1 + 1) ≤ h.2.2 68 (Int.toNat m) by omega) (fun t h0 ht => if ct : t = y1 then (by rw [ct]; exact tg_lt (k := y10) (by omega) c13 (by omega)) else c3 t h0 (by omega)) (show 9 - (y1 + 1) ≤ ((n4 - 1 : Nat) : Int) by omega)
                    · skip
                      refine to_iconst (dat dk_X12_tagAt 77 rfl) (to_iload (dat dk_X12_tagAt 78 rfl) rfl (to_isub (dat dk_X12_tagAt 79 rfl) ?_))
                      exact to_iret rfl (dat dk_X12_tagAt 80 rfl) (ri_mk (by omega) ⟨rfl, (show -9 ≤ ((-1) - y1) ∧ ((-1) - y1) ≤ 7 by omega), (show -1 - h.2.2 68 (Int.toNat m) ≤ ((-1) - y1) ∧ ((-1) - y1) < h.2.2 68 (Int.toNat m) by omega), (Or.inr ⟨by omega, by unfold tcn; omega, fun t h0 ht => c3 t h0 (by omega), Or.inr (by rw [show -1 - (-1 - y1) = y1 by omega]; exact tg_gt (k := y10) (by omega) c13 (by omega))⟩)⟩)
              · skip
                refine to_iload (dat dk_X12_tagAt 51 rfl) rfl ?_
                exact to_iret rfl (dat dk_X12_tagAt 52 rfl) (ri_mk ry1 ⟨rfl, (show -9 ≤ y1 ∧ y1 ≤ 7 by omega), (show -1 - h.2.2 68 (Int.toNat m) ≤ y1 ∧ y1 < h.2.2 68 (Int.toNat m) by omega), (Or.inl ⟨by omega, by unfold tcn; omega, tg_eq (k := y10) c13 (by omega) (by omega)⟩)⟩)
          · skip
            refine to_aload_n (dat dk_X12_tagAt 25 rfl) rfl (to_getR 66 g_c13_28 (dat dk_X12_tagAt 26 rfl) (hI.atS rfl) (hI.atE rfl) (to_bipush (dat dk_X12_tagAt 27 rfl) (by decide) (to_bipush (dat dk_X12_tagAt 28 rfl) (by decide) (to_iload_n (dat dk_X12_tagAt 29 rfl) rfl (to_imul (dat dk_X12_tagAt 30 rfl) (to_iload (dat dk_X12_tagAt 31 rfl) rfl (to_iadd (dat dk_X12_tagAt 32 rfl) (to_imul (dat dk_X12_tagAt 33 rfl) (to_iload (dat dk_X12_tagAt 34 rfl) rfl (to_iadd (dat dk_X12_tagAt 35 rfl) ?_))))))))))
            obtain ⟨x46, ex46⟩ : ∃ y : Int, h.2.2 66 (Int.toNat ((12 * ((8 * m) + y1)) + y10)) = y := ⟨_, rfl⟩
            have rx46 := hI.atR (a := 66) (j := Int.toNat ((12 * ((8 * m) + y1)) + y10)) rfl
            rw [ex46] at rx46
            refine to_baldv (q := 1) ex46 (dat dk_X12_tagAt 36 rfl) (by decide) (hI.atS rfl) rfl (by decide) (by omega) (to_aload_n (dat dk_X12_tagAt 37 rfl) rfl (to_iload_n (dat dk_X12_tagAt 38 rfl) rfl (to_iload (dat dk_X12_tagAt 39 rfl) rfl (to_iadd (dat dk_X12_tagAt 40 rfl) ?_))))
            obtain ⟨x47, ex47⟩ : ∃ y : Int, h.2.2 62 (Int.toNat (0 + y10)) = y := ⟨_, rfl⟩
            have rx47 := hI.atR (a := 62) (j := Int.toNat (0 + y10)) rfl
            rw [ex47] at rx47
            refine to_baldv (q := 1) ex47 (dat dk_X12_tagAt 41 rfl) (by decide) (hI.atS rfl) rfl (by decide) (by omega) ?_
            have zb48 : tb h (8 * m + y1) (Int.toNat y10) = x46 := (show h.2.2 66 (Int.toNat (12 * (8 * m + y1) + ((Int.toNat y10 : Nat) : Int))) = x46 by rw [show 12 * (8 * m + y1) + ((Int.toNat y10 : Nat) : Int) = 12 * (8 * m + y1) + y10 by omega]; exact ex46)
            have zyzb48 : h.2.2 62 (Int.toNat y10) = x47 := by have q := ex47; rw [show 0 + y10 = y10 by omega] at q; exact q
            refine to_ine 78 (dat dk_X12_tagAt 42 rfl) rfl (by omega) (by omega) (fun c49 => ?_) (fun c49 => ?_)
            · skip
              refine to_iload (dat dk_X12_tagAt 45 rfl) rfl (to_iload (dat dk_X12_tagAt 46 rfl) rfl ?_)
              refine to_ine 95 (dat dk_X12_tagAt 47 rfl) rfl ry10 hn (fun c50 => ?_) (fun c50 => ?_)
              · skip
                refine to_iload (dat dk_X12_tagAt 53 rfl) rfl (to_iload (dat dk_X12_tagAt 54 rfl) rfl ?_)
                refine to_ieq 136 (dat dk_X12_tagAt 55 rfl) rfl ry10 hn (fun c51 => ?_) (fun c51 => ?_)
                · skip
                  refine to_iconst (dat dk_X12_tagAt 77 rfl) (to_iload (dat dk_X12_tagAt 78 rfl) rfl (to_isub (dat dk_X12_tagAt 79 rfl) ?_))
                  exact to_iret rfl (dat dk_X12_tagAt 80 rfl) (ri_mk (by omega) ⟨rfl, (show -9 ≤ ((-1) - y1) ∧ ((-1) - y1) ≤ 7 by omega), (show -1 - h.2.2 68 (Int.toNat m) ≤ ((-1) - y1) ∧ ((-1) - y1) < h.2.2 68 (Int.toNat m) by omega), (Or.inr ⟨by omega, by unfold tcn; omega, fun t h0 ht => c3 t h0 (by omega), Or.inr (by rw [show -1 - (-1 - y1) = y1 by omega]; exact tg_gt (k := y10) (by omega) c13 (by omega))⟩)⟩)
                · skip
                  refine to_iload (dat dk_X12_tagAt 56 rfl) rfl (to_iload (dat dk_X12_tagAt 57 rfl) rfl ?_)
                  refine to_ige 141 (dat dk_X12_tagAt 58 rfl) rfl ry10 (by omega) (fun c52 => ?_) (fun c52 => ?_)
                  · skip
                    refine to_iinc (L' := [(0, .inr (.inr 60)), (1, .inl m), (2, .inr (.inr 62)), (3, .inl 0), (4, .inl n), (5, .inl (y1 + 1)), (6, .inl x9), (7, .inl y10)]) (dat dk_X12_tagAt 81 rfl) rfl (by decide) rfl (to_goto (dat dk_X12_tagAt 82 rfl) rfl ?_)
                    refine to_pick [0, 1, 2, 3, 4, 5] rfl ?_
                    exact ihn4 (n4 - 1) (by omega) (y1 + 1) (by omega) (show 0 ≤ (y1 + 1) ∧ (y1 + 1) ≤ h.2.2 68 (Int.toNat m) by omega) (fun t h0 ht => if ct : t = y1 then (by rw [ct]; exact tg_lt (k := y10) (by omega) c13 (by omega)) else c3 t h0 (by omega)) (show 9 - (y1 + 1) ≤ ((n4 - 1 : Nat) : Int) by omega)
                  · skip
                    refine to_aload_n (dat dk_X12_tagAt 59 rfl) rfl (to_getR 66 g_c13_28 (dat dk_X12_tagAt 60 rfl) (hI.atS rfl) (hI.atE rfl) (to_bipush (dat dk_X12_tagAt 61 rfl) (by decide) (to_bipush (dat dk_X12_tagAt 62 rfl) (by decide) (to_iload_n (dat dk_X12_tagAt 63 rfl) rfl (to_imul (dat dk_X12_tagAt 64 rfl) (to_iload (dat dk_X12_tagAt 65 rfl) rfl (to_iadd (dat dk_X12_tagAt 66 rfl) (to_imul (dat dk_X12_tagAt 67 rfl) (to_iload (dat dk_X12_tagAt 68 rfl) rfl (to_iadd (dat dk_X12_tagAt 69 rfl) ?_))))))))))
                    obtain ⟨x53, ex53⟩ : ∃ y : Int, h.2.2 66 (Int.toNat ((12 * ((8 * m) + y1)) + y10)) = y := ⟨_, rfl⟩
                    have rx53 := hI.atR (a := 66) (j := Int.toNat ((12 * ((8 * m) + y1)) + y10)) rfl
                    rw [ex53] at rx53
                    refine to_baldv (q := 1) ex53 (dat dk_X12_tagAt 70 rfl) (by decide) (hI.atS rfl) rfl (by decide) (by omega) (to_aload_n (dat dk_X12_tagAt 71 rfl) rfl (to_iload_n (dat dk_X12_tagAt 72 rfl) rfl (to_iload (dat dk_X12_tagAt 73 rfl) rfl (to_iadd (dat dk_X12_tagAt 74 rfl) ?_))))
                    obtain ⟨x54, ex54⟩ : ∃ y : Int, h.2.2 62 (Int.toNat (0 + y10)) = y := ⟨_, rfl⟩
                    have rx54 := hI.atR (a := 62) (j := Int.toNat (0 + y10)) rfl
                    rw [ex54] at rx54
                    refine to_baldv (q := 1) ex54 (dat dk_X12_tagAt 75 rfl) (by decide) (hI.atS rfl) rfl (by decide) (by omega) ?_
                    have zb55 : tb h (8 * m + y1) (Int.toNat y10) = x53 := (show h.2.2 66 (Int.toNat (12 * (8 * m + y1) + ((Int.toNat y10 : Nat) : Int))) = x53 by rw [show 12 * (8 * m + y1) + ((Int.toNat y10 : Nat) : Int) = 12 * (8 * m + y1) + y10 by omega]; exact ex53)
                    have zyzb55 : h.2.2 62 (Int.toNat y10) = x54 := by have q := ex54; rw [show 0 + y10 = y10 by omega] at q; exact q
                    refine to_ile 141 (dat dk_X12_tagAt 76 rfl) rfl (by omega) (by omega) (fun c56 => ?_) (fun c56 => ?_)
                    · skip
                      refine to_iinc (L' := [(0, .inr (.inr 60)), (1, .inl m), (2, .inr (.inr 62)), (3, .inl 0), (4, .inl n), (5, .inl (y1 + 1)), (6, .inl x9), (7, .inl y10)]) (dat dk_X12_tagAt 81 rfl) rfl (by decide) rfl (to_goto (dat dk_X12_tagAt 82 rfl) rfl ?_)
                      refine to_pick [0, 1, 2, 3, 4, 5] rfl ?_
                      exact ihn4 (n4 - 1) (by omega) (y1 + 1) (by omega) (show 0 ≤ (y1 + 1) ∧ (y1 + 1) ≤ h.2.2 68 (Int.toNat m) by omega) (fun t h0 ht => if ct : t = y1 then (by rw [ct]; exact tg_lt (k := y10) (by omega) c13 (by omega)) else c3 t h0 (by omega)) (show 9 - (y1 + 1) ≤ ((n4 - 1 : Nat) : Int) by omega)
                    · skip
                      refine to_iconst (dat dk_X12_tagAt 77 rfl) (to_iload (dat dk_X12_tagAt 78 rfl) rfl (to_isub (dat dk_X12_tagAt 79 rfl) ?_))
                      exact to_iret rfl (dat dk_X12_tagAt 80 rfl) (ri_mk (by omega) ⟨rfl, (show -9 ≤ ((-1) - y1) ∧ ((-1) - y1) ≤ 7 by omega), (show -1 - h.2.2 68 (Int.toNat m) ≤ ((-1) - y1) ∧ ((-1) - y1) < h.2.2 68 (Int.toNat m) by omega), (Or.inr ⟨by omega, by unfold tcn; omega, fun t h0 ht => c3 t h0 (by omega), Or.inr (by rw [show -1 - (-1 - y1) = y1 by omega]; exact tg_gt (k := y10) (by omega) c13 (by omega))⟩)⟩)
              · skip
                refine to_iload (dat dk_X12_tagAt 48 rfl) rfl (to_iload (dat dk_X12_tagAt 49 rfl) rfl ?_)
                refine to_ine 95 (dat dk_X12_tagAt 50 rfl) rfl ry10 (by omega) (fun c57 => ?_) (fun c57 => ?_)
                · skip
                  refine to_iload (dat dk_X12_tagAt 53 rfl) rfl (to_iload (dat dk_X12_tagAt 54 rfl) rfl ?_)
                  refine to_ieq 136 (dat dk_X12_tagAt 55 rfl) rfl ry10 hn (fun c58 => ?_) (fun c58 => ?_)
                  · skip
                    refine to_iconst (dat dk_X12_tagAt 77 rfl) (to_iload (dat dk_X12_tagAt 78 rfl) rfl (to_isub (dat dk_X12_tagAt 79 rfl) ?_))
                    exact to_iret rfl (dat dk_X12_tagAt 80 rfl) (ri_mk (by omega) ⟨rfl, (show -9 ≤ ((-1) - y1) ∧ ((-1) - y1) ≤ 7 by omega), (show -1 - h.2.2 68 (Int.toNat m) ≤ ((-1) - y1) ∧ ((-1) - y1) < h.2.2 68 (Int.toNat m) by omega), (Or.inr ⟨by omega, by unfold tcn; omega, fun t h0 ht => c3 t h0 (by omega), Or.inr (by rw [show -1 - (-1 - y1) = y1 by omega]; exact tg_gt (k := y10) (by omega) c13 (by omega))⟩)⟩)
                  · skip
                    refine to_iload (dat dk_X12_tagAt 56 rfl) rfl (to_iload (dat dk_X12_tagAt 57 rfl) rfl ?_)
                    refine to_ige 141 (dat dk_X12_tagAt 58 rfl) rfl ry10 (by omega) (fun c59 => ?_) (fun c59 => ?_)
                    · skip
                      refine to_iinc (L' := [(0, .inr (.inr 60)), (1, .inl m), (2, .inr (.inr 62)), (3, .inl 0), (4, .inl n), (5, .inl (y1 + 1)), (6, .inl x9), (7, .inl y10)]) (dat dk_X12_tagAt 81 rfl) rfl (by decide) rfl (to_goto (dat dk_X12_tagAt 82 rfl) rfl ?_)
                      refine to_pick [0, 1, 2, 3, 4, 5] rfl ?_
                      exact ihn4 (n4 - 1) (by omega) (y1 + 1) (by omega) (show 0 ≤ (y1 + 1) ∧ (y1 + 1) ≤ h.2.2 68 (Int.toNat m) by omega) (fun t h0 ht => if ct : t = y1 then (by rw [ct]; exact tg_lt (k := y10) (by omega) c13 (by omega)) else c3 t h0 (by omega)) (show 9 - (y1 + 1) ≤ ((n4 - 1 : Nat) : Int) by omega)
                    · skip
                      refine to_aload_n (dat dk_X12_tagAt 59 rfl) rfl (to_getR 66 g_c13_28 (dat dk_X12_tagAt 60 rfl) (hI.atS rfl) (hI.atE rfl) (to_bipush (dat dk_X12_tagAt 61 rfl) (by decide) (to_bipush (dat dk_X12_tagAt 62 rfl) (by decide) (to_iload_n (dat dk_X12_tagAt 63 rfl) rfl (to_imul (dat dk_X12_tagAt 64 rfl) (to_iload (dat dk_X12_tagAt 65 rfl) rfl (to_iadd (dat dk_X12_tagAt 66 rfl) (to_imul (dat dk_X12_tagAt 67 rfl) (to_iload (dat dk_X12_tagAt 68 rfl) rfl (to_iadd (dat dk_X12_tagAt 69 rfl) ?_))))))))))
                      obtain ⟨x60, ex60⟩ : ∃ y : Int, h.2.2 66 (Int.toNat ((12 * ((8 * m) + y1)) + y10)) = y := ⟨_, rfl⟩
                      have rx60 := hI.atR (a := 66) (j := Int.toNat ((12 * ((8 * m) + y1)) + y10)) rfl
                      rw [ex60] at rx60
                      refine to_baldv (q := 1) ex60 (dat dk_X12_tagAt 70 rfl) (by decide) (hI.atS rfl) rfl (by decide) (by omega) (to_aload_n (dat dk_X12_tagAt 71 rfl) rfl (to_iload_n (dat dk_X12_tagAt 72 rfl) rfl (to_iload (dat dk_X12_tagAt 73 rfl) rfl (to_iadd (dat dk_X12_tagAt 74 rfl) ?_))))
                      obtain ⟨x61, ex61⟩ : ∃ y : Int, h.2.2 62 (Int.toNat (0 + y10)) = y := ⟨_, rfl⟩
                      have rx61 := hI.atR (a := 62) (j := Int.toNat (0 + y10)) rfl
                      rw [ex61] at rx61
                      refine to_baldv (q := 1) ex61 (dat dk_X12_tagAt 75 rfl) (by decide) (hI.atS rfl) rfl (by decide) (by omega) ?_
                      have zb62 : tb h (8 * m + y1) (Int.toNat y10) = x60 := (show h.2.2 66 (Int.toNat (12 * (8 * m + y1) + ((Int.toNat y10 : Nat) : Int))) = x60 by rw [show 12 * (8 * m + y1) + ((Int.toNat y10 : Nat) : Int) = 12 * (8 * m + y1) + y10 by omega]; exact ex60)
                      have zyzb62 : h.2.2 62 (Int.toNat y10) = x61 := by have q := ex61; rw [show 0 + y10 = y10 by omega] at q; exact q
                      refine to_ile 141 (dat dk_X12_tagAt 76 rfl) rfl (by omega) (by omega) (fun c63 => ?_) (fun c63 => ?_)
                      · skip
                        refine to_iinc (L' := [(0, .inr (.inr 60)), (1, .inl m), (2, .inr (.inr 62)), (3, .inl 0), (4, .inl n), (5, .inl (y1 + 1)), (6, .inl x9), (7, .inl y10)]) (dat dk_X12_tagAt 81 rfl) rfl (by decide) rfl (to_goto (dat dk_X12_tagAt 82 rfl) rfl ?_)
                        refine to_pick [0, 1, 2, 3, 4, 5] rfl ?_
                        exact ihn4 (n4 - 1) (by omega) (y1 + 1) (by omega) (show 0 ≤ (y1 + 1) ∧ (y1 + 1) ≤ h.2.2 68 (Int.toNat m) by omega) (fun t h0 ht => if ct : t = y1 then (by rw [ct]; exact tg_lt (k := y10) (by omega) c13 (by omega)) else c3 t h0 (by omega)) (show 9 - (y1 + 1) ≤ ((n4 - 1 : Nat) : Int) by omega)
                      · skip
                        refine to_iconst (dat dk_X12_tagAt 77 rfl) (to_iload (dat dk_X12_tagAt 78 rfl) rfl (to_isub (dat dk_X12_tagAt 79 rfl) ?_))
                        exact to_iret rfl (dat dk_X12_tagAt 80 rfl) (ri_mk (by omega) ⟨rfl, (show -9 ≤ ((-1) - y1) ∧ ((-1) - y1) ≤ 7 by omega), (show -1 - h.2.2 68 (Int.toNat m) ≤ ((-1) - y1) ∧ ((-1) - y1) < h.2.2 68 (Int.toNat m) by omega), (Or.inr ⟨by omega, by unfold tcn; omega, fun t h0 ht => c3 t h0 (by omega), Or.inr (by rw [show -1 - (-1 - y1) = y1 by omega]; exact tg_gt (k := y10) (by omega) c13 (by omega))⟩)⟩)
                · skip
                  refine to_iload (dat dk_X12_tagAt 51 rfl) rfl ?_
                  exact to_iret rfl (dat dk_X12_tagAt 52 rfl) (ri_mk ry1 ⟨rfl, (show -9 ≤ y1 ∧ y1 ≤ 7 by omega), (show -1 - h.2.2 68 (Int.toNat m) ≤ y1 ∧ y1 < h.2.2 68 (Int.toNat m) by omega), (Or.inl ⟨by omega, by unfold tcn; omega, tg_eq (k := y10) c13 (by omega) (by omega)⟩)⟩)
            · skip
              refine to_iinc (L' := [(0, .inr (.inr 60)), (1, .inl m), (2, .inr (.inr 62)), (3, .inl 0), (4, .inl n), (5, .inl y1), (6, .inl x9), (7, .inl (y10 + 1))]) (dat dk_X12_tagAt 43 rfl) rfl (by decide) rfl (to_goto (dat dk_X12_tagAt 44 rfl) rfl ?_)
              exact ihn14 (n14 - 1) (by omega) (y10 + 1) (by omega) (show 0 ≤ (y10 + 1) ∧ (y10 + 1) ≤ x9 by omega) (show (y10 + 1) ≤ n by omega) (fun i hi => if ci : (i : Int) = y10 then (by rw [show i = Int.toNat y10 by omega]; omega) else c13 i (by omega)) (show n - (y10 + 1) ≤ ((n14 - 1 : Nat) : Int) by omega)
      exact lp31_n14 (n - (0 : Int)).toNat 0 (by decide) (show 0 ≤ (0 : Int) ∧ (0 : Int) ≤ x9 by omega) (show (0 : Int) ≤ n by omega) (fun i hi => absurd hi (by omega)) (by omega)
  exact lp3_n4 (9 - (0 : Int)).toNat 0 (by decide) ⟨by omega, (hI.atR (a := 68) (j := Int.toNat m) rfl).1⟩ (fun t h0 ht => absurd ht (by omega)) (by omega)
abbrev Q_X12_moveTag_vx (h : Hp) (m : Int) (f : Int) (g : Int) : Option V → Hp → Nat → Nat → Prop := RV (fun H => Inv H ∧ Fr [66, 67] h H ∧ (MV h H (8 * m + f) (8 * m + g)))
set_option maxRecDepth 100000 in
theorem ct_X12_moveTag_vx (l : Launch) (h : Hp) (hI : Inv h) (m : Int) (hm : I32 m) (f : Int) (hf : I32 f) (g : Int) (hg : I32 g) (g0 : 0 ≤ m ∧ m ≤ 199) (g1 : 0 ≤ f ∧ f ≤ 7) (g2 : 0 ≤ g ∧ g ≤ 7) (g3 : f ≠ g) : Ct l D_X12_moveTag 0 0 [.inr (.inr 60), .inl m, .inl f, .inl g] h (Q_X12_moveTag_vx h m f g) := by
  refine ct_of pn_X12_moveTag (Nat.le_of_ble_eq_true rfl) ?_
  show To l E_X12_moveTag (0, [(0, .inr (.inr 60)), (1, .inl m), (2, .inl f), (3, .inl g)], [], h, 0, 0) _
  refine to_iconst (dat dk_X12_moveTag 0 rfl) (to_istore (L' := [(0, .inr (.inr 60)), (1, .inl m), (2, .inl f), (3, .inl g), (4, .inl 0)]) (dat dk_X12_moveTag 1 rfl) (by decide) rfl ?_)
  have lp3_n6 : ∀ (n6 : Nat) (y1 : Int) (h2 : Hp), (I32 y1) → (Inv h2) → (Fr [66, 67] h h2) → (0 ≤ y1 ∧ y1 ≤ 12) → (∀ (q : Int) (i : Nat), 0 ≤ q → i < 12 → tb h2 q i = if q = 8 * m + g ∧ (i : Int) < y1 then tb h (8 * m + f) i else tb h q i) → (h2.2.2 67 = h.2.2 67) → (12 - y1 ≤ (n6 : Int)) → To l E_X12_moveTag (3, [(0, .inr (.inr 60)), (1, .inl m), (2, .inl f), (3, .inl g), (4, .inl y1)], [], h2, 0, 0) (Q_X12_moveTag_vx h m f g) := by
    intro n6
    induction n6 using Nat.strongRecOn with
    | _ n6 ihn6 =>
    intro y1 h2 ry1 Ih2 fh2 c3 c4 c5 c7
    refine to_iload (dat dk_X12_moveTag 2 rfl) rfl (to_bipush (dat dk_X12_moveTag 3 rfl) (by decide) ?_)
    refine to_ige 50 (dat dk_X12_moveTag 4 rfl) rfl ry1 (by decide) (fun c8 => ?_) (fun c8 => ?_)
    · skip
      refine to_aload_n (dat dk_X12_moveTag 31 rfl) rfl (to_getR 67 g_c13_31 (dat dk_X12_moveTag 32 rfl) (Ih2.atS rfl) (Ih2.atE rfl) (to_bipush (dat dk_X12_moveTag 33 rfl) (by decide) (to_iload_n (dat dk_X12_moveTag 34 rfl) rfl (to_imul (dat dk_X12_moveTag 35 rfl) (to_iload_n (dat dk_X12_moveTag 36 rfl) rfl (to_iadd (dat dk_X12_moveTag 37 rfl) (to_aload_n (dat dk_X12_moveTag 38 rfl) rfl (to_getR 67 g_c13_31 (dat dk_X12_moveTag 39 rfl) (Ih2.atS rfl) (Ih2.atE rfl) (to_bipush (dat dk_X12_moveTag 40 rfl) (by decide) (to_iload_n (dat dk_X12_moveTag 41 rfl) rfl (to_imul (dat dk_X12_moveTag 42 rfl) (to_iload_n (dat dk_X12_moveTag 43 rfl) rfl (to_iadd (dat dk_X12_moveTag 44 rfl) ?_)))))))))))))
      obtain ⟨x9, ex9⟩ : ∃ y : Int, h2.2.2 67 (Int.toNat ((8 * m) + f)) = y := ⟨_, rfl⟩
      have rx9 := Ih2.atR (a := 67) (j := Int.toNat ((8 * m) + f)) rfl
      rw [ex9] at rx9
      refine to_ialdv ex9 (dat dk_X12_moveTag 45 rfl) (Ih2.atS rfl) rfl (by decide) (by omega) (to_iastw (dat dk_X12_moveTag 46 rfl) (Ih2.atS rfl) rfl (by decide) (by omega) ?_)
      intro h12 wh12
      have I10 : Inv h12 := by rw [wh12]; exact Ih2.put (a := 67) (j := (Int.toNat ((8 * m) + g))) (x := x9) (0) (12) rfl rfl (show (0 : Int) ≤ x9 ∧ x9 ≤ 12 by omega)
      have f11 : Fr [66, 67] h h12 := by rw [wh12]; exact Fr.putF (a := 67) (j := (Int.toNat ((8 * m) + g))) (x := x9) fh2 rfl
      exact to_vret rfl (dat dk_X12_moveTag 47 rfl) (rv_mk ⟨I10, f11, (mv_fin (f := 8 * m + f) (g := 8 * m + g) (k := y1) (by omega) (by omega) (by omega) c4 c5 ex9 wh12)⟩)
    · skip
      refine to_aload_n (dat dk_X12_moveTag 5 rfl) rfl (to_getR 66 g_c13_28 (dat dk_X12_moveTag 6 rfl) (Ih2.atS rfl) (Ih2.atE rfl) (to_bipush (dat dk_X12_moveTag 7 rfl) (by decide) (to_bipush (dat dk_X12_moveTag 8 rfl) (by decide) (to_iload_n (dat dk_X12_moveTag 9 rfl) rfl (to_imul (dat dk_X12_moveTag 10 rfl) (to_iload_n (dat dk_X12_moveTag 11 rfl) rfl (to_iadd (dat dk_X12_moveTag 12 rfl) (to_imul (dat dk_X12_moveTag 13 rfl) (to_iload (dat dk_X12_moveTag 14 rfl) rfl (to_iadd (dat dk_X12_moveTag 15 rfl) (to_aload_n (dat dk_X12_moveTag 16 rfl) rfl (to_getR 66 g_c13_28 (dat dk_X12_moveTag 17 rfl) (Ih2.atS rfl) (Ih2.atE rfl) (to_bipush (dat dk_X12_moveTag 18 rfl) (by decide) (to_bipush (dat dk_X12_moveTag 19 rfl) (by decide) (to_iload_n (dat dk_X12_moveTag 20 rfl) rfl (to_imul (dat dk_X12_moveTag 21 rfl) (to_iload_n (dat dk_X12_moveTag 22 rfl) rfl (to_iadd (dat dk_X12_moveTag 23 rfl) (to_imul (dat dk_X12_moveTag 24 rfl) (to_iload (dat dk_X12_moveTag 25 rfl) rfl (to_iadd (dat dk_X12_moveTag 26 rfl) ?_)))))))))))))))))))))
      obtain ⟨x13, ex13⟩ : ∃ y : Int, h2.2.2 66 (Int.toNat ((12 * ((8 * m) + f)) + y1)) = y := ⟨_, rfl⟩
      have rx13 := Ih2.atR (a := 66) (j := Int.toNat ((12 * ((8 * m) + f)) + y1)) rfl
      rw [ex13] at rx13
      refine to_baldv (q := 1) ex13 (dat dk_X12_moveTag 27 rfl) (by decide) (Ih2.atS rfl) rfl (by decide) (by omega) (to_bastw (dat dk_X12_moveTag 28 rfl) (Ih2.atS rfl) rfl (by decide) (by omega) ?_)
      intro h16 wh16
      have I14 : Inv h16 := by rw [wh16]; exact Ih2.put (a := 66) (j := (Int.toNat ((12 * ((8 * m) + g)) + y1))) (x := (b8 x13)) (-128) (127) rfl rfl (show (-128 : Int) ≤ (b8 x13) ∧ (b8 x13) ≤ 127 by have := b8_in x13; omega)
      have f15 : Fr [66, 67] h h16 := by rw [wh16]; exact Fr.putF (a := 66) (j := (Int.toNat ((12 * ((8 * m) + g)) + y1))) (x := (b8 x13)) fh2 rfl
      refine to_iinc (L' := [(0, .inr (.inr 60)), (1, .inl m), (2, .inl f), (3, .inl g), (4, .inl (y1 + 1))]) (dat dk_X12_moveTag 29 rfl) rfl (by decide) rfl (to_goto (dat dk_X12_moveTag 30 rfl) rfl ?_)
      exact ihn6 (n6 - 1) (by omega) (y1 + 1) h16 (by omega) I14 f15 (show 0 ≤ (y1 + 1) ∧ (y1 + 1) ≤ 12 by omega) (mv_step (f := 8 * m + f) (g := 8 * m + g) (k := y1) (by omega) (by omega) (by omega) ⟨by omega, by omega⟩ c4 (by rw [wh16, b8_id (by omega), ex13])) (by rw [wh16]; exact (funext fun i => wr_ne (by decide)).trans c5) (show 12 - (y1 + 1) ≤ ((n6 - 1 : Nat) : Int) by omega)
  exact lp3_n6 (12 - (0 : Int)).toNat 0 h (by decide) hI (Fr.rf _ _) (show 0 ≤ (0 : Int) ∧ (0 : Int) ≤ 12 by omega) (fun q i _ _ => by rw [if_neg (by omega)]) rfl (by omega)
abbrev Q_X12_tag_vx (h : Hp) (n : Int) (o : Int) : Option V → Hp → Nat → Nat → Prop := RI (fun x H => Inv H ∧ Fr [200, 203, 66, 67, 68] h H ∧ (x = 0 ∨ x = 1) ∧ (H.2.2 60 3 = 0) ∧ (TGR h H n o x (h.2.2 60 3)))
set_option maxRecDepth 100000 in
set_option maxHeartbeats 16000000 in
theorem ct_X12_tag_vx (l : Launch) (h : Hp) (hI : Inv h) (n : Int) (hn : I32 n) (o : Int) (ho : o = 0 ∨ o = 1) : Ct l D_X12_tag 2 43 [.inr (.inr 60), .inl n, .inl o] h (Q_X12_tag_vx h n o) := by
  refine ct_of pn_X12_tag (Nat.le_of_ble_eq_true rfl) ?_
  show To l E_X12_tag (0, [(0, .inr (.inr 60)), (1, .inl n), (2, .inl o)], [], h, 0, 0) _
  obtain ⟨x1, ex1⟩ : ∃ y : Int, h.2.2 60 3 = y := ⟨_, rfl⟩
  have rx1 := hI.atR (a := 60) (j := 3) rfl
  rw [ex1] at rx1
  obtain ⟨x2, ex2⟩ : ∃ y : Int, h.2.2 60 0 = y := ⟨_, rfl⟩
  have rx2 := hI.atR (a := 60) (j := 0) rfl
  rw [ex2] at rx2
  refine to_aload_n (dat dk_X12_tag 0 rfl) rfl ?_
  refine to_cI ca_c13_502 (dat dk_X12_tag 1 rfl) (ct_X12_take l h hI ) rfl ⟨_, _, rfl, (hI.atS rfl)⟩ rfl (fun x3 h4 rx3 p5 => ?_)
  obtain ⟨Ih4, fh4, p5_0, p5_1⟩ := p5
  have f6 : Fr [200, 203, 66, 67, 68] h h4 := Fr.sub (Fr.rf _ _) fh4 rfl
  obtain ⟨x7, ex7⟩ : ∃ y : Int, h4.2.2 60 3 = y := ⟨_, rfl⟩
  have rx7 := Ih4.atR (a := 60) (j := 3) rfl
  rw [ex7] at rx7
  have zr62 : h4.2.2 62 = h.2.2 62 := fh4.arr hI (by decide) (fun _ => rfl)
  have zr65 : h4.2.2 65 = h.2.2 65 := fh4.arr hI (by decide) (fun _ => rfl)
  have zr66 : h4.2.2 66 = h.2.2 66 := fh4.arr hI (by decide) (fun _ => rfl)
  have zr67 : h4.2.2 67 = h.2.2 67 := fh4.arr hI (by decide) (fun _ => rfl)
  have zr68 : h4.2.2 68 = h.2.2 68 := fh4.arr hI (by decide) (fun _ => rfl)
  have zt68 := hI.atR (a := 68) (j := Int.toNat n) rfl
  have z604 : h4.2.2 60 4 = h.2.2 60 4 := fh4.getF hI (a := 60) (j := 4) (by decide) rfl
  have z3 : x3 = h.2.2 60 3 := p5_0
  refine to_istore_n (L' := [(0, .inr (.inr 60)), (1, .inl n), (2, .inl o), (3, .inl x3)]) (dat dk_X12_tag 2 rfl) (by decide) rfl (to_iload_n (dat dk_X12_tag 3 rfl) rfl (to_istore (L' := [(0, .inr (.inr 60)), (1, .inl n), (2, .inl o), (3, .inl x3), (4, .inl n)]) (dat dk_X12_tag 4 rfl) (by decide) rfl ?_))
  have jn41_n10 : ∀ (y8 : Int), (I32 y8) → (TJ h n x3 y8) → To l E_X12_tag (41, [(0, .inr (.inr 60)), (1, .inl n), (2, .inl o), (3, .inl x3), (4, .inl n)], [.inl y8], h4, 0, 0) (Q_X12_tag_vx h n o) := by
    intro y8 ry8 c9
    have zTJ := c9
    refine to_istore (L' := [(0, .inr (.inr 60)), (1, .inl n), (2, .inl o), (3, .inl x3), (4, .inl n), (5, .inl y8)]) (dat dk_X12_tag 22 rfl) (by decide) rfl (to_aload_n (dat dk_X12_tag 23 rfl) rfl ?_)
    have jn95_n14 : ∀ (y11 : Int), (I32 y11) → (0 ≤ y11 ∧ y11 ≤ 3) → (TK h n o x3 y8 y11) → To l E_X12_tag (95, [(0, .inr (.inr 60)), (1, .inl n), (2, .inl o), (3, .inl x3), (4, .inl n), (5, .inl y8)], [.inl y11, .inr (.inr 60)], h4, 0, 0) (Q_X12_tag_vx h n o) := by
      intro y11 ry11 c12 c13
      have zTK := c13
      have zs3 := c12
      refine to_putIw p_c13_154 (dat dk_X12_tag 49 rfl) (Ih4.atS rfl) ?_
      intro h17 wh17
      have I15 : Inv h17 := by rw [wh17]; exact Ih4.put (a := 60) (j := 0) (x := y11) (0) (3) rfl rfl (show (0 : Int) ≤ y11 ∧ y11 ≤ 3 by omega)
      have f16 : Fr [200, 203, 66, 67, 68] h h17 := by rw [wh17]; exact Fr.putF (a := 60) (j := 0) (x := y11) f6 rfl
      have zq62 : h17.2.2 62 = h.2.2 62 := by rw [wh17]; exact (funext fun i => wr_ne (by decide)).trans zr62
      have zq66 : h17.2.2 66 = h.2.2 66 := by rw [wh17]; exact (funext fun i => wr_ne (by decide)).trans zr66
      have zq67 : h17.2.2 67 = h.2.2 67 := by rw [wh17]; exact (funext fun i => wr_ne (by decide)).trans zr67
      have zq68 : h17.2.2 68 = h.2.2 68 := by rw [wh17]; exact (funext fun i => wr_ne (by decide)).trans zr68
      have zq0 : h17.2.2 60 0 = y11 := by rw [wh17]; exact wr_eq
      have zk3 : h17.2.2 68 (Int.toNat n) = h.2.2 68 (Int.toNat n) := by rw [zq68]
      refine to_aload_n (dat dk_X12_tag 50 rfl) rfl (to_getIv (y := y11) (by rw [wh17]; exact wr_eq) g_c13_154 (dat dk_X12_tag 51 rfl) (I15.atS rfl) ?_)
      refine to_ifgt 119 (dat dk_X12_tag 52 rfl) rfl ry11 (fun c18 => ?_) (fun c18 => ?_)
      · skip
        refine to_iconst (dat dk_X12_tag 60 rfl) ?_
        have e19 : h17.2.2 60 3 = x7 := (by rw [wh17]; exact ex7)
        exact to_zret rfl (dat dk_X12_tag 61 rfl) (by decide) (ri_mk (by decide) ⟨I15, f16, (by decide), (show h17.2.2 60 3 = 0 by omega), (by rw [← z3]; exact (by rcases zTK with ⟨q, a⟩ | ⟨q, a, b⟩ | ⟨q, a, b, c, d, e⟩ | ⟨q, _⟩; exact Or.inl ⟨by omega, a, ⟨zq66, zq67, zq68⟩⟩; exact Or.inr (Or.inl ⟨by omega, a, b, ⟨zq66, zq67, zq68⟩⟩); exact Or.inr (Or.inr ⟨a, b, _, (zTJ a b).1, Or.inl ⟨by omega, by omega, d, e, ⟨zq66, zq67, zq68⟩⟩⟩); omega))⟩)
      · skip
        obtain ⟨zth, ztg, zto⟩ : isThereP h n ∧ isTg (h.2.2 62) x3 ∧ (o = 0 ∨ 0 ≤ y8 ∨ tcn h n ≠ 8) := by rcases zTK with ⟨q, _⟩ | ⟨q, _⟩ | ⟨q, _⟩ | ⟨_, q⟩; omega; omega; omega; exact q
        obtain ⟨zTA, zT1, zT2⟩ := zTJ zth ztg
        have zIs : 1 ≤ x3 ∧ x3 ≤ 12 := ztg.1
        have zn : 0 ≤ n ∧ n < h.2.2 60 4 := ⟨zth.1, zth.2.1⟩
        have zc : h.2.2 68 (Int.toNat n) = tcn h n := rfl
        have zTb : (0 ≤ y8 ∧ y8 < tcn h n) ∨ (y8 < 0 ∧ -1 - y8 ≤ tcn h n) := by rcases zTA with ⟨q1, q2, _⟩ | ⟨q1, q2, _⟩; exact Or.inl ⟨q1, q2⟩; exact Or.inr ⟨q1, q2⟩
        have z04 := hI.atR (a := 60) (j := 4) rfl
        refine to_iload_n (dat dk_X12_tag 53 rfl) rfl ?_
        have jn116_n22 : ∀ (y20 : Int), (y20 = 0 ∨ y20 = 1) → ((y20 = 1 ∧ 0 ≤ y8) ∨ (y20 = 0 ∧ y8 < 0)) → To l E_X12_tag (116, [(0, .inr (.inr 60)), (1, .inl n), (2, .inl o), (3, .inl x3), (4, .inl n), (5, .inl y8)], [.inl y20, .inl o], h17, 0, 0) (Q_X12_tag_vx h n o) := by
          intro y20 ry20 c21
          replace ry20 := z_lin ry20
          refine to_ine 121 (dat dk_X12_tag 59 rfl) rfl (by omega) (z_i32 ry20) (fun c23 => ?_) (fun c23 => ?_)
          · skip
            refine to_iload_n (dat dk_X12_tag 62 rfl) rfl ?_
            refine to_ifne 172 (dat dk_X12_tag 63 rfl) rfl (by omega) (fun c24 => ?_) (fun c24 => ?_)
            · skip
              refine to_aload_n (dat dk_X12_tag 91 rfl) rfl (to_getR 68 g_c13_34 (dat dk_X12_tag 92 rfl) (I15.atS rfl) (I15.atE rfl) (to_iload (dat dk_X12_tag 93 rfl) rfl ?_))
              obtain ⟨x25, ex25⟩ : ∃ y : Int, h17.2.2 68 (Int.toNat n) = y := ⟨_, rfl⟩
              have rx25 := I15.atR (a := 68) (j := Int.toNat n) rfl
              rw [ex25] at rx25
              refine to_ialdv ex25 (dat dk_X12_tag 94 rfl) (I15.atS rfl) rfl (by decide) (by omega) (to_istore (L' := [(0, .inr (.inr 60)), (1, .inl n), (2, .inl o), (3, .inl x3), (4, .inl n), (5, .inl y8), (6, .inl x25)]) (dat dk_X12_tag 95 rfl) (by decide) rfl ?_)
              have e32 : h17.2.2 60 3 = x7 := (by rw [wh17]; exact ex7)
              have e34 : h17.2.2 60 0 = y11 := (by rw [wh17]; exact wr_eq)
              have lp181_n36 : ∀ (n36 : Nat) (y26 : Int) (h27 : Hp), (I32 y26) → (Inv h27) → (Fr [200, 203, 66, 67, 68] h h27) → (-1 - y8 ≤ y26 ∧ y26 ≤ tcn h n) → (IL h h27 n (tcn h n) y26) → (h27.2.2 68 = h.2.2 68) → (h27.2.2 62 = h.2.2 62) → (h27.2.2 60 3 = 0) → (h27.2.2 60 0 = 0) → (y26 ≤ (n36 : Int)) → To l E_X12_tag (181, [(0, .inr (.inr 60)), (1, .inl n), (2, .inl o), (3, .inl x3), (4, .inl n), (5, .inl y8), (6, .inl y26)], [], h27, 0, 0) (Q_X12_tag_vx h n o) := by
                intro n36
                induction n36 using Nat.strongRecOn with
                | _ n36 ihn36 =>
                intro y26 h27 ry26 Ih27 fh27 c28 c29 c30 c31 c33 c35 c37
                obtain ⟨x38, ex38⟩ : ∃ y : Int, h27.2.2 60 3 = y := ⟨_, rfl⟩
                have rx38 := Ih27.atR (a := 60) (j := 3) rfl
                rw [ex38] at rx38
                obtain ⟨x39, ex39⟩ : ∃ y : Int, h27.2.2 60 0 = y := ⟨_, rfl⟩
                have rx39 := Ih27.atR (a := 60) (j := 0) rfl
                rw [ex39] at rx39
                refine to_iload (dat dk_X12_tag 96 rfl) rfl (to_iconst (dat dk_X12_tag 97 rfl) (to_iload (dat dk_X12_tag 98 rfl) rfl (to_isub (dat dk_X12_tag 99 rfl) ?_)))
                refine to_ile 208 (dat dk_X12_tag 100 rfl) rfl ry26 (by omega) (fun c40 => ?_) (fun c40 => ?_)
                · skip
                  refine to_iconst (dat dk_X12_tag 110 rfl) (to_istore (L' := [(0, .inr (.inr 60)), (1, .inl n), (2, .inl o), (3, .inl x3), (4, .inl n), (5, .inl y8), (6, .inl 0)]) (dat dk_X12_tag 111 rfl) (by decide) rfl ?_)
                  have lp211_n49 : ∀ (n49 : Nat) (y41 : Int) (h42 : Hp), (I32 y41) → (Inv h42) → (Fr [200, 203, 66, 67, 68] h h42) → (0 ≤ y41) → (IW h h42 n (tcn h n) (-1 - y8) (8 * n - 1 - y8) y41 (h.2.2 62)) → (h42.2.2 68 = h.2.2 68) → (h42.2.2 62 = h.2.2 62) → (h42.2.2 60 3 = 0) → (h42.2.2 60 0 = 0) → (x3 - y41 ≤ (n49 : Int)) → To l E_X12_tag (211, [(0, .inr (.inr 60)), (1, .inl n), (2, .inl o), (3, .inl x3), (4, .inl n), (5, .inl y8), (6, .inl y41)], [], h42, 0, 0) (Q_X12_tag_vx h n o) := by
                    intro n49
                    induction n49 using Nat.strongRecOn with
                    | _ n49 ihn49 =>
                    intro y41 h42 ry41 Ih42 fh42 c43 c44 c45 c46 c47 c48 c50
                    obtain ⟨x51, ex51⟩ : ∃ y : Int, h42.2.2 60 3 = y := ⟨_, rfl⟩
                    have rx51 := Ih42.atR (a := 60) (j := 3) rfl
                    rw [ex51] at rx51
                    obtain ⟨x52, ex52⟩ : ∃ y : Int, h42.2.2 60 0 = y := ⟨_, rfl⟩
                    have rx52 := Ih42.atR (a := 60) (j := 0) rfl
                    rw [ex52] at rx52
                    refine to_iload (dat dk_X12_tag 112 rfl) rfl (to_iload_n (dat dk_X12_tag 113 rfl) rfl ?_)
                    refine to_ige 251 (dat dk_X12_tag 114 rfl) rfl ry41 rx3 (fun c53 => ?_) (fun c53 => ?_)
                    · skip
                      refine to_aload_n (dat dk_X12_tag 135 rfl) rfl (to_getR 67 g_c13_31 (dat dk_X12_tag 136 rfl) (Ih42.atS rfl) (Ih42.atE rfl) (to_bipush (dat dk_X12_tag 137 rfl) (by decide) (to_iload (dat dk_X12_tag 138 rfl) rfl (to_imul (dat dk_X12_tag 139 rfl) (to_iconst (dat dk_X12_tag 140 rfl) (to_isub (dat dk_X12_tag 141 rfl) (to_iload (dat dk_X12_tag 142 rfl) rfl (to_isub (dat dk_X12_tag 143 rfl) (to_iload_n (dat dk_X12_tag 144 rfl) rfl (to_iastw (dat dk_X12_tag 145 rfl) (Ih42.atS rfl) rfl (by decide) (by omega) ?_))))))))))
                      intro h56 wh56
                      have I54 : Inv h56 := by rw [wh56]; exact Ih42.put (a := 67) (j := (Int.toNat (((8 * n) - 1) - y8))) (x := x3) (0) (12) rfl rfl (show (0 : Int) ≤ x3 ∧ x3 ≤ 12 by omega)
                      have f55 : Fr [200, 203, 66, 67, 68] h h56 := by rw [wh56]; exact Fr.putF (a := 67) (j := (Int.toNat (((8 * n) - 1) - y8))) (x := x3) fh42 rfl
                      have zk4 : h56.2.2 68 (Int.toNat n) = h.2.2 68 (Int.toNat n) := by rw [wh56, wr_ne (by decide), c45]
                      refine to_aload_n (dat dk_X12_tag 146 rfl) rfl (to_getR 68 g_c13_34 (dat dk_X12_tag 147 rfl) (I54.atS rfl) (I54.atE rfl) (to_iload (dat dk_X12_tag 148 rfl) rfl (to_dup2 (dat dk_X12_tag 149 rfl) rfl rfl ?_)))
                      obtain ⟨x57, ex57⟩ : ∃ y : Int, h56.2.2 68 (Int.toNat n) = y := ⟨_, rfl⟩
                      have rx57 := I54.atR (a := 68) (j := Int.toNat n) rfl
                      rw [ex57] at rx57
                      refine to_ialdv ex57 (dat dk_X12_tag 150 rfl) (I54.atS rfl) rfl (by decide) (by omega) (to_iconst (dat dk_X12_tag 151 rfl) (to_iadd (dat dk_X12_tag 152 rfl) (to_iastw (dat dk_X12_tag 153 rfl) (I54.atS rfl) rfl (by decide) (by omega) ?_)))
                      intro h60 wh60
                      have I58 : Inv h60 := by rw [wh60]; exact I54.put (a := 68) (j := (Int.toNat n)) (x := (x57 + 1)) (0) (8) rfl rfl (show (0 : Int) ≤ (x57 + 1) ∧ (x57 + 1) ≤ 8 by omega)
                      have f59 : Fr [200, 203, 66, 67, 68] h h60 := by rw [wh60]; exact Fr.putF (a := 68) (j := (Int.toNat n)) (x := (x57 + 1)) f55 rfl
                      refine to_iconst (dat dk_X12_tag 154 rfl) ?_
                      have e61 : h60.2.2 60 3 = x51 := (by rw [wh60]; exact (show h56.2.2 60 3 = x51 from (by rw [wh56]; exact ex51)))
                      have e62 : h60.2.2 60 0 = x52 := (by rw [wh60]; exact (show h56.2.2 60 0 = x52 from (by rw [wh56]; exact ex52)))
                      exact to_zret rfl (dat dk_X12_tag 155 rfl) (by decide) (ri_mk (by decide) ⟨I58, f59, (by decide), (show h60.2.2 60 3 = 0 by omega), (by rw [← z3]; exact (Or.inr (Or.inr ⟨zth, ztg, _, zTA, Or.inr (Or.inr (Or.inr ⟨by omega, rfl, by omega, by omega, by omega, IW.fin (c := tcn h n) c44 (by omega) (by omega) (by omega) rfl wh56 (by rw [wh56]; exact (funext fun i => wr_ne (by decide)).trans c45) (by omega) wh60 (by omega)⟩))⟩)))⟩)
                    · skip
                      refine to_aload_n (dat dk_X12_tag 115 rfl) rfl (to_getR 66 g_c13_28 (dat dk_X12_tag 116 rfl) (Ih42.atS rfl) (Ih42.atE rfl) (to_bipush (dat dk_X12_tag 117 rfl) (by decide) (to_bipush (dat dk_X12_tag 118 rfl) (by decide) (to_iload (dat dk_X12_tag 119 rfl) rfl (to_imul (dat dk_X12_tag 120 rfl) (to_iconst (dat dk_X12_tag 121 rfl) (to_isub (dat dk_X12_tag 122 rfl) (to_iload (dat dk_X12_tag 123 rfl) rfl (to_isub (dat dk_X12_tag 124 rfl) (to_imul (dat dk_X12_tag 125 rfl) (to_iload (dat dk_X12_tag 126 rfl) rfl (to_iadd (dat dk_X12_tag 127 rfl) (to_aload_n (dat dk_X12_tag 128 rfl) rfl (to_getR 62 g_c13_13 (dat dk_X12_tag 129 rfl) (Ih42.atS rfl) (Ih42.atE rfl) (to_iload (dat dk_X12_tag 130 rfl) rfl ?_)))))))))))))))
                      obtain ⟨x63, ex63⟩ : ∃ y : Int, h42.2.2 62 (Int.toNat y41) = y := ⟨_, rfl⟩
                      have rx63 := Ih42.atR (a := 62) (j := Int.toNat y41) rfl
                      rw [ex63] at rx63
                      refine to_baldv (q := 1) ex63 (dat dk_X12_tag 131 rfl) (by decide) (Ih42.atS rfl) rfl (by decide) (by omega) (to_bastw (dat dk_X12_tag 132 rfl) (Ih42.atS rfl) rfl (by decide) (by omega) ?_)
                      intro h66 wh66
                      have I64 : Inv h66 := by rw [wh66]; exact Ih42.put (a := 66) (j := (Int.toNat ((12 * (((8 * n) - 1) - y8)) + y41))) (x := (b8 x63)) (-128) (127) rfl rfl (show (-128 : Int) ≤ (b8 x63) ∧ (b8 x63) ≤ 127 by have := b8_in x63; omega)
                      have f65 : Fr [200, 203, 66, 67, 68] h h66 := by rw [wh66]; exact Fr.putF (a := 66) (j := (Int.toNat ((12 * (((8 * n) - 1) - y8)) + y41))) (x := (b8 x63)) fh42 rfl
                      refine to_iinc (L' := [(0, .inr (.inr 60)), (1, .inl n), (2, .inl o), (3, .inl x3), (4, .inl n), (5, .inl y8), (6, .inl (y41 + 1))]) (dat dk_X12_tag 133 rfl) rfl (by decide) rfl (to_goto (dat dk_X12_tag 134 rfl) rfl ?_)
                      have e67 : h66.2.2 60 3 = x51 := (by rw [wh66]; exact ex51)
                      have e68 : h66.2.2 60 0 = x52 := (by rw [wh66]; exact ex52)
                      exact ihn49 (n49 - 1) (by omega) (y41 + 1) h66 (by omega) I64 f65 (show 0 ≤ (y41 + 1) by omega) (IW.go c44 (by omega) ⟨by omega, by omega⟩ (by rw [wh66, b8_id (by omega), ← ex63, c46])) (by rw [wh66]; exact (funext fun i => wr_ne (by decide)).trans c45) (by rw [wh66]; exact (funext fun i => wr_ne (by decide)).trans c46) (show h66.2.2 60 3 = 0 by omega) (show h66.2.2 60 0 = 0 by omega) (show x3 - (y41 + 1) ≤ ((n49 - 1 : Nat) : Int) by omega)
                  exact lp211_n49 (x3 - (0 : Int)).toNat 0 h27 (by decide) Ih27 fh27 (show 0 ≤ (0 : Int) by omega) (IW.s (by rw [show -1 - y8 = y26 by omega]; exact c29)) c30 c31 (show h27.2.2 60 3 = 0 by omega) (show h27.2.2 60 0 = 0 by omega) (by omega)
                · skip
                  refine to_aload_n (dat dk_X12_tag 101 rfl) rfl (to_iload (dat dk_X12_tag 102 rfl) rfl (to_iload (dat dk_X12_tag 103 rfl) rfl (to_iconst (dat dk_X12_tag 104 rfl) (to_isub (dat dk_X12_tag 105 rfl) (to_iload (dat dk_X12_tag 106 rfl) rfl ?_)))))
                  refine to_cV ca_c13_511 (dat dk_X12_tag 107 rfl) (ct_X12_moveTag_vx l h27 Ih27 n hn (y26 - 1) (by omega) y26 ry26 (show 0 ≤ n ∧ n ≤ 199 by omega) (show 0 ≤ (y26 - 1) ∧ (y26 - 1) ≤ 7 by omega) (show 0 ≤ y26 ∧ y26 ≤ 7 by omega) (show (y26 - 1) ≠ y26 by omega)) rfl ⟨_, _, rfl, (Ih27.atS rfl)⟩ rfl (fun h70 p71 => ?_)
                  obtain ⟨Ih70, fh70, p71_0⟩ := p71
                  have f72 : Fr [200, 203, 66, 67, 68] h h70 := Fr.sub fh27 fh70 rfl
                  refine to_iinc (L' := [(0, .inr (.inr 60)), (1, .inl n), (2, .inl o), (3, .inl x3), (4, .inl n), (5, .inl y8), (6, .inl (y26 + (-1)))]) (dat dk_X12_tag 108 rfl) rfl (by decide) rfl (to_goto (dat dk_X12_tag 109 rfl) rfl ?_)
                  have e73 : h70.2.2 60 3 = x38 := ((Fr.get fh70 (by have := Ih27.1.1; omega) rfl).trans ex38)
                  have e74 : h70.2.2 60 0 = x39 := ((Fr.get fh70 (by have := Ih27.1.1; omega) rfl).trans ex39)
                  exact ihn36 (n36 - 1) (by omega) (y26 + (-1)) h70 (by omega) Ih70 f72 (show -1 - y8 ≤ (y26 + (-1)) ∧ (y26 + (-1)) ≤ tcn h n by omega) (by have z := IL.go c29 p71_0 ⟨by omega, by omega, by omega⟩; rw [show y26 - 1 = (y26 + (-1)) by omega] at z; exact z) ((fh70.arr Ih27 (a := 68) (by decide) (fun _ => rfl)).trans c30) ((fh70.arr Ih27 (a := 62) (by decide) (fun _ => rfl)).trans c31) (show h70.2.2 60 3 = 0 by omega) (show h70.2.2 60 0 = 0 by omega) (show (y26 + (-1)) ≤ ((n36 - 1 : Nat) : Int) by omega)
              exact lp181_n36 (x25).toNat x25 h17 (by omega) I15 f16 (show -1 - y8 ≤ x25 ∧ x25 ≤ tcn h n by omega) (by rw [show x25 = tcn h n by omega]; exact IL.s zq66 zq67) zq68 zq62 (show h17.2.2 60 3 = 0 by omega) (show h17.2.2 60 0 = 0 by omega) (by omega)
            · skip
              refine to_aload_n (dat dk_X12_tag 64 rfl) rfl (to_getR 68 g_c13_34 (dat dk_X12_tag 65 rfl) (I15.atS rfl) (I15.atE rfl) (to_iload (dat dk_X12_tag 66 rfl) rfl (to_dup2 (dat dk_X12_tag 67 rfl) rfl rfl ?_)))
              obtain ⟨x75, ex75⟩ : ∃ y : Int, h17.2.2 68 (Int.toNat n) = y := ⟨_, rfl⟩
              have rx75 := I15.atR (a := 68) (j := Int.toNat n) rfl
              rw [ex75] at rx75
              refine to_ialdv ex75 (dat dk_X12_tag 68 rfl) (I15.atS rfl) rfl (by decide) (by omega) (to_iconst (dat dk_X12_tag 69 rfl) (to_isub (dat dk_X12_tag 70 rfl) (to_iastw (dat dk_X12_tag 71 rfl) (I15.atS rfl) rfl (by decide) (by omega) ?_)))
              intro h78 wh78
              have I76 : Inv h78 := by rw [wh78]; exact I15.put (a := 68) (j := (Int.toNat n)) (x := (x75 - 1)) (0) (8) rfl rfl (show (0 : Int) ≤ (x75 - 1) ∧ (x75 - 1) ≤ 8 by omega)
              have f77 : Fr [200, 203, 66, 67, 68] h h78 := by rw [wh78]; exact Fr.putF (a := 68) (j := (Int.toNat n)) (x := (x75 - 1)) f16 rfl
              have zp62 : h78.2.2 62 = h.2.2 62 := by rw [wh78]; exact (funext fun i => wr_ne (by decide)).trans zq62
              have zp66 : h78.2.2 66 = h.2.2 66 := by rw [wh78]; exact (funext fun i => wr_ne (by decide)).trans zq66
              have zp67 : h78.2.2 67 = h.2.2 67 := by rw [wh78]; exact (funext fun i => wr_ne (by decide)).trans zq67
              have zp68 : ∀ j : Nat, h78.2.2 68 j = if j = Int.toNat n then tcn h n - 1 else h.2.2 68 j := fun j => by rw [wh78, wr_if, zq68]; exact if cj : j = Int.toNat n then (by rw [if_pos ⟨rfl, cj⟩, if_pos cj]; omega) else (by rw [if_neg (fun q => cj q.2), if_neg cj])
              have zp0 : h78.2.2 60 0 = 0 := by rw [wh78, wr_ne (by decide)]; omega
              refine to_iload (dat dk_X12_tag 72 rfl) rfl (to_istore (L' := [(0, .inr (.inr 60)), (1, .inl n), (2, .inl o), (3, .inl x3), (4, .inl n), (5, .inl y8), (6, .inl y8)]) (dat dk_X12_tag 73 rfl) (by decide) rfl ?_)
              have e84 : h78.2.2 60 3 = x7 := (by rw [wh78]; exact (show h17.2.2 60 3 = x7 from (by rw [wh17]; exact ex7)))
              have e86 : h78.2.2 60 0 = y11 := (by rw [wh78]; exact (show h17.2.2 60 0 = y11 from (by rw [wh17]; exact wr_eq)))
              have lp140_n88 : ∀ (n88 : Nat) (y79 : Int) (h80 : Hp), (I32 y79) → (Inv h80) → (Fr [200, 203, 66, 67, 68] h h80) → (y8 ≤ y79 ∧ y79 ≤ tcn h n - 1) → (RLx h h80 n y8 y79) → (h80.2.2 68 = h78.2.2 68) → (h80.2.2 60 3 = 0) → (h80.2.2 60 0 = 0) → (9 - y79 ≤ (n88 : Int)) → To l E_X12_tag (140, [(0, .inr (.inr 60)), (1, .inl n), (2, .inl o), (3, .inl x3), (4, .inl n), (5, .inl y8), (6, .inl y79)], [], h80, 0, 0) (Q_X12_tag_vx h n o) := by
                intro n88
                induction n88 using Nat.strongRecOn with
                | _ n88 ihn88 =>
                intro y79 h80 ry79 Ih80 fh80 c81 c82 c83 c85 c87 c89
                obtain ⟨x90, ex90⟩ : ∃ y : Int, h80.2.2 60 3 = y := ⟨_, rfl⟩
                have rx90 := Ih80.atR (a := 60) (j := 3) rfl
                rw [ex90] at rx90
                obtain ⟨x91, ex91⟩ : ∃ y : Int, h80.2.2 60 0 = y := ⟨_, rfl⟩
                have rx91 := Ih80.atR (a := 60) (j := 0) rfl
                rw [ex91] at rx91
                have zk : h80.2.2 68 (Int.toNat n) = tcn h n - 1 := by rw [c83, zp68, if_pos rfl]
                refine to_iload (dat dk_X12_tag 74 rfl) rfl (to_aload_n (dat dk_X12_tag 75 rfl) rfl (to_getR 68 g_c13_34 (dat dk_X12_tag 76 rfl) (Ih80.atS rfl) (Ih80.atE rfl) (to_iload (dat dk_X12_tag 77 rfl) rfl ?_)))
                obtain ⟨x92, ex92⟩ : ∃ y : Int, h80.2.2 68 (Int.toNat n) = y := ⟨_, rfl⟩
                have rx92 := Ih80.atR (a := 68) (j := Int.toNat n) rfl
                rw [ex92] at rx92
                refine to_ialdv ex92 (dat dk_X12_tag 78 rfl) (Ih80.atS rfl) rfl (by decide) (by omega) ?_
                refine to_ige 170 (dat dk_X12_tag 79 rfl) rfl ry79 (by omega) (fun c93 => ?_) (fun c93 => ?_)
                · skip
                  refine to_iconst (dat dk_X12_tag 89 rfl) ?_
                  exact to_zret rfl (dat dk_X12_tag 90 rfl) (by decide) (ri_mk (by decide) ⟨Ih80, fh80, (by decide), (show h80.2.2 60 3 = 0 by omega), (by rw [← z3]; exact (Or.inr (Or.inr ⟨zth, ztg, _, zTA, Or.inr (Or.inr (Or.inl ⟨by omega, rfl, by omega, by omega, RLx.fin (c := tcn h n) (k := y79) c82 rfl (by omega) (by omega) c83 zp68⟩))⟩)))⟩)
                · skip
                  refine to_aload_n (dat dk_X12_tag 80 rfl) rfl (to_iload (dat dk_X12_tag 81 rfl) rfl (to_iload (dat dk_X12_tag 82 rfl) rfl (to_iconst (dat dk_X12_tag 83 rfl) (to_iadd (dat dk_X12_tag 84 rfl) (to_iload (dat dk_X12_tag 85 rfl) rfl ?_)))))
                  refine to_cV ca_c13_511 (dat dk_X12_tag 86 rfl) (ct_X12_moveTag_vx l h80 Ih80 n hn (y79 + 1) (by omega) y79 ry79 (show 0 ≤ n ∧ n ≤ 199 by omega) (show 0 ≤ (y79 + 1) ∧ (y79 + 1) ≤ 7 by omega) (show 0 ≤ y79 ∧ y79 ≤ 7 by omega) (show (y79 + 1) ≠ y79 by omega)) rfl ⟨_, _, rfl, (Ih80.atS rfl)⟩ rfl (fun h95 p96 => ?_)
                  obtain ⟨Ih95, fh95, p96_0⟩ := p96
                  have f97 : Fr [200, 203, 66, 67, 68] h h95 := Fr.sub fh80 fh95 rfl
                  refine to_iinc (L' := [(0, .inr (.inr 60)), (1, .inl n), (2, .inl o), (3, .inl x3), (4, .inl n), (5, .inl y8), (6, .inl (y79 + 1))]) (dat dk_X12_tag 87 rfl) rfl (by decide) rfl (to_goto (dat dk_X12_tag 88 rfl) rfl ?_)
                  have e98 : h95.2.2 60 3 = x90 := ((Fr.get fh95 (by have := Ih80.1.1; omega) rfl).trans ex90)
                  have e99 : h95.2.2 60 0 = x91 := ((Fr.get fh95 (by have := Ih80.1.1; omega) rfl).trans ex91)
                  exact ihn88 (n88 - 1) (by omega) (y79 + 1) h95 (by omega) Ih95 f97 (show y8 ≤ (y79 + 1) ∧ (y79 + 1) ≤ tcn h n - 1 by omega) (RLx.go c82 p96_0 ⟨by omega, by omega, by omega⟩) ((fh95.arr Ih80 (a := 68) (by decide) (fun _ => rfl)).trans c83) (show h95.2.2 60 3 = 0 by omega) (show h95.2.2 60 0 = 0 by omega) (show 9 - (y79 + 1) ≤ ((n88 - 1 : Nat) : Int) by omega)
              exact lp140_n88 (9 - y8).toNat y8 h78 ry8 I76 f77 (show y8 ≤ y8 ∧ y8 ≤ tcn h n - 1 by omega) (RLx.s zp66 zp67) rfl (show h78.2.2 60 3 = 0 by omega) (show h78.2.2 60 0 = 0 by omega) (by omega)
          · skip
            refine to_iconst (dat dk_X12_tag 60 rfl) ?_
            have e100 : h17.2.2 60 3 = x7 := (by rw [wh17]; exact ex7)
            exact to_zret rfl (dat dk_X12_tag 61 rfl) (by decide) (ri_mk (by decide) ⟨I15, f16, (by decide), (show h17.2.2 60 3 = 0 by omega), (by rw [← z3]; exact (Or.inr (Or.inr ⟨zth, ztg, _, (zTJ zth ztg).1, Or.inr (Or.inl ⟨by omega, rfl, by omega, ⟨zq66, zq67, zq68⟩⟩)⟩)))⟩)
        refine to_iload (dat dk_X12_tag 54 rfl) rfl ?_
        refine to_iflt 115 (dat dk_X12_tag 55 rfl) rfl ry8 (fun c101 => ?_) (fun c101 => ?_)
        · skip
          refine to_iconst (dat dk_X12_tag 58 rfl) ?_
          exact jn116_n22 0 (by decide) (show ((0 : Int) = 1 ∧ 0 ≤ y8) ∨ ((0 : Int) = 0 ∧ y8 < 0) by omega)
        · skip
          refine to_iconst (dat dk_X12_tag 56 rfl) (to_goto (dat dk_X12_tag 57 rfl) rfl ?_)
          exact jn116_n22 1 (by decide) (show ((1 : Int) = 1 ∧ 0 ≤ y8) ∨ ((1 : Int) = 0 ∧ y8 < 0) by omega)
    refine to_aload_n (dat dk_X12_tag 24 rfl) rfl (to_iload (dat dk_X12_tag 25 rfl) rfl ?_)
    obtain ⟨x102, ex102⟩ : ∃ y : Int, h4.2.2 60 4 = y := ⟨_, rfl⟩
    have rx102 := Ih4.atR (a := 60) (j := 4) rfl
    rw [ex102] at rx102
    refine to_cI ca_c13_505 (dat dk_X12_tag 26 rfl) (ct_X12_isThere_vcc l h4 Ih4 n hn) rfl ⟨_, _, rfl, (Ih4.atS rfl)⟩ rfl (fun x103 h104 rx103 p105 => ?_)
    obtain ⟨rfl, zx103, p105_0⟩ := p105
    have rzx103 := z_lin zx103
    clear zx103
    clear rx103
    have rx103 := rzx103
    clear rzx103
    rw [zr65] at p105_0
    have zt106 : (x103 = 1 ∧ isThereP h n) ∨ (x103 = 0 ∧ ¬ isThereP h n) := by
      unfold isThereP; omega
    refine to_ifne 57 (dat dk_X12_tag 27 rfl) rfl (z_i32 rx103) (fun c107 => ?_) (fun c107 => ?_)
    · skip
      replace c107 := z_one rx103 c107
      refine to_aload_n (dat dk_X12_tag 30 rfl) rfl (to_iload_n (dat dk_X12_tag 31 rfl) rfl ?_)
      refine to_cI ca_c13_508 (dat dk_X12_tag 32 rfl) (ct_X12_isTag_vx l h4 Ih4 x3 rx3 (show x3 ≤ 1200 by omega)) rfl ⟨_, _, rfl, (Ih4.atS rfl)⟩ rfl (fun x108 h109 rx108 p110 => ?_)
      obtain ⟨rfl, zx108, p110_0⟩ := p110
      have rzx108 := z_lin zx108
      clear zx108
      clear rx108
      have rx108 := rzx108
      clear rzx108
      rw [zr62] at p110_0
      refine to_ifne 69 (dat dk_X12_tag 33 rfl) rfl (z_i32 rx108) (fun c111 => ?_) (fun c111 => ?_)
      · skip
        replace c111 := z_one rx108 c111
        refine to_iload_n (dat dk_X12_tag 36 rfl) rfl ?_
        refine to_ifeq 94 (dat dk_X12_tag 37 rfl) rfl (by omega) (fun c112 => ?_) (fun c112 => ?_)
        · skip
          refine to_iconst (dat dk_X12_tag 48 rfl) ?_
          exact jn95_n14 0 (by decide) (show 0 ≤ (0 : Int) ∧ (0 : Int) ≤ 3 by omega) (Or.inr (Or.inr (Or.inr ⟨rfl, (by rcases zt106 with ⟨_, q⟩ | ⟨q, _⟩; exact q; omega), (by rcases p110_0 with ⟨_, q⟩ | ⟨q, _⟩; exact q; omega), (by omega)⟩)))
        · skip
          refine to_iload (dat dk_X12_tag 38 rfl) rfl ?_
          refine to_ifge 94 (dat dk_X12_tag 39 rfl) rfl ry8 (fun c113 => ?_) (fun c113 => ?_)
          · skip
            refine to_iconst (dat dk_X12_tag 48 rfl) ?_
            exact jn95_n14 0 (by decide) (show 0 ≤ (0 : Int) ∧ (0 : Int) ≤ 3 by omega) (Or.inr (Or.inr (Or.inr ⟨rfl, (by rcases zt106 with ⟨_, q⟩ | ⟨q, _⟩; exact q; omega), (by rcases p110_0 with ⟨_, q⟩ | ⟨q, _⟩; exact q; omega), (by omega)⟩)))
          · skip
            refine to_aload_n (dat dk_X12_tag 40 rfl) rfl (to_getR 68 g_c13_34 (dat dk_X12_tag 41 rfl) (Ih4.atS rfl) (Ih4.atE rfl) (to_iload (dat dk_X12_tag 42 rfl) rfl ?_))
            obtain ⟨x114, ex114⟩ : ∃ y : Int, h4.2.2 68 (Int.toNat n) = y := ⟨_, rfl⟩
            have rx114 := Ih4.atR (a := 68) (j := Int.toNat n) rfl
            rw [ex114] at rx114
            refine to_ialdv ex114 (dat dk_X12_tag 43 rfl) (Ih4.atS rfl) rfl (by decide) (by omega) (to_bipush (dat dk_X12_tag 44 rfl) (by decide) ?_)
            refine to_ine 94 (dat dk_X12_tag 45 rfl) rfl (by omega) (by decide) (fun c115 => ?_) (fun c115 => ?_)
            · skip
              refine to_iconst (dat dk_X12_tag 48 rfl) ?_
              exact jn95_n14 0 (by decide) (show 0 ≤ (0 : Int) ∧ (0 : Int) ≤ 3 by omega) (Or.inr (Or.inr (Or.inr ⟨rfl, (by rcases zt106 with ⟨_, q⟩ | ⟨q, _⟩; exact q; omega), (by rcases p110_0 with ⟨_, q⟩ | ⟨q, _⟩; exact q; omega), (by right; right; unfold tcn; rw [← zr68]; omega)⟩)))
            · skip
              refine to_iconst (dat dk_X12_tag 46 rfl) (to_goto (dat dk_X12_tag 47 rfl) rfl ?_)
              exact jn95_n14 3 (by decide) (show 0 ≤ (3 : Int) ∧ (3 : Int) ≤ 3 by omega) (Or.inr (Or.inr (Or.inl ⟨rfl, (by rcases zt106 with ⟨_, q⟩ | ⟨q, _⟩; exact q; omega), (by rcases p110_0 with ⟨_, q⟩ | ⟨q, _⟩; exact q; omega), by omega, by omega, (by unfold tcn; rw [← zr68]; omega)⟩)))
      · skip
        refine to_iconst (dat dk_X12_tag 34 rfl) (to_goto (dat dk_X12_tag 35 rfl) rfl ?_)
        exact jn95_n14 2 (by decide) (show 0 ≤ (2 : Int) ∧ (2 : Int) ≤ 3 by omega) (Or.inr (Or.inl ⟨rfl, (by rcases zt106 with ⟨_, q⟩ | ⟨q, _⟩; exact q; omega), (by rcases p110_0 with ⟨q, _⟩ | ⟨_, q⟩; omega; exact q)⟩))
    · skip
      refine to_iconst (dat dk_X12_tag 28 rfl) (to_goto (dat dk_X12_tag 29 rfl) rfl ?_)
      exact jn95_n14 1 (by decide) (show 0 ≤ (1 : Int) ∧ (1 : Int) ≤ 3 by omega) (Or.inl ⟨rfl, (by rcases zt106 with ⟨q, _⟩ | ⟨_, q⟩; omega; exact q)⟩)
  refine to_aload_n (dat dk_X12_tag 5 rfl) rfl (to_iload (dat dk_X12_tag 6 rfl) rfl ?_)
  obtain ⟨x116, ex116⟩ : ∃ y : Int, h4.2.2 60 4 = y := ⟨_, rfl⟩
  have rx116 := Ih4.atR (a := 60) (j := 4) rfl
  rw [ex116] at rx116
  refine to_cI ca_c13_505 (dat dk_X12_tag 7 rfl) (ct_X12_isThere_vcc l h4 Ih4 n hn) rfl ⟨_, _, rfl, (Ih4.atS rfl)⟩ rfl (fun x117 h118 rx117 p119 => ?_)
  obtain ⟨rfl, zx117, p119_0⟩ := p119
  have rzx117 := z_lin zx117
  clear zx117
  clear rx117
  have rx117 := rzx117
  clear rzx117
  rw [zr65] at p119_0
  have zt120 : (x117 = 1 ∧ isThereP h n) ∨ (x117 = 0 ∧ ¬ isThereP h n) := by
    unfold isThereP; omega
  refine to_ifeq 40 (dat dk_X12_tag 8 rfl) rfl (z_i32 rx117) (fun c121 => ?_) (fun c121 => ?_)
  · skip
    refine to_iconst (dat dk_X12_tag 21 rfl) ?_
    exact jn41_n10 0 (by decide) (fun a1 _ => by rcases zt120 with ⟨q, _⟩ | ⟨_, q⟩; omega; exact absurd a1 q)
  · skip
    replace c121 := z_one rx117 c121
    refine to_aload_n (dat dk_X12_tag 9 rfl) rfl (to_iload_n (dat dk_X12_tag 10 rfl) rfl ?_)
    refine to_cI ca_c13_508 (dat dk_X12_tag 11 rfl) (ct_X12_isTag_vx l h4 Ih4 x3 rx3 (show x3 ≤ 1200 by omega)) rfl ⟨_, _, rfl, (Ih4.atS rfl)⟩ rfl (fun x122 h123 rx122 p124 => ?_)
    obtain ⟨rfl, zx122, p124_0⟩ := p124
    have rzx122 := z_lin zx122
    clear zx122
    clear rx122
    have rx122 := rzx122
    clear rzx122
    rw [zr62] at p124_0
    refine to_ifeq 40 (dat dk_X12_tag 12 rfl) rfl (z_i32 rx122) (fun c125 => ?_) (fun c125 => ?_)
    · skip
      refine to_iconst (dat dk_X12_tag 21 rfl) ?_
      exact jn41_n10 0 (by decide) (fun _ a2 => by rcases p124_0 with ⟨q, _⟩ | ⟨_, q⟩; omega; exact absurd a2 q)
    · skip
      replace c125 := z_one rx122 c125
      refine to_aload_n (dat dk_X12_tag 13 rfl) rfl (to_iload (dat dk_X12_tag 14 rfl) rfl (to_aload_n (dat dk_X12_tag 15 rfl) rfl (to_getR 62 g_c13_13 (dat dk_X12_tag 16 rfl) (Ih4.atS rfl) (Ih4.atE rfl) (to_iconst (dat dk_X12_tag 17 rfl) (to_iload_n (dat dk_X12_tag 18 rfl) rfl ?_)))))
      refine to_cI ca_c13_478 (dat dk_X12_tag 19 rfl) (ct_X12_tagAt_vx l h4 Ih4 n hn x3 rx3 (show 0 ≤ n ∧ n ≤ 199 by omega) (show 0 ≤ x3 ∧ x3 ≤ 1200 by omega)) rfl ⟨_, _, rfl, (Ih4.atS rfl)⟩ rfl (fun x126 h127 rx126 p128 => ?_)
      obtain ⟨rfl, p128_0, p128_1, p128_2⟩ := p128
      refine to_goto (dat dk_X12_tag 20 rfl) rfl ?_
      exact jn41_n10 x126 rx126 (fun _ _ => ⟨by have z := p128_2; unfold TAx EqG tcn tb ts at z ⊢; rw [zr62, zr66, zr67, zr68] at z; exact z, by omega, by omega⟩)
