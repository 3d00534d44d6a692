/-! Contracts, by program. -/
abbrev Q_X12_small_vb (h : Hp) (b : Int) : Option V → Hp → Nat → Nat → Prop := RI (fun x H => h = H ∧ (((65 ≤ b ∧ b ≤ 90) ∧ x = b + 32) ∨ (¬ (65 ≤ b ∧ b ≤ 90) ∧ x = b)))
set_option maxRecDepth 100000 in
theorem ct_X12_small_vb (l : Launch) (h : Hp) (hI : Inv h) (b : Int) (hb : I32 b) : Ct l D_X12_small 0 0 [.inl b] h (Q_X12_small_vb h b) := by
  refine ct_of pn_X12_small (Nat.le_of_ble_eq_true rfl) ?_
  show To l E_X12_small (0, [(0, .inl b)], [], h, 0, 0) _
  refine to_iload_n (dat dk_X12_small 0 rfl) rfl (to_bipush (dat dk_X12_small 1 rfl) (by decide) ?_)
  refine to_ilt 19 (dat dk_X12_small 2 rfl) rfl hb (by decide) (fun c1 => ?_) (fun c1 => ?_)
  · skip
    refine to_iload_n (dat dk_X12_small 10 rfl) rfl ?_
    exact to_iret rfl (dat dk_X12_small 11 rfl) (ri_mk hb ⟨rfl, (show ((65 ≤ b ∧ b ≤ 90) ∧ b = b + 32) ∨ (¬ (65 ≤ b ∧ b ≤ 90) ∧ b = b) by omega)⟩)
  · skip
    refine to_iload_n (dat dk_X12_small 3 rfl) rfl (to_bipush (dat dk_X12_small 4 rfl) (by decide) ?_)
    refine to_igt 19 (dat dk_X12_small 5 rfl) rfl hb (by decide) (fun c2 => ?_) (fun c2 => ?_)
    · skip
      refine to_iload_n (dat dk_X12_small 10 rfl) rfl ?_
      exact to_iret rfl (dat dk_X12_small 11 rfl) (ri_mk hb ⟨rfl, (show ((65 ≤ b ∧ b ≤ 90) ∧ b = b + 32) ∨ (¬ (65 ≤ b ∧ b ≤ 90) ∧ b = b) by omega)⟩)
    · skip
      refine to_iload_n (dat dk_X12_small 6 rfl) rfl (to_bipush (dat dk_X12_small 7 rfl) (by decide) (to_iadd (dat dk_X12_small 8 rfl) (to_goto (dat dk_X12_small 9 rfl) rfl ?_)))
      exact to_iret rfl (dat dk_X12_small 11 rfl) (ri_mk (by omega) ⟨rfl, (show ((65 ≤ b ∧ b ≤ 90) ∧ (b + 32) = b + 32) ∨ (¬ (65 ≤ b ∧ b ≤ 90) ∧ (b + 32) = b) by omega)⟩)
abbrev Q_X12_isLetter_vb (h : Hp) (b : Int) : Option V → Hp → Nat → Nat → Prop := RI (fun x H => h = H ∧ (x = 0 ∨ x = 1) ∧ ((x = 1 ∧ ((65 ≤ b ∧ b ≤ 90) ∨ (97 ≤ b ∧ b ≤ 122))) ∨ (x = 0 ∧ ¬ ((65 ≤ b ∧ b ≤ 90) ∨ (97 ≤ b ∧ b ≤ 122)))))
set_option maxRecDepth 100000 in
theorem ct_X12_isLetter_vb (l : Launch) (h : Hp) (hI : Inv h) (b : Int) (hb : I32 b) : Ct l D_X12_isLetter 1 20 [.inl b] h (Q_X12_isLetter_vb h b) := by
  refine ct_of pn_X12_isLetter (Nat.le_of_ble_eq_true rfl) ?_
  show To l E_X12_isLetter (0, [(0, .inl b)], [], h, 0, 0) _
  refine to_iload_n (dat dk_X12_isLetter 0 rfl) rfl ?_
  refine to_cI ca_c13_157 (dat dk_X12_isLetter 1 rfl) (ct_X12_small_vb l h hI b hb) rfl trivial rfl (fun x1 h2 rx1 p3 => ?_)
  obtain ⟨rfl, p3_0⟩ := p3
  refine to_bipush (dat dk_X12_isLetter 2 rfl) (by decide) ?_
  refine to_ilt 22 (dat dk_X12_isLetter 3 rfl) rfl rx1 (by decide) (fun c4 => ?_) (fun c4 => ?_)
  · skip
    refine to_iconst (dat dk_X12_isLetter 10 rfl) ?_
    exact to_zret rfl (dat dk_X12_isLetter 11 rfl) (by decide) (ri_mk (by decide) ⟨rfl, (by decide), (show ((0 : Int) = 1 ∧ ((65 ≤ b ∧ b ≤ 90) ∨ (97 ≤ b ∧ b ≤ 122))) ∨ ((0 : Int) = 0 ∧ ¬ ((65 ≤ b ∧ b ≤ 90) ∨ (97 ≤ b ∧ b ≤ 122))) by omega)⟩)
  · skip
    refine to_iload_n (dat dk_X12_isLetter 4 rfl) rfl ?_
    refine to_cI ca_c13_157 (dat dk_X12_isLetter 5 rfl) (ct_X12_small_vb l h hI b hb) rfl trivial rfl (fun x5 h6 rx5 p7 => ?_)
    obtain ⟨rfl, p7_0⟩ := p7
    refine to_bipush (dat dk_X12_isLetter 6 rfl) (by decide) ?_
    refine to_igt 22 (dat dk_X12_isLetter 7 rfl) rfl rx5 (by decide) (fun c8 => ?_) (fun c8 => ?_)
    · skip
      refine to_iconst (dat dk_X12_isLetter 10 rfl) ?_
      exact to_zret rfl (dat dk_X12_isLetter 11 rfl) (by decide) (ri_mk (by decide) ⟨rfl, (by decide), (show ((0 : Int) = 1 ∧ ((65 ≤ b ∧ b ≤ 90) ∨ (97 ≤ b ∧ b ≤ 122))) ∨ ((0 : Int) = 0 ∧ ¬ ((65 ≤ b ∧ b ≤ 90) ∨ (97 ≤ b ∧ b ≤ 122))) by omega)⟩)
    · skip
      refine to_iconst (dat dk_X12_isLetter 8 rfl) (to_goto (dat dk_X12_isLetter 9 rfl) rfl ?_)
      exact to_zret rfl (dat dk_X12_isLetter 11 rfl) (by decide) (ri_mk (by decide) ⟨rfl, (by decide), (show ((1 : Int) = 1 ∧ ((65 ≤ b ∧ b ≤ 90) ∨ (97 ≤ b ∧ b ≤ 122))) ∨ ((1 : Int) = 0 ∧ ¬ ((65 ≤ b ∧ b ≤ 90) ∨ (97 ≤ b ∧ b ≤ 122))) by omega)⟩)
abbrev Q_X12_isDigit_vb (h : Hp) (b : Int) : Option V → Hp → Nat → Nat → Prop := RI (fun x H => h = H ∧ (x = 0 ∨ x = 1) ∧ ((x = 1 ∧ (48 ≤ b ∧ b ≤ 57)) ∨ (x = 0 ∧ ¬ (48 ≤ b ∧ b ≤ 57))))
set_option maxRecDepth 100000 in
theorem ct_X12_isDigit_vb (l : Launch) (h : Hp) (hI : Inv h) (b : Int) (hb : I32 b) : Ct l D_X12_isDigit 0 0 [.inl b] h (Q_X12_isDigit_vb h b) := by
  refine ct_of pn_X12_isDigit (Nat.le_of_ble_eq_true rfl) ?_
  show To l E_X12_isDigit (0, [(0, .inl b)], [], h, 0, 0) _
  refine to_iload_n (dat dk_X12_isDigit 0 rfl) rfl (to_bipush (dat dk_X12_isDigit 1 rfl) (by decide) ?_)
  refine to_ilt 16 (dat dk_X12_isDigit 2 rfl) rfl hb (by decide) (fun c1 => ?_) (fun c1 => ?_)
  · skip
    refine to_iconst (dat dk_X12_isDigit 8 rfl) ?_
    exact to_zret rfl (dat dk_X12_isDigit 9 rfl) (by decide) (ri_mk (by decide) ⟨rfl, (by decide), (show ((0 : Int) = 1 ∧ (48 ≤ b ∧ b ≤ 57)) ∨ ((0 : Int) = 0 ∧ ¬ (48 ≤ b ∧ b ≤ 57)) by omega)⟩)
  · skip
    refine to_iload_n (dat dk_X12_isDigit 3 rfl) rfl (to_bipush (dat dk_X12_isDigit 4 rfl) (by decide) ?_)
    refine to_igt 16 (dat dk_X12_isDigit 5 rfl) rfl hb (by decide) (fun c2 => ?_) (fun c2 => ?_)
    · skip
      refine to_iconst (dat dk_X12_isDigit 8 rfl) ?_
      exact to_zret rfl (dat dk_X12_isDigit 9 rfl) (by decide) (ri_mk (by decide) ⟨rfl, (by decide), (show ((0 : Int) = 1 ∧ (48 ≤ b ∧ b ≤ 57)) ∨ ((0 : Int) = 0 ∧ ¬ (48 ≤ b ∧ b ≤ 57)) by omega)⟩)
    · skip
      refine to_iconst (dat dk_X12_isDigit 6 rfl) (to_goto (dat dk_X12_isDigit 7 rfl) rfl ?_)
      exact to_zret rfl (dat dk_X12_isDigit 9 rfl) (by decide) (ri_mk (by decide) ⟨rfl, (by decide), (show ((1 : Int) = 1 ∧ (48 ≤ b ∧ b ≤ 57)) ∨ ((1 : Int) = 0 ∧ ¬ (48 ≤ b ∧ b ≤ 57)) by omega)⟩)
abbrev Q_X12_isWord_vb (h : Hp) (b : Int) : Option V → Hp → Nat → Nat → Prop := RI (fun x H => h = H ∧ (x = 0 ∨ x = 1) ∧ ((x = 1 ∧ (b < 0 ∨ 127 < b ∨ ((65 ≤ b ∧ b ≤ 90) ∨ (97 ≤ b ∧ b ≤ 122)) ∨ (48 ≤ b ∧ b ≤ 57))) ∨ (x = 0 ∧ ¬ (b < 0 ∨ 127 < b ∨ ((65 ≤ b ∧ b ≤ 90) ∨ (97 ≤ b ∧ b ≤ 122)) ∨ (48 ≤ b ∧ b ≤ 57)))))
set_option maxRecDepth 100000 in
theorem ct_X12_isWord_vb (l : Launch) (h : Hp) (hI : Inv h) (b : Int) (hb : I32 b) : Ct l D_X12_isWord 2 40 [.inl b] h (Q_X12_isWord_vb h b) := by
  refine ct_of pn_X12_isWord (Nat.le_of_ble_eq_true rfl) ?_
  show To l E_X12_isWord (0, [(0, .inl b)], [], h, 0, 0) _
  refine to_iload_n (dat dk_X12_isWord 0 rfl) rfl ?_
  refine to_iflt 24 (dat dk_X12_isWord 1 rfl) rfl hb (fun c1 => ?_) (fun c1 => ?_)
  · skip
    refine to_iconst (dat dk_X12_isWord 11 rfl) (to_goto (dat dk_X12_isWord 12 rfl) rfl ?_)
    exact to_zret rfl (dat dk_X12_isWord 14 rfl) (by decide) (ri_mk (by decide) ⟨rfl, (by decide), (show ((1 : Int) = 1 ∧ (b < 0 ∨ 127 < b ∨ ((65 ≤ b ∧ b ≤ 90) ∨ (97 ≤ b ∧ b ≤ 122)) ∨ (48 ≤ b ∧ b ≤ 57))) ∨ ((1 : Int) = 0 ∧ ¬ (b < 0 ∨ 127 < b ∨ ((65 ≤ b ∧ b ≤ 90) ∨ (97 ≤ b ∧ b ≤ 122)) ∨ (48 ≤ b ∧ b ≤ 57))) by omega)⟩)
  · skip
    refine to_iload_n (dat dk_X12_isWord 2 rfl) rfl (to_bipush (dat dk_X12_isWord 3 rfl) (by decide) ?_)
    refine to_igt 24 (dat dk_X12_isWord 4 rfl) rfl hb (by decide) (fun c2 => ?_) (fun c2 => ?_)
    · skip
      refine to_iconst (dat dk_X12_isWord 11 rfl) (to_goto (dat dk_X12_isWord 12 rfl) rfl ?_)
      exact to_zret rfl (dat dk_X12_isWord 14 rfl) (by decide) (ri_mk (by decide) ⟨rfl, (by decide), (show ((1 : Int) = 1 ∧ (b < 0 ∨ 127 < b ∨ ((65 ≤ b ∧ b ≤ 90) ∨ (97 ≤ b ∧ b ≤ 122)) ∨ (48 ≤ b ∧ b ≤ 57))) ∨ ((1 : Int) = 0 ∧ ¬ (b < 0 ∨ 127 < b ∨ ((65 ≤ b ∧ b ≤ 90) ∨ (97 ≤ b ∧ b ≤ 122)) ∨ (48 ≤ b ∧ b ≤ 57))) by omega)⟩)
    · skip
      refine to_iload_n (dat dk_X12_isWord 5 rfl) rfl ?_
      refine to_cI ca_c13_168 (dat dk_X12_isWord 6 rfl) (ct_X12_isLetter_vb l h hI b hb) rfl trivial rfl (fun x3 h4 rx3 p5 => ?_)
      obtain ⟨rfl, zx3, p5_0⟩ := p5
      refine to_ifne 24 (dat dk_X12_isWord 7 rfl) rfl rx3 (fun c6 => ?_) (fun c6 => ?_)
      · skip
        refine to_iconst (dat dk_X12_isWord 11 rfl) (to_goto (dat dk_X12_isWord 12 rfl) rfl ?_)
        exact to_zret rfl (dat dk_X12_isWord 14 rfl) (by decide) (ri_mk (by decide) ⟨rfl, (by decide), (show ((1 : Int) = 1 ∧ (b < 0 ∨ 127 < b ∨ ((65 ≤ b ∧ b ≤ 90) ∨ (97 ≤ b ∧ b ≤ 122)) ∨ (48 ≤ b ∧ b ≤ 57))) ∨ ((1 : Int) = 0 ∧ ¬ (b < 0 ∨ 127 < b ∨ ((65 ≤ b ∧ b ≤ 90) ∨ (97 ≤ b ∧ b ≤ 122)) ∨ (48 ≤ b ∧ b ≤ 57))) by omega)⟩)
      · skip
        refine to_iload_n (dat dk_X12_isWord 8 rfl) rfl ?_
        refine to_cI ca_c13_161 (dat dk_X12_isWord 9 rfl) (ct_X12_isDigit_vb l h hI b hb) rfl trivial rfl (fun x7 h8 rx7 p9 => ?_)
        obtain ⟨rfl, zx7, p9_0⟩ := p9
        refine to_ifeq 28 (dat dk_X12_isWord 10 rfl) rfl rx7 (fun c10 => ?_) (fun c10 => ?_)
        · skip
          refine to_iconst (dat dk_X12_isWord 13 rfl) ?_
          exact to_zret rfl (dat dk_X12_isWord 14 rfl) (by decide) (ri_mk (by decide) ⟨rfl, (by decide), (show ((0 : Int) = 1 ∧ (b < 0 ∨ 127 < b ∨ ((65 ≤ b ∧ b ≤ 90) ∨ (97 ≤ b ∧ b ≤ 122)) ∨ (48 ≤ b ∧ b ≤ 57))) ∨ ((0 : Int) = 0 ∧ ¬ (b < 0 ∨ 127 < b ∨ ((65 ≤ b ∧ b ≤ 90) ∨ (97 ≤ b ∧ b ≤ 122)) ∨ (48 ≤ b ∧ b ≤ 57))) by omega)⟩)
        · skip
          refine to_iconst (dat dk_X12_isWord 11 rfl) (to_goto (dat dk_X12_isWord 12 rfl) rfl ?_)
          exact to_zret rfl (dat dk_X12_isWord 14 rfl) (by decide) (ri_mk (by decide) ⟨rfl, (by decide), (show ((1 : Int) = 1 ∧ (b < 0 ∨ 127 < b ∨ ((65 ≤ b ∧ b ≤ 90) ∨ (97 ≤ b ∧ b ≤ 122)) ∨ (48 ≤ b ∧ b ≤ 57))) ∨ ((1 : Int) = 0 ∧ ¬ (b < 0 ∨ 127 < b ∨ ((65 ≤ b ∧ b ≤ 90) ∨ (97 ≤ b ∧ b ≤ 122)) ∨ (48 ≤ b ∧ b ≤ 57))) by omega)⟩)
abbrev Q_X12_split_v70b (h : Hp) (a : Nat) (f : Int) (g : Int) (m : Int) (n : Int) : Option V → Hp → Nat → Nat → Prop := RI (fun x H => Inv H ∧ Fr [70, 71] h H ∧ (0 ≤ x ∧ x ≤ m) ∧ (x ≤ g - f))
set_option maxRecDepth 100000 in
theorem ct_X12_split_v70b (l : Launch) (h : Hp) (hI : Inv h) (a : Nat) (na : Nat) (ha : isA a na = true) (f : Int) (hf : I32 f) (g : Int) (hg : I32 g) (m : Int) (hm : I32 m) (n : Int) (hn : I32 n) (g0 : 0 ≤ f ∧ f ≤ g) (g1 : g ≤ (na : Int)) (g2 : 0 ≤ n) (g3 : 0 ≤ m) (g4 : n + m ≤ 2560) : Ct l D_X12_split 3 60 [.inr (.inr a), .inl f, .inl g, .inl m, .inr (.inr 70), .inr (.inr 71), .inl n] h (Q_X12_split_v70b h a f g m n) := by
  refine ct_of pn_X12_split (Nat.le_of_ble_eq_true rfl) ?_
  show To l E_X12_split (0, [(0, .inr (.inr a)), (1, .inl f), (2, .inl g), (3, .inl m), (4, .inr (.inr 70)), (5, .inr (.inr 71)), (6, .inl n)], [], h, 0, 0) _
  have la := isA_le ha
  refine to_iconst (dat dk_X12_split 0 rfl) (to_istore (L' := [(0, .inr (.inr a)), (1, .inl f), (2, .inl g), (3, .inl m), (4, .inr (.inr 70)), (5, .inr (.inr 71)), (6, .inl n), (7, .inl 0)]) (dat dk_X12_split 1 rfl) (by decide) rfl (to_iload_n (dat dk_X12_split 2 rfl) rfl (to_istore (L' := [(0, .inr (.inr a)), (1, .inl f), (2, .inl g), (3, .inl m), (4, .inr (.inr 70)), (5, .inr (.inr 71)), (6, .inl n), (7, .inl 0), (8, .inl f)]) (dat dk_X12_split 3 rfl) (by decide) rfl ?_)))
  have lp6_n7 : ∀ (n7 : Nat) (y1 : Int) (y2 : Int) (h3 : Hp), (I32 y1) → (I32 y2) → (Inv h3) → (Fr [70, 71] h h3) → (0 ≤ y1 ∧ y1 ≤ m) → (f ≤ y2 ∧ y2 ≤ g) → (y1 ≤ y2 - f) → ((g - y2) + (m - y1) ≤ (n7 : Int)) → To l E_X12_split (6, [(0, .inr (.inr a)), (1, .inl f), (2, .inl g), (3, .inl m), (4, .inr (.inr 70)), (5, .inr (.inr 71)), (6, .inl n), (7, .inl y1), (8, .inl y2)], [], h3, 0, 0) (Q_X12_split_v70b h a f g m n) := by
    intro n7
    induction n7 using Nat.strongRecOn with
    | _ n7 ihn7 =>
    intro y1 y2 h3 ry1 ry2 Ih3 fh3 c4 c5 c6 c8
    refine to_iload (dat dk_X12_split 4 rfl) rfl (to_iload_n (dat dk_X12_split 5 rfl) rfl ?_)
    refine to_ige 121 (dat dk_X12_split 6 rfl) rfl ry2 hg (fun c9 => ?_) (fun c9 => ?_)
    · skip
      refine to_iload (dat dk_X12_split 63 rfl) rfl ?_
      exact to_iret rfl (dat dk_X12_split 64 rfl) (ri_mk ry1 ⟨Ih3, fh3, (show 0 ≤ y1 ∧ y1 ≤ m by omega), (show y1 ≤ g - f by omega)⟩)
    · skip
      refine to_iload (dat dk_X12_split 7 rfl) rfl (to_iload_n (dat dk_X12_split 8 rfl) rfl ?_)
      refine to_ige 121 (dat dk_X12_split 9 rfl) rfl ry1 hm (fun c10 => ?_) (fun c10 => ?_)
      · skip
        refine to_iload (dat dk_X12_split 63 rfl) rfl ?_
        exact to_iret rfl (dat dk_X12_split 64 rfl) (ri_mk ry1 ⟨Ih3, fh3, (show 0 ≤ y1 ∧ y1 ≤ m by omega), (show y1 ≤ g - f by omega)⟩)
      · skip
        refine to_aload_np (dat dk_X12_split 10 rfl) (Ih3.posN (Ih3.aT ha)) rfl (to_iload (dat dk_X12_split 11 rfl) rfl ?_)
        obtain ⟨x11, ex11⟩ : ∃ y : Int, h3.2.2 a (Int.toNat y2) = y := ⟨_, rfl⟩
        have rx11 := Ih3.aC (j := Int.toNat y2) ha
        rw [ex11] at rx11
        refine to_baldv (q := 1) ex11 (dat dk_X12_split 12 rfl) (by decide) (Ih3.aT ha) rfl (isA_n ha) (by omega) ?_
        refine to_cI ca_c13_290 (dat dk_X12_split 13 rfl) (ct_X12_isWord_vb l h3 Ih3 x11 (by omega)) rfl trivial rfl (fun x12 h13 rx12 p14 => ?_)
        obtain ⟨rfl, zx12, p14_0⟩ := p14
        refine to_ifne 34 (dat dk_X12_split 14 rfl) rfl rx12 (fun c15 => ?_) (fun c15 => ?_)
        · skip
          refine to_iconst (dat dk_X12_split 17 rfl) (to_istore (L' := [(0, .inr (.inr a)), (1, .inl f), (2, .inl g), (3, .inl m), (4, .inr (.inr 70)), (5, .inr (.inr 71)), (6, .inl n), (7, .inl y1), (8, .inl y2), (9, .inl 0)]) (dat dk_X12_split 18 rfl) (by decide) rfl (to_iload (dat dk_X12_split 19 rfl) rfl (to_iload_n (dat dk_X12_split 20 rfl) rfl ?_)))
          refine to_ige 105 (dat dk_X12_split 21 rfl) rfl ry2 hg (fun c16 => ?_) (fun c16 => ?_)
          · skip
            refine to_aload (dat dk_X12_split 55 rfl) rfl (to_iload (dat dk_X12_split 56 rfl) rfl (to_iload (dat dk_X12_split 57 rfl) rfl (to_iadd (dat dk_X12_split 58 rfl) (to_iload (dat dk_X12_split 59 rfl) rfl (to_iastw (dat dk_X12_split 60 rfl) (Ih3.atS rfl) rfl (by decide) (by omega) ?_)))))
            intro h19 wh19
            have I17 : Inv h19 := by rw [wh19]; exact Ih3.put (a := 71) (j := (Int.toNat (n + y1))) (x := 0) (0) (16) rfl rfl (show (0 : Int) ≤ 0 ∧ 0 ≤ 16 by decide)
            have f18 : Fr [70, 71] h h19 := by rw [wh19]; exact Fr.putF (a := 71) (j := (Int.toNat (n + y1))) (x := 0) fh3 rfl
            refine to_iinc (L' := [(0, .inr (.inr a)), (1, .inl f), (2, .inl g), (3, .inl m), (4, .inr (.inr 70)), (5, .inr (.inr 71)), (6, .inl n), (7, .inl (y1 + 1)), (8, .inl y2), (9, .inl 0)]) (dat dk_X12_split 61 rfl) rfl (by decide) rfl (to_goto (dat dk_X12_split 62 rfl) rfl ?_)
            refine to_pick [0, 1, 2, 3, 4, 5, 6, 7, 8] rfl ?_
            exact ihn7 (n7 - 1) (by omega) (y1 + 1) y2 h19 (by omega) ry2 I17 f18 (show 0 ≤ (y1 + 1) ∧ (y1 + 1) ≤ m by omega) (show f ≤ y2 ∧ y2 ≤ g by omega) (show (y1 + 1) ≤ y2 - f by omega) (show (g - y2) + (m - (y1 + 1)) ≤ ((n7 - 1 : Nat) : Int) by omega)
          · skip
            refine to_aload_np (dat dk_X12_split 22 rfl) (Ih3.posN (Ih3.aT ha)) rfl (to_iload (dat dk_X12_split 23 rfl) rfl ?_)
            obtain ⟨x20, ex20⟩ : ∃ y : Int, h3.2.2 a (Int.toNat y2) = y := ⟨_, rfl⟩
            have rx20 := Ih3.aC (j := Int.toNat y2) ha
            rw [ex20] at rx20
            refine to_baldv (q := 1) ex20 (dat dk_X12_split 24 rfl) (by decide) (Ih3.aT ha) rfl (isA_n ha) (by omega) ?_
            refine to_cI ca_c13_290 (dat dk_X12_split 25 rfl) (ct_X12_isWord_vb l h3 Ih3 x20 (by omega)) rfl trivial rfl (fun x21 h22 rx21 p23 => ?_)
            obtain ⟨rfl, zx21, p23_0⟩ := p23
            refine to_ifeq 105 (dat dk_X12_split 26 rfl) rfl rx21 (fun c24 => ?_) (fun c24 => ?_)
            · skip
              refine to_aload (dat dk_X12_split 55 rfl) rfl (to_iload (dat dk_X12_split 56 rfl) rfl (to_iload (dat dk_X12_split 57 rfl) rfl (to_iadd (dat dk_X12_split 58 rfl) (to_iload (dat dk_X12_split 59 rfl) rfl (to_iastw (dat dk_X12_split 60 rfl) (Ih3.atS rfl) rfl (by decide) (by omega) ?_)))))
              intro h27 wh27
              have I25 : Inv h27 := by rw [wh27]; exact Ih3.put (a := 71) (j := (Int.toNat (n + y1))) (x := 0) (0) (16) rfl rfl (show (0 : Int) ≤ 0 ∧ 0 ≤ 16 by decide)
              have f26 : Fr [70, 71] h h27 := by rw [wh27]; exact Fr.putF (a := 71) (j := (Int.toNat (n + y1))) (x := 0) fh3 rfl
              refine to_iinc (L' := [(0, .inr (.inr a)), (1, .inl f), (2, .inl g), (3, .inl m), (4, .inr (.inr 70)), (5, .inr (.inr 71)), (6, .inl n), (7, .inl (y1 + 1)), (8, .inl y2), (9, .inl 0)]) (dat dk_X12_split 61 rfl) rfl (by decide) rfl (to_goto (dat dk_X12_split 62 rfl) rfl ?_)
              refine to_pick [0, 1, 2, 3, 4, 5, 6, 7, 8] rfl ?_
              exact ihn7 (n7 - 1) (by omega) (y1 + 1) y2 h27 (by omega) ry2 I25 f26 (show 0 ≤ (y1 + 1) ∧ (y1 + 1) ≤ m by omega) (show f ≤ y2 ∧ y2 ≤ g by omega) (show (y1 + 1) ≤ y2 - f by omega) (show (g - y2) + (m - (y1 + 1)) ≤ ((n7 - 1 : Nat) : Int) by omega)
            · skip
              refine to_iload (dat dk_X12_split 27 rfl) rfl (to_bipush (dat dk_X12_split 28 rfl) (by decide) ?_)
              refine to_ige 82 (dat dk_X12_split 29 rfl) rfl (by decide) (by decide) (fun c28 => absurd c28 (by decide)) (fun c28 => ?_)
              refine to_aload (dat dk_X12_split 30 rfl) rfl (to_bipush (dat dk_X12_split 31 rfl) (by decide) (to_iload (dat dk_X12_split 32 rfl) rfl (to_iload (dat dk_X12_split 33 rfl) rfl (to_iadd (dat dk_X12_split 34 rfl) (to_imul (dat dk_X12_split 35 rfl) (to_iload (dat dk_X12_split 36 rfl) rfl (to_iadd (dat dk_X12_split 37 rfl) (to_aload_np (dat dk_X12_split 38 rfl) (Ih3.posN (Ih3.aT ha)) rfl (to_iload (dat dk_X12_split 39 rfl) rfl ?_)))))))))
              obtain ⟨x29, ex29⟩ : ∃ y : Int, h3.2.2 a (Int.toNat y2) = y := ⟨_, rfl⟩
              have rx29 := Ih3.aC (j := Int.toNat y2) ha
              rw [ex29] at rx29
              refine to_baldv (q := 1) ex29 (dat dk_X12_split 40 rfl) (by decide) (Ih3.aT ha) rfl (isA_n ha) (by omega) ?_
              refine to_cI ca_c13_157 (dat dk_X12_split 41 rfl) (ct_X12_small_vb l h3 Ih3 x29 (by omega)) rfl trivial rfl (fun x30 h31 rx30 p32 => ?_)
              obtain ⟨rfl, p32_0⟩ := p32
              refine to_i2b (dat dk_X12_split 42 rfl) (to_bastw (dat dk_X12_split 43 rfl) (Ih3.atS rfl) rfl (by decide) (by omega) ?_)
              intro h35 wh35
              have I33 : Inv h35 := by rw [wh35]; exact Ih3.put (a := 70) (j := (Int.toNat ((16 * (n + y1)) + 0))) (x := (b8 (b8 x30))) (-128) (127) rfl rfl (show (-128 : Int) ≤ (b8 (b8 x30)) ∧ (b8 (b8 x30)) ≤ 127 by have := b8_in (b8 x30); omega)
              have f34 : Fr [70, 71] h h35 := by rw [wh35]; exact Fr.putF (a := 70) (j := (Int.toNat ((16 * (n + y1)) + 0))) (x := (b8 (b8 x30))) fh3 rfl
              refine to_iload (dat dk_X12_split 44 rfl) rfl ?_
              have jn96_n38 : ∀ (y36 : Int), (I32 y36) → (y36 = 0 ∨ (y36 = 1 ∧ (0 : Int) < 16)) → To l E_X12_split (96, [(0, .inr (.inr a)), (1, .inl f), (2, .inl g), (3, .inl m), (4, .inr (.inr 70)), (5, .inr (.inr 71)), (6, .inl n), (7, .inl y1), (8, .inl y2), (9, .inl 0)], [.inl y36, .inl 0], h35, 0, 0) (Q_X12_split_v70b h a f g m n) := by
                intro y36 ry36 c37
                refine to_iadd (dat dk_X12_split 51 rfl) (to_istore (L' := [(0, .inr (.inr a)), (1, .inl f), (2, .inl g), (3, .inl m), (4, .inr (.inr 70)), (5, .inr (.inr 71)), (6, .inl n), (7, .inl y1), (8, .inl y2), (9, .inl (0 + y36))]) (dat dk_X12_split 52 rfl) (by decide) rfl (to_iinc (L' := [(0, .inr (.inr a)), (1, .inl f), (2, .inl g), (3, .inl m), (4, .inr (.inr 70)), (5, .inr (.inr 71)), (6, .inl n), (7, .inl y1), (8, .inl (y2 + 1)), (9, .inl (0 + y36))]) (dat dk_X12_split 53 rfl) rfl (by decide) rfl (to_goto (dat dk_X12_split 54 rfl) rfl ?_)))
                have lp37_n45 : ∀ (n45 : Nat) (y39 : Int) (y40 : Int) (h41 : Hp), (I32 y39) → (I32 y40) → (Inv h41) → (Fr [70, 71] h h41) → (0 ≤ y40 ∧ y40 ≤ 16) → ((y2 + 1) ≤ y39 ∧ y39 ≤ g) → (y1 + 1 ≤ y39 - f) → (g - y39 ≤ (n45 : Int)) → To l E_X12_split (37, [(0, .inr (.inr a)), (1, .inl f), (2, .inl g), (3, .inl m), (4, .inr (.inr 70)), (5, .inr (.inr 71)), (6, .inl n), (7, .inl y1), (8, .inl y39), (9, .inl y40)], [], h41, 0, 0) (Q_X12_split_v70b h a f g m n) := by
                  intro n45
                  induction n45 using Nat.strongRecOn with
                  | _ n45 ihn45 =>
                  intro y39 y40 h41 ry39 ry40 Ih41 fh41 c42 c43 c44 c46
                  refine to_iload (dat dk_X12_split 19 rfl) rfl (to_iload_n (dat dk_X12_split 20 rfl) rfl ?_)
                  refine to_ige 105 (dat dk_X12_split 21 rfl) rfl ry39 hg (fun c47 => ?_) (fun c47 => ?_)
                  · skip
                    refine to_aload (dat dk_X12_split 55 rfl) rfl (to_iload (dat dk_X12_split 56 rfl) rfl (to_iload (dat dk_X12_split 57 rfl) rfl (to_iadd (dat dk_X12_split 58 rfl) (to_iload (dat dk_X12_split 59 rfl) rfl (to_iastw (dat dk_X12_split 60 rfl) (Ih41.atS rfl) rfl (by decide) (by omega) ?_)))))
                    intro h50 wh50
                    have I48 : Inv h50 := by rw [wh50]; exact Ih41.put (a := 71) (j := (Int.toNat (n + y1))) (x := y40) (0) (16) rfl rfl (show (0 : Int) ≤ y40 ∧ y40 ≤ 16 by omega)
                    have f49 : Fr [70, 71] h h50 := by rw [wh50]; exact Fr.putF (a := 71) (j := (Int.toNat (n + y1))) (x := y40) fh41 rfl
                    refine to_iinc (L' := [(0, .inr (.inr a)), (1, .inl f), (2, .inl g), (3, .inl m), (4, .inr (.inr 70)), (5, .inr (.inr 71)), (6, .inl n), (7, .inl (y1 + 1)), (8, .inl y39), (9, .inl y40)]) (dat dk_X12_split 61 rfl) rfl (by decide) rfl (to_goto (dat dk_X12_split 62 rfl) rfl ?_)
                    refine to_pick [0, 1, 2, 3, 4, 5, 6, 7, 8] rfl ?_
                    exact ihn7 (n7 - 1) (by omega) (y1 + 1) y39 h50 (by omega) ry39 I48 f49 (show 0 ≤ (y1 + 1) ∧ (y1 + 1) ≤ m by omega) (show f ≤ y39 ∧ y39 ≤ g by omega) (show (y1 + 1) ≤ y39 - f by omega) (show (g - y39) + (m - (y1 + 1)) ≤ ((n7 - 1 : Nat) : Int) by omega)
                  · skip
                    refine to_aload_np (dat dk_X12_split 22 rfl) (Ih41.posN (Ih41.aT ha)) rfl (to_iload (dat dk_X12_split 23 rfl) rfl ?_)
                    obtain ⟨x51, ex51⟩ : ∃ y : Int, h41.2.2 a (Int.toNat y39) = y := ⟨_, rfl⟩
                    have rx51 := Ih41.aC (j := Int.toNat y39) ha
                    rw [ex51] at rx51
                    refine to_baldv (q := 1) ex51 (dat dk_X12_split 24 rfl) (by decide) (Ih41.aT ha) rfl (isA_n ha) (by omega) ?_
                    refine to_cI ca_c13_290 (dat dk_X12_split 25 rfl) (ct_X12_isWord_vb l h41 Ih41 x51 (by omega)) rfl trivial rfl (fun x52 h53 rx52 p54 => ?_)
                    obtain ⟨rfl, zx52, p54_0⟩ := p54
                    refine to_ifeq 105 (dat dk_X12_split 26 rfl) rfl rx52 (fun c55 => ?_) (fun c55 => ?_)
                    · skip
                      refine to_aload (dat dk_X12_split 55 rfl) rfl (to_iload (dat dk_X12_split 56 rfl) rfl (to_iload (dat dk_X12_split 57 rfl) rfl (to_iadd (dat dk_X12_split 58 rfl) (to_iload (dat dk_X12_split 59 rfl) rfl (to_iastw (dat dk_X12_split 60 rfl) (Ih41.atS rfl) rfl (by decide) (by omega) ?_)))))
                      intro h58 wh58
                      have I56 : Inv h58 := by rw [wh58]; exact Ih41.put (a := 71) (j := (Int.toNat (n + y1))) (x := y40) (0) (16) rfl rfl (show (0 : Int) ≤ y40 ∧ y40 ≤ 16 by omega)
                      have f57 : Fr [70, 71] h h58 := by rw [wh58]; exact Fr.putF (a := 71) (j := (Int.toNat (n + y1))) (x := y40) fh41 rfl
                      refine to_iinc (L' := [(0, .inr (.inr a)), (1, .inl f), (2, .inl g), (3, .inl m), (4, .inr (.inr 70)), (5, .inr (.inr 71)), (6, .inl n), (7, .inl (y1 + 1)), (8, .inl y39), (9, .inl y40)]) (dat dk_X12_split 61 rfl) rfl (by decide) rfl (to_goto (dat dk_X12_split 62 rfl) rfl ?_)
                      refine to_pick [0, 1, 2, 3, 4, 5, 6, 7, 8] rfl ?_
                      exact ihn7 (n7 - 1) (by omega) (y1 + 1) y39 h58 (by omega) ry39 I56 f57 (show 0 ≤ (y1 + 1) ∧ (y1 + 1) ≤ m by omega) (show f ≤ y39 ∧ y39 ≤ g by omega) (show (y1 + 1) ≤ y39 - f by omega) (show (g - y39) + (m - (y1 + 1)) ≤ ((n7 - 1 : Nat) : Int) by omega)
                    · skip
                      refine to_iload (dat dk_X12_split 27 rfl) rfl (to_bipush (dat dk_X12_split 28 rfl) (by decide) ?_)
                      refine to_ige 82 (dat dk_X12_split 29 rfl) rfl ry40 (by decide) (fun c59 => ?_) (fun c59 => ?_)
                      · skip
                        refine to_iload (dat dk_X12_split 44 rfl) rfl ?_
                        have jn96_n62 : ∀ (y60 : Int), (I32 y60) → (y60 = 0 ∨ (y60 = 1 ∧ y40 < 16)) → To l E_X12_split (96, [(0, .inr (.inr a)), (1, .inl f), (2, .inl g), (3, .inl m), (4, .inr (.inr 70)), (5, .inr (.inr 71)), (6, .inl n), (7, .inl y1), (8, .inl y39), (9, .inl y40)], [.inl y60, .inl y40], h41, 0, 0) (Q_X12_split_v70b h a f g m n) := by
                          intro y60 ry60 c61
                          refine to_iadd (dat dk_X12_split 51 rfl) (to_istore (L' := [(0, .inr (.inr a)), (1, .inl f), (2, .inl g), (3, .inl m), (4, .inr (.inr 70)), (5, .inr (.inr 71)), (6, .inl n), (7, .inl y1), (8, .inl y39), (9, .inl (y40 + y60))]) (dat dk_X12_split 52 rfl) (by decide) rfl (to_iinc (L' := [(0, .inr (.inr a)), (1, .inl f), (2, .inl g), (3, .inl m), (4, .inr (.inr 70)), (5, .inr (.inr 71)), (6, .inl n), (7, .inl y1), (8, .inl (y39 + 1)), (9, .inl (y40 + y60))]) (dat dk_X12_split 53 rfl) rfl (by decide) rfl (to_goto (dat dk_X12_split 54 rfl) rfl ?_)))
                          exact ihn45 (n45 - 1) (by omega) (y39 + 1) (y40 + y60) h41 (by omega) (by omega) Ih41 fh41 (show 0 ≤ (y40 + y60) ∧ (y40 + y60) ≤ 16 by omega) (show (y2 + 1) ≤ (y39 + 1) ∧ (y39 + 1) ≤ g by omega) (show y1 + 1 ≤ (y39 + 1) - f by omega) (show g - (y39 + 1) ≤ ((n45 - 1 : Nat) : Int) by omega)
                        refine to_iload (dat dk_X12_split 45 rfl) rfl (to_bipush (dat dk_X12_split 46 rfl) (by decide) ?_)
                        refine to_ige 95 (dat dk_X12_split 47 rfl) rfl ry40 (by decide) (fun c63 => ?_) (fun c63 => ?_)
                        · skip
                          refine to_iconst (dat dk_X12_split 50 rfl) ?_
                          exact jn96_n62 0 (by decide) (show (0 : Int) = 0 ∨ ((0 : Int) = 1 ∧ y40 < 16) by omega)
                        · skip
                          refine to_iconst (dat dk_X12_split 48 rfl) (to_goto (dat dk_X12_split 49 rfl) rfl ?_)
                          exact jn96_n62 1 (by decide) (show (1 : Int) = 0 ∨ ((1 : Int) = 1 ∧ y40 < 16) by omega)
                      · skip
                        refine to_aload (dat dk_X12_split 30 rfl) rfl (to_bipush (dat dk_X12_split 31 rfl) (by decide) (to_iload (dat dk_X12_split 32 rfl) rfl (to_iload (dat dk_X12_split 33 rfl) rfl (to_iadd (dat dk_X12_split 34 rfl) (to_imul (dat dk_X12_split 35 rfl) (to_iload (dat dk_X12_split 36 rfl) rfl (to_iadd (dat dk_X12_split 37 rfl) (to_aload_np (dat dk_X12_split 38 rfl) (Ih41.posN (Ih41.aT ha)) rfl (to_iload (dat dk_X12_split 39 rfl) rfl ?_)))))))))
                        obtain ⟨x64, ex64⟩ : ∃ y : Int, h41.2.2 a (Int.toNat y39) = y := ⟨_, rfl⟩
                        have rx64 := Ih41.aC (j := Int.toNat y39) ha
                        rw [ex64] at rx64
                        refine to_baldv (q := 1) ex64 (dat dk_X12_split 40 rfl) (by decide) (Ih41.aT ha) rfl (isA_n ha) (by omega) ?_
                        refine to_cI ca_c13_157 (dat dk_X12_split 41 rfl) (ct_X12_small_vb l h41 Ih41 x64 (by omega)) rfl trivial rfl (fun x65 h66 rx65 p67 => ?_)
                        obtain ⟨rfl, p67_0⟩ := p67
                        refine to_i2b (dat dk_X12_split 42 rfl) (to_bastw (dat dk_X12_split 43 rfl) (Ih41.atS rfl) rfl (by decide) (by omega) ?_)
                        intro h70 wh70
                        have I68 : Inv h70 := by rw [wh70]; exact Ih41.put (a := 70) (j := (Int.toNat ((16 * (n + y1)) + y40))) (x := (b8 (b8 x65))) (-128) (127) rfl rfl (show (-128 : Int) ≤ (b8 (b8 x65)) ∧ (b8 (b8 x65)) ≤ 127 by have := b8_in (b8 x65); omega)
                        have f69 : Fr [70, 71] h h70 := by rw [wh70]; exact Fr.putF (a := 70) (j := (Int.toNat ((16 * (n + y1)) + y40))) (x := (b8 (b8 x65))) fh41 rfl
                        refine to_iload (dat dk_X12_split 44 rfl) rfl ?_
                        have jn96_n73 : ∀ (y71 : Int), (I32 y71) → (y71 = 0 ∨ (y71 = 1 ∧ y40 < 16)) → To l E_X12_split (96, [(0, .inr (.inr a)), (1, .inl f), (2, .inl g), (3, .inl m), (4, .inr (.inr 70)), (5, .inr (.inr 71)), (6, .inl n), (7, .inl y1), (8, .inl y39), (9, .inl y40)], [.inl y71, .inl y40], h70, 0, 0) (Q_X12_split_v70b h a f g m n) := by
                          intro y71 ry71 c72
                          refine to_iadd (dat dk_X12_split 51 rfl) (to_istore (L' := [(0, .inr (.inr a)), (1, .inl f), (2, .inl g), (3, .inl m), (4, .inr (.inr 70)), (5, .inr (.inr 71)), (6, .inl n), (7, .inl y1), (8, .inl y39), (9, .inl (y40 + y71))]) (dat dk_X12_split 52 rfl) (by decide) rfl (to_iinc (L' := [(0, .inr (.inr a)), (1, .inl f), (2, .inl g), (3, .inl m), (4, .inr (.inr 70)), (5, .inr (.inr 71)), (6, .inl n), (7, .inl y1), (8, .inl (y39 + 1)), (9, .inl (y40 + y71))]) (dat dk_X12_split 53 rfl) rfl (by decide) rfl (to_goto (dat dk_X12_split 54 rfl) rfl ?_)))
                          exact ihn45 (n45 - 1) (by omega) (y39 + 1) (y40 + y71) h70 (by omega) (by omega) I68 f69 (show 0 ≤ (y40 + y71) ∧ (y40 + y71) ≤ 16 by omega) (show (y2 + 1) ≤ (y39 + 1) ∧ (y39 + 1) ≤ g by omega) (show y1 + 1 ≤ (y39 + 1) - f by omega) (show g - (y39 + 1) ≤ ((n45 - 1 : Nat) : Int) by omega)
                        refine to_iload (dat dk_X12_split 45 rfl) rfl (to_bipush (dat dk_X12_split 46 rfl) (by decide) ?_)
                        refine to_ige 95 (dat dk_X12_split 47 rfl) rfl ry40 (by decide) (fun c74 => ?_) (fun c74 => ?_)
                        · skip
                          refine to_iconst (dat dk_X12_split 50 rfl) ?_
                          exact jn96_n73 0 (by decide) (show (0 : Int) = 0 ∨ ((0 : Int) = 1 ∧ y40 < 16) by omega)
                        · skip
                          refine to_iconst (dat dk_X12_split 48 rfl) (to_goto (dat dk_X12_split 49 rfl) rfl ?_)
                          exact jn96_n73 1 (by decide) (show (1 : Int) = 0 ∨ ((1 : Int) = 1 ∧ y40 < 16) by omega)
                exact lp37_n45 (g - (y2 + 1)).toNat (y2 + 1) (0 + y36) h35 (by omega) (by omega) I33 f34 (show 0 ≤ (0 + y36) ∧ (0 + y36) ≤ 16 by omega) (show (y2 + 1) ≤ (y2 + 1) ∧ (y2 + 1) ≤ g by omega) (show y1 + 1 ≤ (y2 + 1) - f by omega) (by omega)
              refine to_iload (dat dk_X12_split 45 rfl) rfl (to_bipush (dat dk_X12_split 46 rfl) (by decide) ?_)
              refine to_ige 95 (dat dk_X12_split 47 rfl) rfl (by decide) (by decide) (fun c75 => absurd c75 (by decide)) (fun c75 => ?_)
              refine to_iconst (dat dk_X12_split 48 rfl) (to_goto (dat dk_X12_split 49 rfl) rfl ?_)
              exact jn96_n38 1 (by decide) (show (1 : Int) = 0 ∨ ((1 : Int) = 1 ∧ (0 : Int) < 16) by omega)
        · skip
          refine to_iinc (L' := [(0, .inr (.inr a)), (1, .inl f), (2, .inl g), (3, .inl m), (4, .inr (.inr 70)), (5, .inr (.inr 71)), (6, .inl n), (7, .inl y1), (8, .inl (y2 + 1))]) (dat dk_X12_split 15 rfl) rfl (by decide) rfl (to_goto (dat dk_X12_split 16 rfl) rfl ?_)
          exact ihn7 (n7 - 1) (by omega) y1 (y2 + 1) h3 ry1 (by omega) Ih3 fh3 (show 0 ≤ y1 ∧ y1 ≤ m by omega) (show f ≤ (y2 + 1) ∧ (y2 + 1) ≤ g by omega) (show y1 ≤ (y2 + 1) - f by omega) (show (g - (y2 + 1)) + (m - y1) ≤ ((n7 - 1 : Nat) : Int) by omega)
  exact lp6_n7 ((g - f) + (m - (0 : Int))).toNat 0 f h (by decide) hf hI (Fr.rf _ _) (show 0 ≤ (0 : Int) ∧ (0 : Int) ≤ m by omega) (show f ≤ f ∧ f ≤ g by omega) (show (0 : Int) ≤ f - f by omega) (by omega)
abbrev Q_X12_readField_vb (h : Hp) (c : Int) (f : Int) (g : Int) (n : Int) : Option V → Hp → Nat → Nat → Prop := RV (fun H => Inv H ∧ Fr [69, 70, 71, 75, 76, 223, 225, 226] h H ∧ (∀ i : Nat, i ≠ Int.toNat c → H.2.2 69 i = h.2.2 69 i) ∧ (H.2.2 69 (Int.toNat c) ≤ g - f + 1))
set_option maxRecDepth 100000 in
theorem ct_X12_readField_vb (l : Launch) (h : Hp) (hI : Inv h) (c : Int) (hc : I32 c) (f : Int) (hf : I32 f) (g : Int) (hg : I32 g) (n : Int) (hn : I32 n) (g0 : 0 ≤ c ∧ c ≤ 3) (g1 : 0 ≤ f ∧ f ≤ g) (g2 : g ≤ 240000) (g3 : g - f ≤ 1200) (g4 : 0 ≤ n ∧ n ≤ 8) : Ct l D_X12_readField 4 94 [.inr (.inr 60), .inl c, .inl f, .inl g, .inl n] h (Q_X12_readField_vb h c f g n) := by
  refine ct_of pn_X12_readField (Nat.le_of_ble_eq_true rfl) ?_
  show To l E_X12_readField (0, [(0, .inr (.inr 60)), (1, .inl c), (2, .inl f), (3, .inl g), (4, .inl n)], [], h, 0, 0) _
  obtain ⟨x1, ex1⟩ : ∃ y : Int, h.2.2 60 25 = y := ⟨_, rfl⟩
  have rx1 := hI.atR (a := 60) (j := 25) rfl
  rw [ex1] at rx1
  refine to_aload_n (dat dk_X12_readField 0 rfl) rfl (to_iconst (dat dk_X12_readField 1 rfl) (to_putIw p_c13_165 (dat dk_X12_readField 2 rfl) (hI.atS rfl) ?_))
  intro h4 wh4
  have I2 : Inv h4 := by rw [wh4]; exact hI.put (a := 60) (j := 25) (x := 0) (0) (4000) rfl rfl (show (0 : Int) ≤ 0 ∧ 0 ≤ 4000 by decide)
  have f3 : Fr [69, 70, 71, 75, 76, 223, 225, 226] h h4 := by rw [wh4]; exact Fr.putF (a := 60) (j := 25) (x := 0) (Fr.rf _ _) rfl
  have t5 : W69 h4 = W69 h := by rw [wh4]; exact W69_wr (by decide)
  have jn20_n9 : ∀ (h6 : Hp), (Inv h6) → (Fr [69, 70, 71, 75, 76, 223, 225, 226] h h6) → (h6.2.2 60 25 ≤ g - f + 1) → (W69 h6 = W69 h) → To l E_X12_readField (20, [(0, .inr (.inr 60)), (1, .inl c), (2, .inl f), (3, .inl g), (4, .inl n)], [], h6, 0, 0) (Q_X12_readField_vb h c f g n) := by
    intro h6 Ih6 fh6 c7 c8
    obtain ⟨x10, ex10⟩ : ∃ y : Int, h6.2.2 60 25 = y := ⟨_, rfl⟩
    have rx10 := Ih6.atR (a := 60) (j := 25) rfl
    rw [ex10] at rx10
    refine to_aload_n (dat dk_X12_readField 11 rfl) rfl (to_getR 69 g_c13_41 (dat dk_X12_readField 12 rfl) (Ih6.atS rfl) (Ih6.atE rfl) (to_iload_n (dat dk_X12_readField 13 rfl) rfl (to_aload_n (dat dk_X12_readField 14 rfl) rfl (to_getR 76 g_c13_63 (dat dk_X12_readField 15 rfl) (Ih6.atS rfl) (Ih6.atE rfl) (to_iconst (dat dk_X12_readField 16 rfl) (to_aload_n (dat dk_X12_readField 17 rfl) rfl (to_getIv (y := x10) ex10 g_c13_165 (dat dk_X12_readField 18 rfl) (Ih6.atS rfl) (to_sipush (dat dk_X12_readField 19 rfl) (by decide) (to_aload_n (dat dk_X12_readField 20 rfl) rfl (to_getR 70 g_c13_45 (dat dk_X12_readField 21 rfl) (Ih6.atS rfl) (Ih6.atE rfl) (to_aload_n (dat dk_X12_readField 22 rfl) rfl (to_getR 71 g_c13_48 (dat dk_X12_readField 23 rfl) (Ih6.atS rfl) (Ih6.atE rfl) (to_sipush (dat dk_X12_readField 24 rfl) (by decide) (to_iload_n (dat dk_X12_readField 25 rfl) rfl (to_imul (dat dk_X12_readField 26 rfl) ?_)))))))))))))))
    refine to_cI ca_c13_296 (dat dk_X12_readField 27 rfl) (ct_X12_split_v70b l h6 Ih6 76 4000 rfl 0 (by decide) x10 (by omega) 640 (by decide) (640 * c) (by omega) (show 0 ≤ (0 : Int) ∧ (0 : Int) ≤ x10 by omega) (show x10 ≤ (4000 : Int) by omega) (show 0 ≤ (640 * c) by omega) (show 0 ≤ (640 : Int) by omega) (show (640 * c) + (640 : Int) ≤ 2560 by omega)) rfl trivial rfl (fun x11 h12 rx11 p13 => ?_)
    obtain ⟨Ih12, fh12, p13_0, p13_1⟩ := p13
    have f14 : Fr [69, 70, 71, 75, 76, 223, 225, 226] h h12 := Fr.sub fh6 fh12 rfl
    have t15 : W69 h12 = W69 h6 := W69_fr fh12 Ih6 rfl
    refine to_iastw (dat dk_X12_readField 28 rfl) (Ih12.atS rfl) rfl (by decide) (by omega) ?_
    intro h18 wh18
    have I16 : Inv h18 := by rw [wh18]; exact Ih12.put (a := 69) (j := (Int.toNat c)) (x := x11) (0) (640) rfl rfl (show (0 : Int) ≤ x11 ∧ x11 ≤ 640 by omega)
    have f17 : Fr [69, 70, 71, 75, 76, 223, 225, 226] h h18 := by rw [wh18]; exact Fr.putF (a := 69) (j := (Int.toNat c)) (x := x11) f14 rfl
    exact to_vret rfl (dat dk_X12_readField 29 rfl) (rv_mk ⟨I16, f17, (fun i hi => by rw [wh18]; exact (wr_ne2 hi).trans (congrFun (show W69 _ = W69 _ from (t15.trans c8)) i)), (by rw [wh18, wr_eq]; omega)⟩)
  refine to_aload_n (dat dk_X12_readField 3 rfl) rfl (to_iload_n (dat dk_X12_readField 4 rfl) rfl (to_iload_n (dat dk_X12_readField 5 rfl) rfl (to_iload (dat dk_X12_readField 6 rfl) rfl ?_)))
  refine to_cI ca_c13_254 (dat dk_X12_readField 7 rfl) (ct_X12_field l h4 I2 f hf g hg n hn (show 0 ≤ f ∧ f ≤ g by omega) (show g ≤ 240000 by omega) (show g - f ≤ 1200 by omega) (show 0 ≤ n ∧ n ≤ 8 by omega)) rfl ⟨_, _, rfl, (I2.atS rfl)⟩ rfl (fun x19 h20 rx19 p21 => ?_)
  obtain ⟨Ih20, fh20, zx19, p21_0, p21_1⟩ := p21
  have f22 : Fr [69, 70, 71, 75, 76, 223, 225, 226] h h20 := Fr.sub f3 fh20 rfl
  have t23 : W69 h20 = W69 h4 := W69_fr fh20 I2 rfl
  obtain ⟨x24, ex24⟩ : ∃ y : Int, h20.2.2 60 26 = y := ⟨_, rfl⟩
  have rx24 := Ih20.atR (a := 60) (j := 26) rfl
  rw [ex24] at rx24
  obtain ⟨x25, ex25⟩ : ∃ y : Int, h20.2.2 60 23 = y := ⟨_, rfl⟩
  have rx25 := Ih20.atR (a := 60) (j := 23) rfl
  rw [ex25] at rx25
  refine to_ifeq 20 (dat dk_X12_readField 8 rfl) rfl rx19 (fun c26 => ?_) (fun c26 => ?_)
  · skip
    have e27 : h20.2.2 60 25 = (0 : Int) := ((Fr.get fh20 (by have := I2.1.1; omega) rfl).trans (by rw [wh4]; exact wr_eq))
    exact jn20_n9 h20 Ih20 f22 (show h20.2.2 60 25 ≤ g - f + 1 by omega) (t23.trans t5)
  · skip
    refine to_aload_n (dat dk_X12_readField 9 rfl) rfl ?_
    refine to_cV ca_c13_293 (dat dk_X12_readField 10 rfl) (ct_X12_readEncoded l h20 Ih20 ) rfl ⟨_, _, rfl, (Ih20.atS rfl)⟩ rfl (fun h29 p30 => ?_)
    obtain ⟨Ih29, fh29, p30_0⟩ := p30
    have f31 : Fr [69, 70, 71, 75, 76, 223, 225, 226] h h29 := Fr.sub f22 fh29 rfl
    have t32 : W69 h29 = W69 h20 := W69_fr fh29 Ih20 rfl
    obtain ⟨x33, ex33⟩ : ∃ y : Int, h29.2.2 60 25 = y := ⟨_, rfl⟩
    have rx33 := Ih29.atR (a := 60) (j := 25) rfl
    rw [ex33] at rx33
    have e34 : h29.2.2 60 23 = x25 := ((Fr.get fh29 (by have := Ih20.1.1; omega) rfl).trans ex25)
    exact jn20_n9 h29 Ih29 f31 (show h29.2.2 60 25 ≤ g - f + 1 by omega) (t32.trans (t23.trans t5))
abbrev Q_X12_readBody (h : Hp) (f : Int) (g : Int) (d : Int) : Option V → Hp → Nat → Nat → Prop := RV (fun H => Inv H ∧ Fr [75, 76, 77, 78, 79, 80, 81, 82, 223, 225, 226, 228, 229, 233] h H ∧ (Tok H) ∧ (tsum H + H.2.2 60 25 ≤ tsum h + h.2.2 60 25 + (g - f)) ∧ (tsum H ≤ tsum h + (g - f)) ∧ (h.2.2 60 25 ≤ H.2.2 60 25))
set_option maxRecDepth 100000 in
theorem ct_X12_readBody (l : Launch) (h : Hp) (hI : Inv h) (f : Int) (hf : I32 f) (g : Int) (hg : I32 g) (d : Int) (hd : I32 d) (g0 : 0 ≤ f ∧ f ≤ g) (g1 : g ≤ 240000) (g2 : g - f ≤ 1200) (g3 : 1 ≤ d ∧ d ≤ 4) (g4 : Tok h) (g5 : h.2.2 60 25 + tsum h + (g - f) ≤ 1400) : Ct l D_X12_readBody 4 94 [.inr (.inr 60), .inl f, .inl g, .inl d] h (Q_X12_readBody h f g d) := by
  refine ct_of pn_X12_readBody (Nat.le_of_ble_eq_true rfl) ?_
  show To l E_X12_readBody (0, [(0, .inr (.inr 60)), (1, .inl f), (2, .inl g), (3, .inl d)], [], h, 0, 0) _
  have z00 := (hI.atR (a := 60) (j := 29) rfl).1
  have z01 := tok_len g4 z00
  obtain ⟨x1, ex1⟩ : ∃ y : Int, h.2.2 60 25 = y := ⟨_, rfl⟩
  have rx1 := hI.atR (a := 60) (j := 25) rfl
  rw [ex1] at rx1
  obtain ⟨x2, ex2⟩ : ∃ y : Int, h.2.2 60 23 = y := ⟨_, rfl⟩
  have rx2 := hI.atR (a := 60) (j := 23) rfl
  rw [ex2] at rx2
  obtain ⟨x3, ex3⟩ : ∃ y : Int, h.2.2 60 33 = y := ⟨_, rfl⟩
  have rx3 := hI.atR (a := 60) (j := 33) rfl
  rw [ex3] at rx3
  refine to_aload_n (dat dk_X12_readBody 0 rfl) rfl (to_iload_n (dat dk_X12_readBody 1 rfl) rfl (to_iload_n (dat dk_X12_readBody 2 rfl) rfl (to_iconst (dat dk_X12_readBody 3 rfl) ?_)))
  refine to_cI ca_c13_254 (dat dk_X12_readBody 4 rfl) (ct_X12_field l h hI f hf g hg 4 (by decide) (show 0 ≤ f ∧ f ≤ g by omega) (show g ≤ 240000 by omega) (show g - f ≤ 1200 by omega) (show 0 ≤ (4 : Int) ∧ (4 : Int) ≤ 8 by omega)) rfl ⟨_, _, rfl, (hI.atS rfl)⟩ rfl (fun x4 h5 rx4 p6 => ?_)
  obtain ⟨Ih5, fh5, zx4, p6_0, p6_1⟩ := p6
  have f7 : Fr [75, 76, 77, 78, 79, 80, 81, 82, 223, 225, 226, 228, 229, 233] h h5 := Fr.sub (Fr.rf _ _) fh5 rfl
  have t8 : tsum h5 = tsum h := tsum_fr fh5 hI rfl
  have t9 : Tok h5 := Tok_fr fh5 hI rfl g4
  have t10 : psum h5 = psum h := psum_fr fh5 hI rfl
  obtain ⟨x11, ex11⟩ : ∃ y : Int, h5.2.2 60 26 = y := ⟨_, rfl⟩
  have rx11 := Ih5.atR (a := 60) (j := 26) rfl
  rw [ex11] at rx11
  obtain ⟨x12, ex12⟩ : ∃ y : Int, h5.2.2 60 23 = y := ⟨_, rfl⟩
  have rx12 := Ih5.atR (a := 60) (j := 23) rfl
  rw [ex12] at rx12
  refine to_istore (L' := [(0, .inr (.inr 60)), (1, .inl f), (2, .inl g), (3, .inl d), (4, .inl x4)]) (dat dk_X12_readBody 5 rfl) (by decide) rfl (to_aload_n (dat dk_X12_readBody 6 rfl) rfl (to_getIv (y := x11) ex11 g_c13_202 (dat dk_X12_readBody 7 rfl) (Ih5.atS rfl) (to_istore (L' := [(0, .inr (.inr 60)), (1, .inl f), (2, .inl g), (3, .inl d), (4, .inl x4), (5, .inl x11)]) (dat dk_X12_readBody 8 rfl) (by decide) rfl (to_iconst (dat dk_X12_readBody 9 rfl) (to_istore (L' := [(0, .inr (.inr 60)), (1, .inl f), (2, .inl g), (3, .inl d), (4, .inl x4), (5, .inl x11), (6, .inl 0)]) (dat dk_X12_readBody 10 rfl) (by decide) rfl ?_)))))
  have lp18_n15 : ∀ (n15 : Nat) (y13 : Int), (I32 y13) → (0 ≤ y13 ∧ y13 ≤ h5.2.2 60 23) → (h5.2.2 60 23 - y13 ≤ (n15 : Int)) → To l E_X12_readBody (18, [(0, .inr (.inr 60)), (1, .inl f), (2, .inl g), (3, .inl d), (4, .inl x4), (5, .inl x11), (6, .inl y13)], [], h5, 0, 0) (Q_X12_readBody h f g d) := by
    intro n15
    induction n15 using Nat.strongRecOn with
    | _ n15 ihn15 =>
    intro y13 ry13 c14 c16
    have jn50_n17 : To l E_X12_readBody (50, [(0, .inr (.inr 60)), (1, .inl f), (2, .inl g), (3, .inl d), (4, .inl x4), (5, .inl x11), (6, .inl y13)], [], h5, 0, 0) (Q_X12_readBody h f g d) := by
      skip
      refine to_iload (dat dk_X12_readBody 25 rfl) rfl (to_istore (L' := [(0, .inr (.inr 60)), (1, .inl f), (2, .inl g), (3, .inl d), (4, .inl x4), (5, .inl x11), (6, .inl y13), (7, .inl y13)]) (dat dk_X12_readBody 26 rfl) (by decide) rfl ?_)
      have lp54_n20 : ∀ (n20 : Nat) (y18 : Int), (I32 y18) → (0 ≤ y18 ∧ y18 ≤ y13) → (y18 ≤ (n20 : Int)) → To l E_X12_readBody (54, [(0, .inr (.inr 60)), (1, .inl f), (2, .inl g), (3, .inl d), (4, .inl x4), (5, .inl x11), (6, .inl y13), (7, .inl y18)], [], h5, 0, 0) (Q_X12_readBody h f g d) := by
        intro n20
        induction n20 using Nat.strongRecOn with
        | _ n20 ihn20 =>
        intro y18 ry18 c19 c21
        have jn80_n22 : To l E_X12_readBody (80, [(0, .inr (.inr 60)), (1, .inl f), (2, .inl g), (3, .inl d), (4, .inl x4), (5, .inl x11), (6, .inl y13), (7, .inl y18)], [], h5, 0, 0) (Q_X12_readBody h f g d) := by
          skip
          have jn177_n23 : To l E_X12_readBody (177, [(0, .inr (.inr 60)), (1, .inl f), (2, .inl g), (3, .inl d), (4, .inl x4), (5, .inl x11), (6, .inl y13), (7, .inl y18)], [], h5, 0, 0) (Q_X12_readBody h f g d) := by
            skip
            have jn201_n24 : To l E_X12_readBody (201, [(0, .inr (.inr 60)), (1, .inl f), (2, .inl g), (3, .inl d), (4, .inl x4), (5, .inl x11), (6, .inl y13), (7, .inl y18)], [], h5, 0, 0) (Q_X12_readBody h f g d) := by
              skip
              refine to_aload_n (dat dk_X12_readBody 102 rfl) rfl (to_iload_n (dat dk_X12_readBody 103 rfl) rfl (to_iload_n (dat dk_X12_readBody 104 rfl) rfl (to_iconst (dat dk_X12_readBody 105 rfl) ?_)))
              refine to_cI ca_c13_254 (dat dk_X12_readBody 106 rfl) (ct_X12_field l h5 Ih5 f hf g hg 5 (by decide) (show 0 ≤ f ∧ f ≤ g by omega) (show g ≤ 240000 by omega) (show g - f ≤ 1200 by omega) (show 0 ≤ (5 : Int) ∧ (5 : Int) ≤ 8 by omega)) rfl ⟨_, _, rfl, (Ih5.atS rfl)⟩ rfl (fun x25 h26 rx25 p27 => ?_)
              obtain ⟨Ih26, fh26, zx25, p27_0, p27_1⟩ := p27
              have f28 : Fr [75, 76, 77, 78, 79, 80, 81, 82, 223, 225, 226, 228, 229, 233] h h26 := Fr.sub f7 fh26 rfl
              have t29 : tsum h26 = tsum h5 := tsum_fr fh26 Ih5 rfl
              have t30 : Tok h26 := Tok_fr fh26 Ih5 rfl t9
              have t31 : psum h26 = psum h5 := psum_fr fh26 Ih5 rfl
              obtain ⟨x32, ex32⟩ : ∃ y : Int, h26.2.2 60 26 = y := ⟨_, rfl⟩
              have rx32 := Ih26.atR (a := 60) (j := 26) rfl
              rw [ex32] at rx32
              obtain ⟨x33, ex33⟩ : ∃ y : Int, h26.2.2 60 23 = y := ⟨_, rfl⟩
              have rx33 := Ih26.atR (a := 60) (j := 23) rfl
              rw [ex33] at rx33
              refine to_istore (L' := [(0, .inr (.inr 60)), (1, .inl f), (2, .inl g), (3, .inl d), (4, .inl x4), (5, .inl x11), (6, .inl y13), (7, .inl y18), (8, .inl x25)]) (dat dk_X12_readBody 107 rfl) (by decide) rfl ?_
              have jn240_n34 : To l E_X12_readBody (240, [(0, .inr (.inr 60)), (1, .inl f), (2, .inl g), (3, .inl d), (4, .inl x4), (5, .inl x11), (6, .inl y13), (7, .inl y18), (8, .inl x25)], [], h26, 0, 0) (Q_X12_readBody h f g d) := by
                skip
                have jn274_n35 : To l E_X12_readBody (274, [(0, .inr (.inr 60)), (1, .inl f), (2, .inl g), (3, .inl d), (4, .inl x4), (5, .inl x11), (6, .inl y13), (7, .inl y18), (8, .inl x25)], [], h26, 0, 0) (Q_X12_readBody h f g d) := by
                  skip
                  refine to_iload (dat dk_X12_readBody 138 rfl) rfl (to_istore (L' := [(0, .inr (.inr 60)), (1, .inl f), (2, .inl g), (3, .inl d), (4, .inl x4), (5, .inl x11), (6, .inl y13), (7, .inl y18), (8, .inl x25), (9, .inl x11)]) (dat dk_X12_readBody 139 rfl) (by decide) rfl ?_)
                  have e39 : h26.2.2 60 25 = x1 := ((Fr.get fh26 (by have := Ih5.1.1; omega) rfl).trans ((Fr.get fh5 (by have := hI.1.1; omega) rfl).trans ex1))
                  have lp278_n43 : ∀ (n43 : Nat) (y36 : Int) (h37 : Hp), (I32 y36) → (Inv h37) → (Fr [75, 76, 77, 78, 79, 80, 81, 82, 223, 225, 226, 228, 229, 233] h h37) → (x11 ≤ y36 ∧ y36 ≤ g) → (h37.2.2 60 25 = h.2.2 60 25 + (y36 - x11)) → (tsum h37 = tsum h) → (Tok h37) → (g - y36 ≤ (n43 : Int)) → To l E_X12_readBody (278, [(0, .inr (.inr 60)), (1, .inl f), (2, .inl g), (3, .inl d), (4, .inl x4), (5, .inl x11), (6, .inl y13), (7, .inl y18), (8, .inl x25), (9, .inl y36)], [], h37, 0, 0) (Q_X12_readBody h f g d) := by
                    intro n43
                    induction n43 using Nat.strongRecOn with
                    | _ n43 ihn43 =>
                    intro y36 h37 ry36 Ih37 fh37 c38 c40 c41 c42 c44
                    obtain ⟨x45, ex45⟩ : ∃ y : Int, h37.2.2 60 25 = y := ⟨_, rfl⟩
                    have rx45 := Ih37.atR (a := 60) (j := 25) rfl
                    rw [ex45] at rx45
                    refine to_iload (dat dk_X12_readBody 140 rfl) rfl (to_iload_n (dat dk_X12_readBody 141 rfl) rfl ?_)
                    refine to_ige 301 (dat dk_X12_readBody 142 rfl) rfl ry36 hg (fun c46 => ?_) (fun c46 => ?_)
                    · skip
                      exact to_vret rfl (dat dk_X12_readBody 151 rfl) (rv_mk ⟨Ih37, fh37, c42, (show tsum h37 + h37.2.2 60 25 ≤ tsum h + h.2.2 60 25 + (g - f) by omega), (show tsum h37 ≤ tsum h + (g - f) by omega), (show h.2.2 60 25 ≤ h37.2.2 60 25 by omega)⟩)
                    · skip
                      refine to_aload_n (dat dk_X12_readBody 143 rfl) rfl (to_aload_n (dat dk_X12_readBody 144 rfl) rfl (to_getR 63 g_c13_17 (dat dk_X12_readBody 145 rfl) (Ih37.atS rfl) (Ih37.atE rfl) (to_iload (dat dk_X12_readBody 146 rfl) rfl ?_)))
                      obtain ⟨x47, ex47⟩ : ∃ y : Int, h37.2.2 63 (Int.toNat y36) = y := ⟨_, rfl⟩
                      have rx47 := Ih37.atR (a := 63) (j := Int.toNat y36) rfl
                      rw [ex47] at rx47
                      refine to_baldv (q := 1) ex47 (dat dk_X12_readBody 147 rfl) (by decide) (Ih37.atS rfl) rfl (by decide) (by omega) ?_
                      refine to_cV ca_c13_211 (dat dk_X12_readBody 148 rfl) (ct_X12_put l h37 Ih37 x47 (by omega) (show h37.2.2 60 25 ≤ 3999 by omega)) rfl ⟨_, _, rfl, (Ih37.atS rfl)⟩ rfl (fun h49 p50 => ?_)
                      obtain ⟨Ih49, fh49, p50_0⟩ := p50
                      have f51 : Fr [75, 76, 77, 78, 79, 80, 81, 82, 223, 225, 226, 228, 229, 233] h h49 := Fr.sub fh37 fh49 rfl
                      have t52 : tsum h49 = tsum h37 := tsum_fr fh49 Ih37 rfl
                      have t53 : Tok h49 := Tok_fr fh49 Ih37 rfl c42
                      have t54 : psum h49 = psum h37 := psum_fr fh49 Ih37 rfl
                      obtain ⟨x55, ex55⟩ : ∃ y : Int, h49.2.2 60 25 = y := ⟨_, rfl⟩
                      have rx55 := Ih49.atR (a := 60) (j := 25) rfl
                      rw [ex55] at rx55
                      refine to_iinc (L' := [(0, .inr (.inr 60)), (1, .inl f), (2, .inl g), (3, .inl d), (4, .inl x4), (5, .inl x11), (6, .inl y13), (7, .inl y18), (8, .inl x25), (9, .inl (y36 + 1))]) (dat dk_X12_readBody 149 rfl) rfl (by decide) rfl (to_goto (dat dk_X12_readBody 150 rfl) rfl ?_)
                      exact ihn43 (n43 - 1) (by omega) (y36 + 1) h49 (by omega) Ih49 f51 (show x11 ≤ (y36 + 1) ∧ (y36 + 1) ≤ g by omega) (show h49.2.2 60 25 = h.2.2 60 25 + ((y36 + 1) - x11) by omega) (t52.trans c41) t53 (show g - (y36 + 1) ≤ ((n43 - 1 : Nat) : Int) by omega)
                  exact lp278_n43 (g - x11).toNat x11 h26 (by omega) Ih26 f28 (show x11 ≤ x11 ∧ x11 ≤ g by omega) (show h26.2.2 60 25 = h.2.2 60 25 + (x11 - x11) by omega) (t29.trans t8) t30 (by omega)
                refine to_iload (dat dk_X12_readBody 122 rfl) rfl ?_
                refine to_ifeq 274 (dat dk_X12_readBody 123 rfl) rfl rx25 (fun c56 => ?_) (fun c56 => ?_)
                · skip
                  exact jn274_n35  
                · skip
                  refine to_aload_n (dat dk_X12_readBody 124 rfl) rfl (to_aload_n (dat dk_X12_readBody 125 rfl) rfl (to_getIv (y := x33) ex33 g_c13_171 (dat dk_X12_readBody 126 rfl) (Ih26.atS rfl) (to_gst (C := "MailArchiveModel") (f9 := "BASE") (d9 := "[I") (List.mem_of_getElem? (i := 4) rfl) (tin 8 155 (by decide +kernel) rfl) (dat dk_X12_readBody 127 rfl) (to_iconst (dat dk_X12_readBody 128 rfl) ?_))))
                  refine to_cI ca_c13_261 (dat dk_X12_readBody 129 rfl) (ct_X12_isContent l h26 Ih26 x33 (by omega) 1000203 6 (List.mem_of_getElem? (i := 2) rfl) 1 (by decide)) rfl ⟨_, _, rfl, (Ih26.atS rfl)⟩ rfl (fun x57 h58 rx57 p59 => ?_)
                  obtain ⟨rfl, zx57⟩ := p59
                  refine to_ifeq 274 (dat dk_X12_readBody 130 rfl) rfl rx57 (fun c60 => ?_) (fun c60 => ?_)
                  · skip
                    exact jn274_n35  
                  · skip
                    refine to_aload_n (dat dk_X12_readBody 131 rfl) rfl (to_aload_n (dat dk_X12_readBody 132 rfl) rfl (to_getR 63 g_c13_17 (dat dk_X12_readBody 133 rfl) (Ih26.atS rfl) (Ih26.atE rfl) (to_iload (dat dk_X12_readBody 134 rfl) rfl (to_iload_n (dat dk_X12_readBody 135 rfl) rfl ?_))))
                    have e61 : h26.2.2 60 25 = x1 := ((Fr.get fh26 (by have := Ih5.1.1; omega) rfl).trans ((Fr.get fh5 (by have := hI.1.1; omega) rfl).trans ex1))
                    refine to_cV ca_c13_231 (dat dk_X12_readBody 136 rfl) (ct_X12_base l h26 Ih26 63 240000 rfl x11 (by omega) g hg (show 0 ≤ x11 by omega) (show g ≤ (240000 : Int) by omega) (show h26.2.2 60 25 + (g - x11) ≤ 4000 by omega)) rfl ⟨_, _, rfl, (Ih26.atS rfl)⟩ rfl (fun h63 p64 => ?_)
                    obtain ⟨Ih63, fh63, p64_0, p64_1⟩ := p64
                    have f65 : Fr [75, 76, 77, 78, 79, 80, 81, 82, 223, 225, 226, 228, 229, 233] h h63 := Fr.sub f28 fh63 rfl
                    have t66 : tsum h63 = tsum h26 := tsum_fr fh63 Ih26 rfl
                    have t67 : Tok h63 := Tok_fr fh63 Ih26 rfl t30
                    have t68 : psum h63 = psum h26 := psum_fr fh63 Ih26 rfl
                    obtain ⟨x69, ex69⟩ : ∃ y : Int, h63.2.2 60 25 = y := ⟨_, rfl⟩
                    have rx69 := Ih63.atR (a := 60) (j := 25) rfl
                    rw [ex69] at rx69
                    refine to_goto (dat dk_X12_readBody 137 rfl) rfl ?_
                    exact to_vret rfl (dat dk_X12_readBody 151 rfl) (rv_mk ⟨Ih63, f65, t67, (show tsum h63 + h63.2.2 60 25 ≤ tsum h + h.2.2 60 25 + (g - f) by omega), (show tsum h63 ≤ tsum h + (g - f) by omega), (show h.2.2 60 25 ≤ h63.2.2 60 25 by omega)⟩)
              refine to_iload (dat dk_X12_readBody 108 rfl) rfl ?_
              refine to_ifeq 240 (dat dk_X12_readBody 109 rfl) rfl rx25 (fun c70 => ?_) (fun c70 => ?_)
              · skip
                exact jn240_n34  
              · skip
                refine to_aload_n (dat dk_X12_readBody 110 rfl) rfl (to_aload_n (dat dk_X12_readBody 111 rfl) rfl (to_getIv (y := x33) ex33 g_c13_171 (dat dk_X12_readBody 112 rfl) (Ih26.atS rfl) (to_gst (C := "MailArchiveModel") (f9 := "QUOTED") (d9 := "[I") (List.mem_of_getElem? (i := 12) rfl) (tin 8 149 (by decide +kernel) rfl) (dat dk_X12_readBody 113 rfl) (to_iconst (dat dk_X12_readBody 114 rfl) ?_))))
                refine to_cI ca_c13_261 (dat dk_X12_readBody 115 rfl) (ct_X12_isContent l h26 Ih26 x33 (by omega) 1000211 16 (List.mem_of_getElem? (i := 10) rfl) 1 (by decide)) rfl ⟨_, _, rfl, (Ih26.atS rfl)⟩ rfl (fun x71 h72 rx71 p73 => ?_)
                obtain ⟨rfl, zx71⟩ := p73
                refine to_ifeq 240 (dat dk_X12_readBody 116 rfl) rfl rx71 (fun c74 => ?_) (fun c74 => ?_)
                · skip
                  exact jn240_n34  
                · skip
                  refine to_aload_n (dat dk_X12_readBody 117 rfl) rfl (to_iload (dat dk_X12_readBody 118 rfl) rfl (to_iload_n (dat dk_X12_readBody 119 rfl) rfl ?_))
                  have e75 : h26.2.2 60 25 = x1 := ((Fr.get fh26 (by have := Ih5.1.1; omega) rfl).trans ((Fr.get fh5 (by have := hI.1.1; omega) rfl).trans ex1))
                  refine to_cV ca_c13_281 (dat dk_X12_readBody 120 rfl) (ct_X12_quoted l h26 Ih26 x11 (by omega) g hg (show 0 ≤ x11 ∧ x11 ≤ g by omega) (show g ≤ 240000 by omega) (show h26.2.2 60 25 + (g - x11) ≤ 4000 by omega)) rfl ⟨_, _, rfl, (Ih26.atS rfl)⟩ rfl (fun h77 p78 => ?_)
                  obtain ⟨Ih77, fh77, p78_0, p78_1⟩ := p78
                  have f79 : Fr [75, 76, 77, 78, 79, 80, 81, 82, 223, 225, 226, 228, 229, 233] h h77 := Fr.sub f28 fh77 rfl
                  have t80 : tsum h77 = tsum h26 := tsum_fr fh77 Ih26 rfl
                  have t81 : Tok h77 := Tok_fr fh77 Ih26 rfl t30
                  have t82 : psum h77 = psum h26 := psum_fr fh77 Ih26 rfl
                  obtain ⟨x83, ex83⟩ : ∃ y : Int, h77.2.2 60 25 = y := ⟨_, rfl⟩
                  have rx83 := Ih77.atR (a := 60) (j := 25) rfl
                  rw [ex83] at rx83
                  refine to_goto (dat dk_X12_readBody 121 rfl) rfl ?_
                  exact to_vret rfl (dat dk_X12_readBody 151 rfl) (rv_mk ⟨Ih77, f79, t81, (show tsum h77 + h77.2.2 60 25 ≤ tsum h + h.2.2 60 25 + (g - f) by omega), (show tsum h77 ≤ tsum h + (g - f) by omega), (show h.2.2 60 25 ≤ h77.2.2 60 25 by omega)⟩)
            refine to_iload (dat dk_X12_readBody 91 rfl) rfl ?_
            refine to_ifeq 201 (dat dk_X12_readBody 92 rfl) rfl rx4 (fun c84 => ?_) (fun c84 => ?_)
            · skip
              exact jn201_n24  
            · skip
              refine to_iload (dat dk_X12_readBody 93 rfl) rfl ?_
              refine to_ifle 201 (dat dk_X12_readBody 94 rfl) rfl ry18 (fun c85 => ?_) (fun c85 => ?_)
              · skip
                exact jn201_n24  
              · skip
                refine to_aload_n (dat dk_X12_readBody 95 rfl) rfl (to_iload (dat dk_X12_readBody 96 rfl) rfl (to_gst (C := "MailArchiveModel") (f9 := "TEXT_PLAIN") (d9 := "[I") (List.mem_of_getElem? (i := 13) rfl) (tin 8 147 (by decide +kernel) rfl) (dat dk_X12_readBody 97 rfl) (to_iconst (dat dk_X12_readBody 98 rfl) ?_)))
                refine to_cI ca_c13_261 (dat dk_X12_readBody 99 rfl) (ct_X12_isContent l h5 Ih5 y18 ry18 1000212 10 (List.mem_of_getElem? (i := 11) rfl) 1 (by decide)) rfl ⟨_, _, rfl, (Ih5.atS rfl)⟩ rfl (fun x86 h87 rx86 p88 => ?_)
                obtain ⟨rfl, zx86⟩ := p88
                refine to_ifne 201 (dat dk_X12_readBody 100 rfl) rfl rx86 (fun c89 => ?_) (fun c89 => ?_)
                · skip
                  exact jn201_n24  
                · skip
                  have e90 : h5.2.2 60 25 = x1 := ((Fr.get fh5 (by have := hI.1.1; omega) rfl).trans ex1)
                  exact to_vret rfl (dat dk_X12_readBody 101 rfl) (rv_mk ⟨Ih5, f7, t9, (show tsum h5 + h5.2.2 60 25 ≤ tsum h + h.2.2 60 25 + (g - f) by omega), (show tsum h5 ≤ tsum h + (g - f) by omega), (show h.2.2 60 25 ≤ h5.2.2 60 25 by omega)⟩)
          refine to_aload_n (dat dk_X12_readBody 39 rfl) rfl (to_iload (dat dk_X12_readBody 40 rfl) rfl (to_gst (C := "MailArchiveModel") (f9 := "MULTIPART") (d9 := "[I") (List.mem_of_getElem? (i := 10) rfl) (tin 8 123 (by decide +kernel) rfl) (dat dk_X12_readBody 41 rfl) (to_iconst (dat dk_X12_readBody 42 rfl) ?_)))
          refine to_cI ca_c13_261 (dat dk_X12_readBody 43 rfl) (ct_X12_isContent l h5 Ih5 y18 ry18 1000209 10 (List.mem_of_getElem? (i := 8) rfl) 0 (by decide)) rfl ⟨_, _, rfl, (Ih5.atS rfl)⟩ rfl (fun x91 h92 rx91 p93 => ?_)
          obtain ⟨rfl, zx91⟩ := p93
          refine to_ifeq 177 (dat dk_X12_readBody 44 rfl) rfl rx91 (fun c94 => ?_) (fun c94 => ?_)
          · skip
            exact jn177_n23  
          · skip
            refine to_iload (dat dk_X12_readBody 45 rfl) rfl ?_
            refine to_ifeq 177 (dat dk_X12_readBody 46 rfl) rfl rx4 (fun c95 => ?_) (fun c95 => ?_)
            · skip
              exact jn177_n23  
            · skip
              refine to_aload_n (dat dk_X12_readBody 47 rfl) rfl (to_iload (dat dk_X12_readBody 48 rfl) rfl ?_)
              refine to_cV ca_c13_265 (dat dk_X12_readBody 49 rfl) (ct_X12_findBoundary l h5 Ih5 y13 ry13 (show 0 ≤ y13 ∧ y13 ≤ h5.2.2 60 23 by omega)) rfl ⟨_, _, rfl, (Ih5.atS rfl)⟩ rfl (fun h97 p98 => ?_)
              obtain ⟨Ih97, fh97⟩ := p98
              have f99 : Fr [75, 76, 77, 78, 79, 80, 81, 82, 223, 225, 226, 228, 229, 233] h h97 := Fr.sub f7 fh97 rfl
              have t100 : tsum h97 = tsum h5 := tsum_fr fh97 Ih5 rfl
              have t101 : Tok h97 := Tok_fr fh97 Ih5 rfl t9
              have t102 : psum h97 = psum h5 := psum_fr fh97 Ih5 rfl
              refine to_aload_n (dat dk_X12_readBody 50 rfl) rfl ?_
              obtain ⟨x103, ex103⟩ : ∃ y : Int, h97.2.2 60 28 = y := ⟨_, rfl⟩
              have rx103 := Ih97.atR (a := 60) (j := 28) rfl
              rw [ex103] at rx103
              refine to_getIv (y := x103) ex103 g_c13_234 (dat dk_X12_readBody 51 rfl) (Ih97.atS rfl) (to_iconst (dat dk_X12_readBody 52 rfl) ?_)
              refine to_ilt 121 (dat dk_X12_readBody 53 rfl) rfl (by omega) (by decide) (fun c104 => ?_) (fun c104 => ?_)
              · skip
                have e105 : h97.2.2 60 25 = x1 := ((Fr.get fh97 (by have := Ih5.1.1; omega) rfl).trans ((Fr.get fh5 (by have := hI.1.1; omega) rfl).trans ex1))
                exact to_vret rfl (dat dk_X12_readBody 58 rfl) (rv_mk ⟨Ih97, f99, t101, (show tsum h97 + h97.2.2 60 25 ≤ tsum h + h.2.2 60 25 + (g - f) by omega), (show tsum h97 ≤ tsum h + (g - f) by omega), (show h.2.2 60 25 ≤ h97.2.2 60 25 by omega)⟩)
              · skip
                refine to_aload_n (dat dk_X12_readBody 54 rfl) rfl (to_getIv (y := x103) ex103 g_c13_234 (dat dk_X12_readBody 55 rfl) (Ih97.atS rfl) (to_bipush (dat dk_X12_readBody 56 rfl) (by decide) ?_))
                refine to_ile 122 (dat dk_X12_readBody 57 rfl) rfl (by omega) (by decide) (fun c106 => ?_) (fun c106 => ?_)
                · skip
                  refine to_aload_n (dat dk_X12_readBody 59 rfl) rfl (to_iload (dat dk_X12_readBody 60 rfl) rfl (to_iload_n (dat dk_X12_readBody 61 rfl) rfl ?_))
                  refine to_cV ca_c13_268 (dat dk_X12_readBody 62 rfl) (ct_X12_findParts_vb l h97 Ih97 x11 (by omega) g hg (show 0 ≤ x11 ∧ x11 ≤ g by omega) (show g ≤ 240000 by omega) (show g - x11 ≤ 1200 by omega) (show 1 ≤ h97.2.2 60 28 by omega)) rfl ⟨_, _, rfl, (Ih97.atS rfl)⟩ rfl (fun h108 p109 => ?_)
                  obtain ⟨Ih108, fh108, p109_0, p109_1⟩ := p109
                  have f110 : Fr [75, 76, 77, 78, 79, 80, 81, 82, 223, 225, 226, 228, 229, 233] h h108 := Fr.sub f99 fh108 rfl
                  have t111 : tsum h108 = tsum h97 := tsum_fr fh108 Ih97 rfl
                  have t112 : Tok h108 := Tok_fr fh108 Ih97 rfl t101
                  refine to_aload_n (dat dk_X12_readBody 63 rfl) rfl ?_
                  obtain ⟨x113, ex113⟩ : ∃ y : Int, h108.2.2 60 33 = y := ⟨_, rfl⟩
                  have rx113 := Ih108.atR (a := 60) (j := 33) rfl
                  rw [ex113] at rx113
                  refine to_getIv (y := x113) ex113 g_c13_240 (dat dk_X12_readBody 64 rfl) (Ih108.atS rfl) (to_iconst (dat dk_X12_readBody 65 rfl) (to_isub (dat dk_X12_readBody 66 rfl) (to_istore (L' := [(0, .inr (.inr 60)), (1, .inl f), (2, .inl g), (3, .inl d), (4, .inl x4), (5, .inl x11), (6, .inl y13), (7, .inl y18), (8, .inl (x113 - 1))]) (dat dk_X12_readBody 67 rfl) (by decide) rfl ?_)))
                  have e120 : h108.2.2 60 25 = x1 := ((Fr.get fh108 (by have := Ih97.1.1; omega) rfl).trans ((Fr.get fh97 (by have := Ih5.1.1; omega) rfl).trans ((Fr.get fh5 (by have := hI.1.1; omega) rfl).trans ex1)))
                  have lp137_n122 : ∀ (n122 : Nat) (y114 : Int) (h115 : Hp), (I32 y114) → (Inv h115) → (Fr [75, 76, 77, 78, 79, 80, 81, 82, 223, 225, 226, 228, 229, 233] h h115) → (RB h115 y114 (tsum h + (g - f))) → (Tok h115) → (Pok h115) → (-1 ≤ y114 ∧ y114 < h115.2.2 60 33) → (h115.2.2 60 25 = h.2.2 60 25) → (y114 + 1 ≤ (n122 : Int)) → To l E_X12_readBody (137, [(0, .inr (.inr 60)), (1, .inl f), (2, .inl g), (3, .inl d), (4, .inl x4), (5, .inl x11), (6, .inl y13), (7, .inl y18), (8, .inl y114)], [], h115, 0, 0) (Q_X12_readBody h f g d) := by
                    intro n122
                    induction n122 using Nat.strongRecOn with
                    | _ n122 ihn122 =>
                    intro y114 h115 ry114 Ih115 fh115 c116 c117 c118 c119 c121 c123
                    obtain ⟨x124, ex124⟩ : ∃ y : Int, h115.2.2 60 33 = y := ⟨_, rfl⟩
                    have rx124 := Ih115.atR (a := 60) (j := 33) rfl
                    rw [ex124] at rx124
                    obtain ⟨x125, ex125⟩ : ∃ y : Int, h115.2.2 60 25 = y := ⟨_, rfl⟩
                    have rx125 := Ih115.atR (a := 60) (j := 25) rfl
                    rw [ex125] at rx125
                    refine to_iload (dat dk_X12_readBody 68 rfl) rfl ?_
                    refine to_iflt 176 (dat dk_X12_readBody 69 rfl) rfl ry114 (fun c126 => ?_) (fun c126 => ?_)
                    · skip
                      have z127 := RB.done c116 (by omega)
                      exact to_vret rfl (dat dk_X12_readBody 90 rfl) (rv_mk ⟨Ih115, fh115, c117, (show tsum h115 + h115.2.2 60 25 ≤ tsum h + h.2.2 60 25 + (g - f) by omega), (show tsum h115 ≤ tsum h + (g - f) by omega), (show h.2.2 60 25 ≤ h115.2.2 60 25 by omega)⟩)
                    · skip
                      have z128 := RB.facts Ih115 c116 c117 c118 (by omega)
                      refine to_aload_n (dat dk_X12_readBody 70 rfl) rfl (to_iconst (dat dk_X12_readBody 71 rfl) (to_iconst (dat dk_X12_readBody 72 rfl) (to_iconst (dat dk_X12_readBody 73 rfl) ?_)))
                      refine to_cV ca_c13_271 (dat dk_X12_readBody 74 rfl) (ct_X12_push_vb l h115 Ih115 0 (by decide) 0 (by decide) 0 (by decide) (show 0 ≤ (0 : Int) ∧ (0 : Int) ≤ 240000 by omega) (show 0 ≤ (0 : Int) ∧ (0 : Int) ≤ 240000 by omega) (show 0 ≤ (0 : Int) ∧ (0 : Int) ≤ 5 by omega) (show h115.2.2 60 29 ≤ 3999 by omega)) rfl ⟨_, _, rfl, (Ih115.atS rfl)⟩ rfl (fun h130 p131 => ?_)
                      obtain ⟨Ih130, fh130, p131_0⟩ := p131
                      have f132 : Fr [75, 76, 77, 78, 79, 80, 81, 82, 223, 225, 226, 228, 229, 233] h h130 := Fr.sub fh115 fh130 rfl
                      have t133 : psum h130 = psum h115 := psum_fr fh130 Ih115 rfl
                      have t134 : Pok h130 := Pok_fr fh130 Ih115 rfl c118
                      have q135 := PushP.sum2 p131_0 (Ih115.atR (a := 60) (j := 29) rfl).1
                      have q136 : Tok h130 := PushP.tok p131_0 (Ih115.atR (a := 60) (j := 29) rfl).1 c117 (by omega)
                      refine to_aload_n (dat dk_X12_readBody 75 rfl) rfl (to_aload_n (dat dk_X12_readBody 76 rfl) rfl (to_getR 81 g_c13_78 (dat dk_X12_readBody 77 rfl) (Ih130.atS rfl) (Ih130.atE rfl) (to_iload (dat dk_X12_readBody 78 rfl) rfl ?_)))
                      obtain ⟨x137, ex137⟩ : ∃ y : Int, h130.2.2 81 (Int.toNat y114) = y := ⟨_, rfl⟩
                      have rx137 := Ih130.atR (a := 81) (j := Int.toNat y114) rfl
                      rw [ex137] at rx137
                      refine to_ialdv ex137 (dat dk_X12_readBody 79 rfl) (Ih130.atS rfl) rfl (by decide) (by omega) (to_aload_n (dat dk_X12_readBody 80 rfl) rfl (to_getR 82 g_c13_81 (dat dk_X12_readBody 81 rfl) (Ih130.atS rfl) (Ih130.atE rfl) (to_iload (dat dk_X12_readBody 82 rfl) rfl ?_)))
                      obtain ⟨x138, ex138⟩ : ∃ y : Int, h130.2.2 82 (Int.toNat y114) = y := ⟨_, rfl⟩
                      have rx138 := Ih130.atR (a := 82) (j := Int.toNat y114) rfl
                      rw [ex138] at rx138
                      refine to_ialdv ex138 (dat dk_X12_readBody 83 rfl) (Ih130.atS rfl) rfl (by decide) (by omega) (to_iload_n (dat dk_X12_readBody 84 rfl) rfl (to_iconst (dat dk_X12_readBody 85 rfl) (to_iadd (dat dk_X12_readBody 86 rfl) ?_)))
                      have e139 : h130.2.2 60 33 = x124 := ((Fr.get fh130 (by have := Ih115.1.1; omega) rfl).trans ex124)
                      have z140 := p131_0.1
                      have z141 := t134 (Int.toNat y114) (by omega)
                      refine to_cV ca_c13_271 (dat dk_X12_readBody 87 rfl) (ct_X12_push_vb l h130 Ih130 x137 (by omega) x138 (by omega) (d + 1) (by omega) (show 0 ≤ x137 ∧ x137 ≤ 240000 by omega) (show 0 ≤ x138 ∧ x138 ≤ 240000 by omega) (show 0 ≤ (d + 1) ∧ (d + 1) ≤ 5 by omega) (show h130.2.2 60 29 ≤ 3999 by omega)) rfl ⟨_, _, rfl, (Ih130.atS rfl)⟩ rfl (fun h143 p144 => ?_)
                      obtain ⟨Ih143, fh143, p144_0⟩ := p144
                      have f145 : Fr [75, 76, 77, 78, 79, 80, 81, 82, 223, 225, 226, 228, 229, 233] h h143 := Fr.sub f132 fh143 rfl
                      have t146 : psum h143 = psum h130 := psum_fr fh143 Ih130 rfl
                      have t147 : Pok h143 := Pok_fr fh143 Ih130 rfl t134
                      have q148 := PushP.sum2 p144_0 (Ih130.atR (a := 60) (j := 29) rfl).1
                      have q149 : Tok h143 := PushP.tok p144_0 (Ih130.atR (a := 60) (j := 29) rfl).1 q136 (by omega)
                      refine to_iinc (L' := [(0, .inr (.inr 60)), (1, .inl f), (2, .inl g), (3, .inl d), (4, .inl x4), (5, .inl x11), (6, .inl y13), (7, .inl y18), (8, .inl (y114 + (-1)))]) (dat dk_X12_readBody 88 rfl) rfl (by decide) rfl (to_goto (dat dk_X12_readBody 89 rfl) rfl ?_)
                      have e150 : h143.2.2 60 33 = x124 := ((Fr.get fh143 (by have := Ih130.1.1; omega) rfl).trans e139)
                      have e151 : h143.2.2 60 25 = x125 := ((Fr.get fh143 (by have := Ih130.1.1; omega) rfl).trans ((Fr.get fh130 (by have := Ih115.1.1; omega) rfl).trans ex125))
                      exact ihn122 (n122 - 1) (by omega) (y114 + (-1)) h143 (by omega) Ih143 f145 (RB.step c116 Ih115 Ih130 p131_0 fh130 p144_0 fh143 ex137 ex138 (by omega) (by omega) (by omega)) q149 t147 (show -1 ≤ (y114 + (-1)) ∧ (y114 + (-1)) < h143.2.2 60 33 by omega) (show h143.2.2 60 25 = h.2.2 60 25 by omega) (show (y114 + (-1)) + 1 ≤ ((n122 - 1 : Nat) : Int) by omega)
                  exact lp137_n122 ((x113 - 1) + 1).toNat (x113 - 1) h108 (by omega) Ih108 f110 (RB.init ex113 (by omega) (by omega)) t112 p109_1 (show -1 ≤ (x113 - 1) ∧ (x113 - 1) < h108.2.2 60 33 by omega) (show h108.2.2 60 25 = h.2.2 60 25 by omega) (by omega)
                · skip
                  have e152 : h97.2.2 60 25 = x1 := ((Fr.get fh97 (by have := Ih5.1.1; omega) rfl).trans ((Fr.get fh5 (by have := hI.1.1; omega) rfl).trans ex1))
                  exact to_vret rfl (dat dk_X12_readBody 58 rfl) (rv_mk ⟨Ih97, f99, t101, (show tsum h97 + h97.2.2 60 25 ≤ tsum h + h.2.2 60 25 + (g - f) by omega), (show tsum h97 ≤ tsum h + (g - f) by omega), (show h.2.2 60 25 ≤ h97.2.2 60 25 by omega)⟩)
        refine to_iload (dat dk_X12_readBody 27 rfl) rfl ?_
        refine to_ifle 80 (dat dk_X12_readBody 28 rfl) rfl ry18 (fun c153 => ?_) (fun c153 => ?_)
        · skip
          exact jn80_n22  
        · skip
          refine to_aload_n (dat dk_X12_readBody 29 rfl) rfl (to_getR 75 g_c13_60 (dat dk_X12_readBody 30 rfl) (Ih5.atS rfl) (Ih5.atE rfl) (to_iload (dat dk_X12_readBody 31 rfl) rfl (to_iconst (dat dk_X12_readBody 32 rfl) (to_isub (dat dk_X12_readBody 33 rfl) ?_))))
          obtain ⟨x154, ex154⟩ : ∃ y : Int, h5.2.2 75 (Int.toNat (y18 - 1)) = y := ⟨_, rfl⟩
          have rx154 := Ih5.atR (a := 75) (j := Int.toNat (y18 - 1)) rfl
          rw [ex154] at rx154
          refine to_baldv (q := 1) ex154 (dat dk_X12_readBody 34 rfl) (by decide) (Ih5.atS rfl) rfl (by decide) (by omega) ?_
          refine to_cI ca_c13_182 (dat dk_X12_readBody 35 rfl) (ct_X12_isBlank l h5 Ih5 x154 (by omega)) rfl trivial rfl (fun x155 h156 rx155 p157 => ?_)
          obtain ⟨rfl, zx155⟩ := p157
          refine to_ifeq 80 (dat dk_X12_readBody 36 rfl) rfl rx155 (fun c158 => ?_) (fun c158 => ?_)
          · skip
            exact jn80_n22  
          · skip
            refine to_iinc (L' := [(0, .inr (.inr 60)), (1, .inl f), (2, .inl g), (3, .inl d), (4, .inl x4), (5, .inl x11), (6, .inl y13), (7, .inl (y18 + (-1)))]) (dat dk_X12_readBody 37 rfl) rfl (by decide) rfl (to_goto (dat dk_X12_readBody 38 rfl) rfl ?_)
            exact ihn20 (n20 - 1) (by omega) (y18 + (-1)) (by omega) (show 0 ≤ (y18 + (-1)) ∧ (y18 + (-1)) ≤ y13 by omega) (show (y18 + (-1)) ≤ ((n20 - 1 : Nat) : Int) by omega)
      exact lp54_n20 (y13).toNat y13 ry13 (show 0 ≤ y13 ∧ y13 ≤ y13 by omega) (by omega)
    refine to_iload (dat dk_X12_readBody 11 rfl) rfl ?_
    refine to_ifeq 50 (dat dk_X12_readBody 12 rfl) rfl rx4 (fun c159 => ?_) (fun c159 => ?_)
    · skip
      exact jn50_n17  
    · skip
      refine to_iload (dat dk_X12_readBody 13 rfl) rfl (to_aload_n (dat dk_X12_readBody 14 rfl) rfl (to_getIv (y := x12) ex12 g_c13_171 (dat dk_X12_readBody 15 rfl) (Ih5.atS rfl) ?_))
      refine to_ige 50 (dat dk_X12_readBody 16 rfl) rfl ry13 (by omega) (fun c160 => ?_) (fun c160 => ?_)
      · skip
        exact jn50_n17  
      · skip
        refine to_aload_n (dat dk_X12_readBody 17 rfl) rfl (to_getR 75 g_c13_60 (dat dk_X12_readBody 18 rfl) (Ih5.atS rfl) (Ih5.atE rfl) (to_iload (dat dk_X12_readBody 19 rfl) rfl ?_))
        obtain ⟨x161, ex161⟩ : ∃ y : Int, h5.2.2 75 (Int.toNat y13) = y := ⟨_, rfl⟩
        have rx161 := Ih5.atR (a := 75) (j := Int.toNat y13) rfl
        rw [ex161] at rx161
        refine to_baldv (q := 1) ex161 (dat dk_X12_readBody 20 rfl) (by decide) (Ih5.atS rfl) rfl (by decide) (by omega) (to_bipush (dat dk_X12_readBody 21 rfl) (by decide) ?_)
        refine to_ieq 50 (dat dk_X12_readBody 22 rfl) rfl (by omega) (by decide) (fun c162 => ?_) (fun c162 => ?_)
        · skip
          exact jn50_n17  
        · skip
          refine to_iinc (L' := [(0, .inr (.inr 60)), (1, .inl f), (2, .inl g), (3, .inl d), (4, .inl x4), (5, .inl x11), (6, .inl (y13 + 1))]) (dat dk_X12_readBody 23 rfl) rfl (by decide) rfl (to_goto (dat dk_X12_readBody 24 rfl) rfl ?_)
          exact ihn15 (n15 - 1) (by omega) (y13 + 1) (by omega) (show 0 ≤ (y13 + 1) ∧ (y13 + 1) ≤ h5.2.2 60 23 by omega) (show h5.2.2 60 23 - (y13 + 1) ≤ ((n15 - 1 : Nat) : Int) by omega)
  exact lp18_n15 (h5.2.2 60 23 - (0 : Int)).toNat 0 (by decide) (show 0 ≤ (0 : Int) ∧ (0 : Int) ≤ h5.2.2 60 23 by omega) (by omega)
abbrev Q_X12_readText (h : Hp) (f : Int) (g : Int) : Option V → Hp → Nat → Nat → Prop := RV (fun H => Inv H ∧ Fr [75, 76, 77, 78, 79, 80, 81, 82, 223, 225, 226, 228, 229, 233] h H ∧ (H.2.2 60 25 ≤ g - f + 1))
set_option maxRecDepth 100000 in
theorem ct_X12_readText (l : Launch) (h : Hp) (hI : Inv h) (f : Int) (hf : I32 f) (g : Int) (hg : I32 g) (g0 : 0 ≤ f ∧ f ≤ g) (g1 : g ≤ 240000) (g2 : g - f ≤ 1200) : Ct l D_X12_readText 5 123 [.inr (.inr 60), .inl f, .inl g] h (Q_X12_readText h f g) := by
  refine ct_of pn_X12_readText (Nat.le_of_ble_eq_true rfl) ?_
  show To l E_X12_readText (0, [(0, .inr (.inr 60)), (1, .inl f), (2, .inl g)], [], h, 0, 0) _
  obtain ⟨x1, ex1⟩ : ∃ y : Int, h.2.2 60 25 = y := ⟨_, rfl⟩
  have rx1 := hI.atR (a := 60) (j := 25) rfl
  rw [ex1] at rx1
  refine to_aload_n (dat dk_X12_readText 0 rfl) rfl (to_iconst (dat dk_X12_readText 1 rfl) (to_putIw p_c13_165 (dat dk_X12_readText 2 rfl) (hI.atS rfl) ?_))
  intro h4 wh4
  have I2 : Inv h4 := by rw [wh4]; exact hI.put (a := 60) (j := 25) (x := 0) (0) (4000) rfl rfl (show (0 : Int) ≤ 0 ∧ 0 ≤ 4000 by decide)
  have f3 : Fr [75, 76, 77, 78, 79, 80, 81, 82, 223, 225, 226, 228, 229, 233] h h4 := by rw [wh4]; exact Fr.putF (a := 60) (j := 25) (x := 0) (Fr.rf _ _) rfl
  have t5 : tsum h4 = tsum h := by rw [wh4]; exact tsum_wr (by decide)
  refine to_aload_n (dat dk_X12_readText 3 rfl) rfl (to_iconst (dat dk_X12_readText 4 rfl) (to_putIw p_c13_251 (dat dk_X12_readText 5 rfl) (I2.atS rfl) ?_))
  intro h8 wh8
  have I6 : Inv h8 := by rw [wh8]; exact I2.put (a := 60) (j := 29) (x := 0) (0) (4000) rfl rfl (show (0 : Int) ≤ 0 ∧ 0 ≤ 4000 by decide)
  have f7 : Fr [75, 76, 77, 78, 79, 80, 81, 82, 223, 225, 226, 228, 229, 233] h h8 := by rw [wh8]; exact Fr.putF (a := 60) (j := 29) (x := 0) f3 rfl
  have z9 : tsum h8 = 0 ∧ Tok h8 := by rw [wh8]; exact tok0
  obtain ⟨z9, z10⟩ := z9
  refine to_aload_n (dat dk_X12_readText 6 rfl) rfl (to_iload_n (dat dk_X12_readText 7 rfl) rfl (to_iload_n (dat dk_X12_readText 8 rfl) rfl (to_iconst (dat dk_X12_readText 9 rfl) ?_)))
  have e11 : h8.2.2 60 29 = (0 : Int) := (by rw [wh8]; exact wr_eq)
  refine to_cV ca_c13_271 (dat dk_X12_readText 10 rfl) (ct_X12_push_vb l h8 I6 f hf g hg 1 (by decide) (show 0 ≤ f ∧ f ≤ 240000 by omega) (show 0 ≤ g ∧ g ≤ 240000 by omega) (show 0 ≤ (1 : Int) ∧ (1 : Int) ≤ 5 by omega) (show h8.2.2 60 29 ≤ 3999 by omega)) rfl ⟨_, _, rfl, (I6.atS rfl)⟩ rfl (fun h13 p14 => ?_)
  obtain ⟨Ih13, fh13, p14_0⟩ := p14
  have f15 : Fr [75, 76, 77, 78, 79, 80, 81, 82, 223, 225, 226, 228, 229, 233] h h13 := Fr.sub f7 fh13 rfl
  have q16 := PushP.sum2 p14_0 (I6.atR (a := 60) (j := 29) rfl).1
  have q17 : Tok h13 := PushP.tok p14_0 (I6.atR (a := 60) (j := 29) rfl).1 z10 (by omega)
  have e20 : h13.2.2 60 25 = (0 : Int) := ((Fr.get fh13 (by have := I6.1.1; omega) rfl).trans (by rw [wh8]; exact (show h4.2.2 60 25 = (0 : Int) from (by rw [wh4]; exact wr_eq))))
  have lp17_n22 : ∀ (n22 : Nat) (h18 : Hp), (Inv h18) → (Fr [75, 76, 77, 78, 79, 80, 81, 82, 223, 225, 226, 228, 229, 233] h h18) → (Tok h18) → (tsum h18 + h18.2.2 60 25 ≤ g - f + 1) → (tsum h18 ≤ (n22 : Int)) → To l E_X12_readText (17, [(0, .inr (.inr 60)), (1, .inl f), (2, .inl g)], [], h18, 0, 0) (Q_X12_readText h f g) := by
    intro n22
    induction n22 using Nat.strongRecOn with
    | _ n22 ihn22 =>
    intro h18 Ih18 fh18 c19 c21 c23
    obtain ⟨x24, ex24⟩ : ∃ y : Int, h18.2.2 60 25 = y := ⟨_, rfl⟩
    have rx24 := Ih18.atR (a := 60) (j := 25) rfl
    rw [ex24] at rx24
    refine to_aload_n (dat dk_X12_readText 11 rfl) rfl ?_
    have z25 := (Ih18.atR (a := 60) (j := 29) rfl).1
    have z26 := tok_len c19 z25
    obtain ⟨x27, ex27⟩ : ∃ y : Int, h18.2.2 60 29 = y := ⟨_, rfl⟩
    have rx27 := Ih18.atR (a := 60) (j := 29) rfl
    rw [ex27] at rx27
    refine to_getIv (y := x27) ex27 g_c13_251 (dat dk_X12_readText 12 rfl) (Ih18.atS rfl) ?_
    refine to_ifle 88 (dat dk_X12_readText 13 rfl) rfl (by omega) (fun c28 => ?_) (fun c28 => ?_)
    · skip
      exact to_vret rfl (dat dk_X12_readText 49 rfl) (rv_mk ⟨Ih18, fh18, (show h18.2.2 60 25 ≤ g - f + 1 by omega)⟩)
    · skip
      refine to_aload_n (dat dk_X12_readText 14 rfl) rfl (to_dup (dat dk_X12_readText 15 rfl) rfl (to_getIv (y := x27) ex27 g_c13_251 (dat dk_X12_readText 16 rfl) (Ih18.atS rfl) (to_iconst (dat dk_X12_readText 17 rfl) (to_isub (dat dk_X12_readText 18 rfl) (to_putIw p_c13_251 (dat dk_X12_readText 19 rfl) (Ih18.atS rfl) ?_)))))
      intro h31 wh31
      have I29 : Inv h31 := by rw [wh31]; exact Ih18.put (a := 60) (j := 29) (x := (x27 - 1)) (0) (4000) rfl rfl (show (0 : Int) ≤ (x27 - 1) ∧ (x27 - 1) ≤ 4000 by omega)
      have f30 : Fr [75, 76, 77, 78, 79, 80, 81, 82, 223, 225, 226, 228, 229, 233] h h31 := by rw [wh31]; exact Fr.putF (a := 60) (j := 29) (x := (x27 - 1)) fh18 rfl
      have z32 : Tok h31 := by rw [wh31]; exact Tok_pop ex27 c19
      have z33 : tsum h18 = tsum h31 + tc h31 (Int.toNat (x27 - 1)) := by rw [wh31]; exact tsum_pop ex27 (by omega)
      have z34 := tc_cases ex27 (by omega) c19 wh31
      have z35 := (I29.atR (a := 60) (j := 29) rfl).1
      have z36 := tok_len z32 z35
      refine to_aload_n (dat dk_X12_readText 20 rfl) rfl (to_getR 80 g_c13_75 (dat dk_X12_readText 21 rfl) (I29.atS rfl) (I29.atE rfl) (to_aload_n (dat dk_X12_readText 22 rfl) rfl (to_getIv (y := (x27 - 1)) (by rw [wh31]; exact wr_eq) g_c13_251 (dat dk_X12_readText 23 rfl) (I29.atS rfl) ?_)))
      obtain ⟨x37, ex37⟩ : ∃ y : Int, h31.2.2 80 (Int.toNat (x27 - 1)) = y := ⟨_, rfl⟩
      have rx37 := I29.atR (a := 80) (j := Int.toNat (x27 - 1)) rfl
      rw [ex37] at rx37
      refine to_ialdv ex37 (dat dk_X12_readText 24 rfl) (I29.atS rfl) rfl (by decide) (by omega) (to_istore_n (L' := [(0, .inr (.inr 60)), (1, .inl f), (2, .inl g), (3, .inl x37)]) (dat dk_X12_readText 25 rfl) (by decide) rfl (to_iload_n (dat dk_X12_readText 26 rfl) rfl ?_))
      refine to_ifne 57 (dat dk_X12_readText 27 rfl) rfl (by omega) (fun c38 => ?_) (fun c38 => ?_)
      · skip
        refine to_iload_n (dat dk_X12_readText 32 rfl) rfl (to_iconst (dat dk_X12_readText 33 rfl) ?_)
        refine to_igt 85 (dat dk_X12_readText 34 rfl) rfl (by omega) (by decide) (fun c39 => ?_) (fun c39 => ?_)
        · skip
          refine to_goto (dat dk_X12_readText 48 rfl) rfl ?_
          refine to_pick [0, 1, 2] rfl ?_
          have e40 : h31.2.2 60 25 = x24 := (by rw [wh31]; exact ex24)
          exact ihn22 (n22 - 1) (by omega) h31 I29 f30 z32 (show tsum h31 + h31.2.2 60 25 ≤ g - f + 1 by omega) (show tsum h31 ≤ ((n22 - 1 : Nat) : Int) by omega)
        · skip
          refine to_aload_n (dat dk_X12_readText 35 rfl) rfl (to_aload_n (dat dk_X12_readText 36 rfl) rfl (to_getR 78 g_c13_69 (dat dk_X12_readText 37 rfl) (I29.atS rfl) (I29.atE rfl) (to_aload_n (dat dk_X12_readText 38 rfl) rfl (to_getIv (y := (x27 - 1)) (by rw [wh31]; exact wr_eq) g_c13_251 (dat dk_X12_readText 39 rfl) (I29.atS rfl) ?_))))
          obtain ⟨x41, ex41⟩ : ∃ y : Int, h31.2.2 78 (Int.toNat (x27 - 1)) = y := ⟨_, rfl⟩
          have rx41 := I29.atR (a := 78) (j := Int.toNat (x27 - 1)) rfl
          rw [ex41] at rx41
          refine to_ialdv ex41 (dat dk_X12_readText 40 rfl) (I29.atS rfl) rfl (by decide) (by omega) (to_aload_n (dat dk_X12_readText 41 rfl) rfl (to_getR 79 g_c13_72 (dat dk_X12_readText 42 rfl) (I29.atS rfl) (I29.atE rfl) (to_aload_n (dat dk_X12_readText 43 rfl) rfl (to_getIv (y := (x27 - 1)) (by rw [wh31]; exact wr_eq) g_c13_251 (dat dk_X12_readText 44 rfl) (I29.atS rfl) ?_))))
          obtain ⟨x42, ex42⟩ : ∃ y : Int, h31.2.2 79 (Int.toNat (x27 - 1)) = y := ⟨_, rfl⟩
          have rx42 := I29.atR (a := 79) (j := Int.toNat (x27 - 1)) rfl
          rw [ex42] at rx42
          refine to_ialdv ex42 (dat dk_X12_readText 45 rfl) (I29.atS rfl) rfl (by decide) (by omega) (to_iload_n (dat dk_X12_readText 46 rfl) rfl ?_)
          have e43 : h31.2.2 60 25 = x24 := (by rw [wh31]; exact ex24)
          refine to_cV ca_c13_287 (dat dk_X12_readText 47 rfl) (ct_X12_readBody l h31 I29 x41 (by omega) x42 (by omega) x37 (by omega) (show 0 ≤ x41 ∧ x41 ≤ x42 by omega) (show x42 ≤ 240000 by omega) (show x42 - x41 ≤ 1200 by omega) (show 1 ≤ x37 ∧ x37 ≤ 4 by omega) z32 (show h31.2.2 60 25 + tsum h31 + (x42 - x41) ≤ 1400 by omega)) rfl ⟨_, _, rfl, (I29.atS rfl)⟩ rfl (fun h45 p46 => ?_)
          obtain ⟨Ih45, fh45, p46_0, p46_1, p46_2, p46_3⟩ := p46
          have f47 : Fr [75, 76, 77, 78, 79, 80, 81, 82, 223, 225, 226, 228, 229, 233] h h45 := Fr.sub f30 fh45 (sub_self _)
          obtain ⟨x48, ex48⟩ : ∃ y : Int, h45.2.2 60 25 = y := ⟨_, rfl⟩
          have rx48 := Ih45.atR (a := 60) (j := 25) rfl
          rw [ex48] at rx48
          refine to_goto (dat dk_X12_readText 48 rfl) rfl ?_
          refine to_pick [0, 1, 2] rfl ?_
          exact ihn22 (n22 - 1) (by omega) h45 Ih45 f47 p46_0 (show tsum h45 + h45.2.2 60 25 ≤ g - f + 1 by omega) (show tsum h45 ≤ ((n22 - 1 : Nat) : Int) by omega)
      · skip
        refine to_aload_n (dat dk_X12_readText 28 rfl) rfl (to_bipush (dat dk_X12_readText 29 rfl) (by decide) ?_)
        have e49 : h31.2.2 60 25 = x24 := (by rw [wh31]; exact ex24)
        refine to_cV ca_c13_211 (dat dk_X12_readText 30 rfl) (ct_X12_put l h31 I29 10 (by decide) (show h31.2.2 60 25 ≤ 3999 by omega)) rfl ⟨_, _, rfl, (I29.atS rfl)⟩ rfl (fun h51 p52 => ?_)
        obtain ⟨Ih51, fh51, p52_0⟩ := p52
        have f53 : Fr [75, 76, 77, 78, 79, 80, 81, 82, 223, 225, 226, 228, 229, 233] h h51 := Fr.sub f30 fh51 rfl
        have t54 : tsum h51 = tsum h31 := tsum_fr fh51 I29 rfl
        have t55 : Tok h51 := Tok_fr fh51 I29 rfl z32
        obtain ⟨x56, ex56⟩ : ∃ y : Int, h51.2.2 60 25 = y := ⟨_, rfl⟩
        have rx56 := Ih51.atR (a := 60) (j := 25) rfl
        rw [ex56] at rx56
        refine to_goto (dat dk_X12_readText 31 rfl) rfl (to_goto (dat dk_X12_readText 48 rfl) rfl ?_)
        refine to_pick [0, 1, 2] rfl ?_
        exact ihn22 (n22 - 1) (by omega) h51 Ih51 f53 t55 (show tsum h51 + h51.2.2 60 25 ≤ g - f + 1 by omega) (show tsum h51 ≤ ((n22 - 1 : Nat) : Int) by omega)
  exact lp17_n22 (tsum h13).toNat h13 Ih13 f15 q17 (show tsum h13 + h13.2.2 60 25 ≤ g - f + 1 by omega) (by omega)
