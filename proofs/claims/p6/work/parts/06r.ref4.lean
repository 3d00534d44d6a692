/-! Contracts, by program. -/
abbrev Q_X12_isWord (h : Hp) (b : Int) : Option V → Hp → Nat → Nat → Prop := RI (fun x H => h = H ∧ (x = 0 ∨ x = 1))
set_option maxRecDepth 100000 in
theorem ct_X12_isWord (l : Launch) (h : Hp) (hI : Inv h) (b : Int) (hb : I32 b) : Ct l D_X12_isWord 2 40 [.inl b] h (Q_X12_isWord h b) := by
  refine ct_of pn_X12_isWord (Nat.le_of_ble_eq_true rfl) ?_
  show To l E_X12_isWord (0, [(0, .inl b)], [], h, 0, 0) _
  refine to_iload_n (dat dk_X12_isWord 0 rfl) rfl ?_
  refine to_iflt 24 (dat dk_X12_isWord 1 rfl) rfl hb (fun c1 => ?_) (fun c1 => ?_)
  · skip
    refine to_iconst (dat dk_X12_isWord 11 rfl) (to_goto (dat dk_X12_isWord 12 rfl) rfl ?_)
    exact to_zret rfl (dat dk_X12_isWord 14 rfl) (by decide) (ri_mk (by decide) ⟨rfl, (by decide)⟩)
  · skip
    refine to_iload_n (dat dk_X12_isWord 2 rfl) rfl (to_bipush (dat dk_X12_isWord 3 rfl) (by decide) ?_)
    refine to_igt 24 (dat dk_X12_isWord 4 rfl) rfl hb (by decide) (fun c2 => ?_) (fun c2 => ?_)
    · skip
      refine to_iconst (dat dk_X12_isWord 11 rfl) (to_goto (dat dk_X12_isWord 12 rfl) rfl ?_)
      exact to_zret rfl (dat dk_X12_isWord 14 rfl) (by decide) (ri_mk (by decide) ⟨rfl, (by decide)⟩)
    · skip
      refine to_iload_n (dat dk_X12_isWord 5 rfl) rfl ?_
      refine to_cI ca_c13_168 (dat dk_X12_isWord 6 rfl) (ct_X12_isLetter l h hI b hb) rfl trivial rfl (fun x3 h4 rx3 p5 => ?_)
      obtain ⟨rfl, zx3⟩ := p5
      refine to_ifne 24 (dat dk_X12_isWord 7 rfl) rfl rx3 (fun c6 => ?_) (fun c6 => ?_)
      · skip
        refine to_iconst (dat dk_X12_isWord 11 rfl) (to_goto (dat dk_X12_isWord 12 rfl) rfl ?_)
        exact to_zret rfl (dat dk_X12_isWord 14 rfl) (by decide) (ri_mk (by decide) ⟨rfl, (by decide)⟩)
      · skip
        refine to_iload_n (dat dk_X12_isWord 8 rfl) rfl ?_
        refine to_cI ca_c13_161 (dat dk_X12_isWord 9 rfl) (ct_X12_isDigit l h hI b hb) rfl trivial rfl (fun x7 h8 rx7 p9 => ?_)
        obtain ⟨rfl, zx7, p9_0⟩ := p9
        refine to_ifeq 28 (dat dk_X12_isWord 10 rfl) rfl rx7 (fun c10 => ?_) (fun c10 => ?_)
        · skip
          refine to_iconst (dat dk_X12_isWord 13 rfl) ?_
          exact to_zret rfl (dat dk_X12_isWord 14 rfl) (by decide) (ri_mk (by decide) ⟨rfl, (by decide)⟩)
        · skip
          refine to_iconst (dat dk_X12_isWord 11 rfl) (to_goto (dat dk_X12_isWord 12 rfl) rfl ?_)
          exact to_zret rfl (dat dk_X12_isWord 14 rfl) (by decide) (ri_mk (by decide) ⟨rfl, (by decide)⟩)
abbrev Q_X12_isLeap (h : Hp) (y : Int) : Option V → Hp → Nat → Nat → Prop := RI (fun x H => h = H ∧ (x = 0 ∨ x = 1))
set_option maxRecDepth 100000 in
theorem ct_X12_isLeap (l : Launch) (h : Hp) (hI : Inv h) (y : Int) (hy : I32 y) : Ct l D_X12_isLeap 0 0 [.inl y] h (Q_X12_isLeap h y) := by
  refine ct_of pn_X12_isLeap (Nat.le_of_ble_eq_true rfl) ?_
  show To l E_X12_isLeap (0, [(0, .inl y)], [], h, 0, 0) _
  refine to_iload_n (dat dk_X12_isLeap 0 rfl) rfl (to_iconst (dat dk_X12_isLeap 1 rfl) ?_)
  refine to_irem (dat dk_X12_isLeap 2 rfl) (by decide) (fun x1 rx1 => ?_)
  refine to_ifne 25 (dat dk_X12_isLeap 3 rfl) rfl rx1 (fun c2 => ?_) (fun c2 => ?_)
  · skip
    refine to_iconst (dat dk_X12_isLeap 14 rfl) ?_
    exact to_zret rfl (dat dk_X12_isLeap 15 rfl) (by decide) (ri_mk (by decide) ⟨rfl, (by decide)⟩)
  · skip
    refine to_iload_n (dat dk_X12_isLeap 4 rfl) rfl (to_bipush (dat dk_X12_isLeap 5 rfl) (by decide) ?_)
    refine to_irem (dat dk_X12_isLeap 6 rfl) (by decide) (fun x3 rx3 => ?_)
    refine to_ifne 21 (dat dk_X12_isLeap 7 rfl) rfl rx3 (fun c4 => ?_) (fun c4 => ?_)
    · skip
      refine to_iconst (dat dk_X12_isLeap 12 rfl) (to_goto (dat dk_X12_isLeap 13 rfl) rfl ?_)
      exact to_zret rfl (dat dk_X12_isLeap 15 rfl) (by decide) (ri_mk (by decide) ⟨rfl, (by decide)⟩)
    · skip
      refine to_iload_n (dat dk_X12_isLeap 8 rfl) rfl (to_sipush (dat dk_X12_isLeap 9 rfl) (by decide) ?_)
      refine to_irem (dat dk_X12_isLeap 10 rfl) (by decide) (fun x5 rx5 => ?_)
      refine to_ifne 25 (dat dk_X12_isLeap 11 rfl) rfl rx5 (fun c6 => ?_) (fun c6 => ?_)
      · skip
        refine to_iconst (dat dk_X12_isLeap 14 rfl) ?_
        exact to_zret rfl (dat dk_X12_isLeap 15 rfl) (by decide) (ri_mk (by decide) ⟨rfl, (by decide)⟩)
      · skip
        refine to_iconst (dat dk_X12_isLeap 12 rfl) (to_goto (dat dk_X12_isLeap 13 rfl) rfl ?_)
        exact to_zret rfl (dat dk_X12_isLeap 15 rfl) (by decide) (ri_mk (by decide) ⟨rfl, (by decide)⟩)
abbrev Q_X12_monthDays (h : Hp) (y : Int) (m : Int) : Option V → Hp → Nat → Nat → Prop := RI (fun x H => h = H ∧ (28 ≤ x ∧ x ≤ 31))
set_option maxRecDepth 100000 in
theorem ct_X12_monthDays (l : Launch) (h : Hp) (hI : Inv h) (y : Int) (hy : I32 y) (m : Int) (hm : I32 m) : Ct l D_X12_monthDays 1 20 [.inl y, .inl m] h (Q_X12_monthDays h y m) := by
  refine ct_of pn_X12_monthDays (Nat.le_of_ble_eq_true rfl) ?_
  show To l E_X12_monthDays (0, [(0, .inl y), (1, .inl m)], [], h, 0, 0) _
  refine to_iload_n (dat dk_X12_monthDays 0 rfl) rfl (to_iconst (dat dk_X12_monthDays 1 rfl) ?_)
  refine to_ine 22 (dat dk_X12_monthDays 2 rfl) rfl hm (by decide) (fun c1 => ?_) (fun c1 => ?_)
  · skip
    refine to_iload_n (dat dk_X12_monthDays 10 rfl) rfl (to_iconst (dat dk_X12_monthDays 11 rfl) ?_)
    refine to_ieq 45 (dat dk_X12_monthDays 12 rfl) rfl hm (by decide) (fun c2 => ?_) (fun c2 => ?_)
    · skip
      refine to_bipush (dat dk_X12_monthDays 22 rfl) (by decide) (to_goto (dat dk_X12_monthDays 23 rfl) rfl ?_)
      exact to_iret rfl (dat dk_X12_monthDays 25 rfl) (ri_mk (by decide) ⟨rfl, (show 28 ≤ (30 : Int) ∧ (30 : Int) ≤ 31 by omega)⟩)
    · skip
      refine to_iload_n (dat dk_X12_monthDays 13 rfl) rfl (to_bipush (dat dk_X12_monthDays 14 rfl) (by decide) ?_)
      refine to_ieq 45 (dat dk_X12_monthDays 15 rfl) rfl hm (by decide) (fun c3 => ?_) (fun c3 => ?_)
      · skip
        refine to_bipush (dat dk_X12_monthDays 22 rfl) (by decide) (to_goto (dat dk_X12_monthDays 23 rfl) rfl ?_)
        exact to_iret rfl (dat dk_X12_monthDays 25 rfl) (ri_mk (by decide) ⟨rfl, (show 28 ≤ (30 : Int) ∧ (30 : Int) ≤ 31 by omega)⟩)
      · skip
        refine to_iload_n (dat dk_X12_monthDays 16 rfl) rfl (to_bipush (dat dk_X12_monthDays 17 rfl) (by decide) ?_)
        refine to_ieq 45 (dat dk_X12_monthDays 18 rfl) rfl hm (by decide) (fun c4 => ?_) (fun c4 => ?_)
        · skip
          refine to_bipush (dat dk_X12_monthDays 22 rfl) (by decide) (to_goto (dat dk_X12_monthDays 23 rfl) rfl ?_)
          exact to_iret rfl (dat dk_X12_monthDays 25 rfl) (ri_mk (by decide) ⟨rfl, (show 28 ≤ (30 : Int) ∧ (30 : Int) ≤ 31 by omega)⟩)
        · skip
          refine to_iload_n (dat dk_X12_monthDays 19 rfl) rfl (to_bipush (dat dk_X12_monthDays 20 rfl) (by decide) ?_)
          refine to_ine 50 (dat dk_X12_monthDays 21 rfl) rfl hm (by decide) (fun c5 => ?_) (fun c5 => ?_)
          · skip
            refine to_bipush (dat dk_X12_monthDays 24 rfl) (by decide) ?_
            exact to_iret rfl (dat dk_X12_monthDays 25 rfl) (ri_mk (by decide) ⟨rfl, (show 28 ≤ (31 : Int) ∧ (31 : Int) ≤ 31 by omega)⟩)
          · skip
            refine to_bipush (dat dk_X12_monthDays 22 rfl) (by decide) (to_goto (dat dk_X12_monthDays 23 rfl) rfl ?_)
            exact to_iret rfl (dat dk_X12_monthDays 25 rfl) (ri_mk (by decide) ⟨rfl, (show 28 ≤ (30 : Int) ∧ (30 : Int) ≤ 31 by omega)⟩)
  · skip
    refine to_iload_n (dat dk_X12_monthDays 3 rfl) rfl ?_
    refine to_cI ca_c13_300 (dat dk_X12_monthDays 4 rfl) (ct_X12_isLeap l h hI y hy) rfl trivial rfl (fun x6 h7 rx6 p8 => ?_)
    obtain ⟨rfl, zx6⟩ := p8
    refine to_ifeq 17 (dat dk_X12_monthDays 5 rfl) rfl rx6 (fun c9 => ?_) (fun c9 => ?_)
    · skip
      refine to_bipush (dat dk_X12_monthDays 8 rfl) (by decide) (to_goto (dat dk_X12_monthDays 9 rfl) rfl ?_)
      exact to_iret rfl (dat dk_X12_monthDays 25 rfl) (ri_mk (by decide) ⟨rfl, (show 28 ≤ (28 : Int) ∧ (28 : Int) ≤ 31 by omega)⟩)
    · skip
      refine to_bipush (dat dk_X12_monthDays 6 rfl) (by decide) (to_goto (dat dk_X12_monthDays 7 rfl) rfl ?_)
      exact to_iret rfl (dat dk_X12_monthDays 25 rfl) (ri_mk (by decide) ⟨rfl, (show 28 ≤ (29 : Int) ∧ (29 : Int) ≤ 31 by omega)⟩)
abbrev Q_X12_feed (h : Hp) (a : Int) (b : Int) (c : Int) (d : Int) (e : Int) : Option V → Hp → Nat → Nat → Prop := RV (fun H => Inv H ∧ Fr [61, 200] h H)
set_option maxRecDepth 100000 in
theorem ct_X12_feed (l : Launch) (h : Hp) (hI : Inv h) (a : Int) (ha : I32 a) (b : Int) (hb : I32 b) (c : Int) (hc : I32 c) (d : Int) (hd : I32 d) (e : Int) (he : I32 e) : Ct l D_X12_feed 0 0 [.inr (.inr 60), .inl a, .inl b, .inl c, .inl d, .inl e] h (Q_X12_feed h a b c d e) := by
  refine ct_of pn_X12_feed (Nat.le_of_ble_eq_true rfl) ?_
  show To l E_X12_feed (0, [(0, .inr (.inr 60)), (1, .inl a), (2, .inl b), (3, .inl c), (4, .inl d), (5, .inl e)], [], h, 0, 0) _
  refine to_aload_n (dat dk_X12_feed 0 rfl) rfl (to_iconst (dat dk_X12_feed 1 rfl) (to_putIw p_c13_154 (dat dk_X12_feed 2 rfl) (hI.atS rfl) ?_))
  intro h3 wh3
  have I1 : Inv h3 := by rw [wh3]; exact hI.put (a := 60) (j := 0) (x := 0) (0) (3) rfl rfl (show (0 : Int) ≤ 0 ∧ 0 ≤ 3 by decide)
  have f2 : Fr [61, 200] h h3 := by rw [wh3]; exact Fr.putF (a := 60) (j := 0) (x := 0) (Fr.rf _ _) rfl
  refine to_iconst (dat dk_X12_feed 3 rfl) (to_istore (L' := [(0, .inr (.inr 60)), (1, .inl a), (2, .inl b), (3, .inl c), (4, .inl d), (5, .inl e), (6, .inl 0)]) (dat dk_X12_feed 4 rfl) (by decide) rfl ?_)
  have lp8_n7 : ∀ (n7 : Nat) (y4 : Int) (h5 : Hp), (I32 y4) → (Inv h5) → (Fr [61, 200] h h5) → (0 ≤ y4) → (20 - y4 ≤ (n7 : Int)) → To l E_X12_feed (8, [(0, .inr (.inr 60)), (1, .inl a), (2, .inl b), (3, .inl c), (4, .inl d), (5, .inl e), (6, .inl y4)], [], h5, 0, 0) (Q_X12_feed h a b c d e) := by
    intro n7
    induction n7 using Nat.strongRecOn with
    | _ n7 ihn7 =>
    intro y4 h5 ry4 Ih5 fh5 c6 c8
    refine to_iload (dat dk_X12_feed 5 rfl) rfl (to_bipush (dat dk_X12_feed 6 rfl) (by decide) ?_)
    refine to_ige 90 (dat dk_X12_feed 7 rfl) rfl ry4 (by decide) (fun c9 => ?_) (fun c9 => ?_)
    · skip
      exact to_vret rfl (dat dk_X12_feed 46 rfl) (rv_mk ⟨Ih5, fh5⟩)
    · skip
      have jn61_n11 : ∀ (y10 : Int), (I32 y10) → To l E_X12_feed (61, [(0, .inr (.inr 60)), (1, .inl a), (2, .inl b), (3, .inl c), (4, .inl d), (5, .inl e), (6, .inl y4)], [.inl y10], h5, 0, 0) (Q_X12_feed h a b c d e) := by
        intro y10 ry10
        refine to_istore (L' := [(0, .inr (.inr 60)), (1, .inl a), (2, .inl b), (3, .inl c), (4, .inl d), (5, .inl e), (6, .inl y4), (7, .inl y10)]) (dat dk_X12_feed 29 rfl) (by decide) rfl (to_aload_n (dat dk_X12_feed 30 rfl) rfl (to_getR 61 g_c13_7 (dat dk_X12_feed 31 rfl) (Ih5.atS rfl) (Ih5.atE rfl) (to_iload (dat dk_X12_feed 32 rfl) rfl (to_iload (dat dk_X12_feed 33 rfl) rfl (to_bipush (dat dk_X12_feed 34 rfl) (by decide) (to_bipush (dat dk_X12_feed 35 rfl) (by decide) (to_iload (dat dk_X12_feed 36 rfl) rfl (to_iconst (dat dk_X12_feed 37 rfl) ?_))))))))
        refine to_irem (dat dk_X12_feed 38 rfl) (by decide) (fun x12 rx12 => ?_)
        refine to_imulA (dat dk_X12_feed 39 rfl) (fun x13 rx13 => ?_)
        refine to_isubA (dat dk_X12_feed 40 rfl) (fun x14 rx14 => ?_)
        refine to_ishr (dat dk_X12_feed 41 rfl) (fun x15 rx15 => ?_)
        refine to_i2b (dat dk_X12_feed 42 rfl) (to_bastw (dat dk_X12_feed 43 rfl) (Ih5.atS rfl) rfl (by decide) (by omega) ?_)
        intro h18 wh18
        have I16 : Inv h18 := by rw [wh18]; exact Ih5.put (a := 61) (j := (Int.toNat y4)) (x := (b8 (b8 x15))) (-128) (127) rfl rfl (show (-128 : Int) ≤ (b8 (b8 x15)) ∧ (b8 (b8 x15)) ≤ 127 by have := b8_in (b8 x15); omega)
        have f17 : Fr [61, 200] h h18 := by rw [wh18]; exact Fr.putF (a := 61) (j := (Int.toNat y4)) (x := (b8 (b8 x15))) fh5 rfl
        refine to_iinc (L' := [(0, .inr (.inr 60)), (1, .inl a), (2, .inl b), (3, .inl c), (4, .inl d), (5, .inl e), (6, .inl (y4 + 1)), (7, .inl y10)]) (dat dk_X12_feed 44 rfl) rfl (by decide) rfl (to_goto (dat dk_X12_feed 45 rfl) rfl ?_)
        refine to_pick [0, 1, 2, 3, 4, 5, 6] rfl ?_
        exact ihn7 (n7 - 1) (by omega) (y4 + 1) h18 (by omega) I16 f17 (show 0 ≤ (y4 + 1) by omega) (show 20 - (y4 + 1) ≤ ((n7 - 1 : Nat) : Int) by omega)
      refine to_iload (dat dk_X12_feed 8 rfl) rfl (to_iconst (dat dk_X12_feed 9 rfl) ?_)
      refine to_ige 25 (dat dk_X12_feed 10 rfl) rfl ry4 (by decide) (fun c19 => ?_) (fun c19 => ?_)
      · skip
        refine to_iload (dat dk_X12_feed 13 rfl) rfl (to_bipush (dat dk_X12_feed 14 rfl) (by decide) ?_)
        refine to_ige 36 (dat dk_X12_feed 15 rfl) rfl ry4 (by decide) (fun c20 => ?_) (fun c20 => ?_)
        · skip
          refine to_iload (dat dk_X12_feed 18 rfl) rfl (to_bipush (dat dk_X12_feed 19 rfl) (by decide) ?_)
          refine to_ige 47 (dat dk_X12_feed 20 rfl) rfl ry4 (by decide) (fun c21 => ?_) (fun c21 => ?_)
          · skip
            refine to_iload (dat dk_X12_feed 23 rfl) rfl (to_bipush (dat dk_X12_feed 24 rfl) (by decide) ?_)
            refine to_ige 59 (dat dk_X12_feed 25 rfl) rfl ry4 (by decide) (fun c22 => ?_) (fun c22 => ?_)
            · skip
              refine to_iload (dat dk_X12_feed 28 rfl) rfl ?_
              exact jn61_n11 e he
            · skip
              refine to_iload (dat dk_X12_feed 26 rfl) rfl (to_goto (dat dk_X12_feed 27 rfl) rfl ?_)
              exact jn61_n11 d hd
          · skip
            refine to_iload_n (dat dk_X12_feed 21 rfl) rfl (to_goto (dat dk_X12_feed 22 rfl) rfl ?_)
            exact jn61_n11 c hc
        · skip
          refine to_iload_n (dat dk_X12_feed 16 rfl) rfl (to_goto (dat dk_X12_feed 17 rfl) rfl ?_)
          exact jn61_n11 b hb
      · skip
        refine to_iload_n (dat dk_X12_feed 11 rfl) rfl (to_goto (dat dk_X12_feed 12 rfl) rfl ?_)
        exact jn61_n11 a ha
  exact lp8_n7 (20 - (0 : Int)).toNat 0 h3 (by decide) I1 f2 (show 0 ≤ (0 : Int) by omega) (by omega)
abbrev Q_X12_end (h : Hp) (n : Int) : Option V → Hp → Nat → Nat → Prop := RI (fun x H => Inv H ∧ Fr [61, 62, 200, 203] h H ∧ ((x = -1 ∧ H.2.2 60 3 = h.2.2 60 3 ∧ (n < 0 ∨ 20 < n ∨ 1200 < h.2.2 60 3 + n)) ∨ (x = h.2.2 60 3 + n ∧ H.2.2 60 3 = h.2.2 60 3 + n ∧ 0 ≤ n ∧ n ≤ 20 ∧ h.2.2 60 3 + n ≤ 1200)))
set_option maxRecDepth 100000 in
theorem ct_X12_end (l : Launch) (h : Hp) (hI : Inv h) (n : Int) (hn : I32 n) : Ct l D_X12_end 0 0 [.inr (.inr 60), .inl n] h (Q_X12_end h n) := by
  refine ct_of pn_X12_end (Nat.le_of_ble_eq_true rfl) ?_
  show To l E_X12_end (0, [(0, .inr (.inr 60)), (1, .inl n)], [], h, 0, 0) _
  obtain ⟨x1, ex1⟩ : ∃ y : Int, h.2.2 60 3 = y := ⟨_, rfl⟩
  have rx1 := hI.atR (a := 60) (j := 3) rfl
  rw [ex1] at rx1
  refine to_aload_n (dat dk_X12_end 0 rfl) rfl (to_iconst (dat dk_X12_end 1 rfl) (to_putIw p_c13_154 (dat dk_X12_end 2 rfl) (hI.atS rfl) ?_))
  intro h4 wh4
  have I2 : Inv h4 := by rw [wh4]; exact hI.put (a := 60) (j := 0) (x := 0) (0) (3) rfl rfl (show (0 : Int) ≤ 0 ∧ 0 ≤ 3 by decide)
  have f3 : Fr [61, 62, 200, 203] h h4 := by rw [wh4]; exact Fr.putF (a := 60) (j := 0) (x := 0) (Fr.rf _ _) rfl
  refine to_iload_n (dat dk_X12_end 3 rfl) rfl ?_
  refine to_iflt 27 (dat dk_X12_end 4 rfl) rfl hn (fun c5 => ?_) (fun c5 => ?_)
  · skip
    refine to_iconst (dat dk_X12_end 14 rfl) ?_
    have e6 : h4.2.2 60 3 = x1 := (by rw [wh4]; exact ex1)
    exact to_iret rfl (dat dk_X12_end 15 rfl) (ri_mk (by decide) ⟨I2, f3, (show ((-1 : Int) = -1 ∧ h4.2.2 60 3 = h.2.2 60 3 ∧ (n < 0 ∨ 20 < n ∨ 1200 < h.2.2 60 3 + n)) ∨ ((-1 : Int) = h.2.2 60 3 + n ∧ h4.2.2 60 3 = h.2.2 60 3 + n ∧ 0 ≤ n ∧ n ≤ 20 ∧ h.2.2 60 3 + n ≤ 1200) by omega)⟩)
  · skip
    refine to_iload_n (dat dk_X12_end 5 rfl) rfl (to_bipush (dat dk_X12_end 6 rfl) (by decide) ?_)
    refine to_igt 27 (dat dk_X12_end 7 rfl) rfl hn (by decide) (fun c7 => ?_) (fun c7 => ?_)
    · skip
      refine to_iconst (dat dk_X12_end 14 rfl) ?_
      have e8 : h4.2.2 60 3 = x1 := (by rw [wh4]; exact ex1)
      exact to_iret rfl (dat dk_X12_end 15 rfl) (ri_mk (by decide) ⟨I2, f3, (show ((-1 : Int) = -1 ∧ h4.2.2 60 3 = h.2.2 60 3 ∧ (n < 0 ∨ 20 < n ∨ 1200 < h.2.2 60 3 + n)) ∨ ((-1 : Int) = h.2.2 60 3 + n ∧ h4.2.2 60 3 = h.2.2 60 3 + n ∧ 0 ≤ n ∧ n ≤ 20 ∧ h.2.2 60 3 + n ≤ 1200) by omega)⟩)
    · skip
      refine to_aload_n (dat dk_X12_end 8 rfl) rfl (to_getIv (y := x1) (by rw [wh4]; exact ex1) g_c13_496 (dat dk_X12_end 9 rfl) (I2.atS rfl) (to_iload_n (dat dk_X12_end 10 rfl) rfl (to_iadd (dat dk_X12_end 11 rfl) (to_sipush (dat dk_X12_end 12 rfl) (by decide) ?_))))
      refine to_ile 29 (dat dk_X12_end 13 rfl) rfl (by omega) (by decide) (fun c9 => ?_) (fun c9 => ?_)
      · skip
        refine to_iconst (dat dk_X12_end 16 rfl) (to_istore_n (L' := [(0, .inr (.inr 60)), (1, .inl n), (2, .inl 0)]) (dat dk_X12_end 17 rfl) (by decide) rfl ?_)
        have e13 : h4.2.2 60 3 = x1 := (by rw [wh4]; exact ex1)
        have lp31_n15 : ∀ (n15 : Nat) (y10 : Int) (h11 : Hp), (I32 y10) → (Inv h11) → (Fr [61, 62, 200, 203] h h11) → (0 ≤ y10) → (h11.2.2 60 3 = h.2.2 60 3) → (n - y10 ≤ (n15 : Int)) → To l E_X12_end (31, [(0, .inr (.inr 60)), (1, .inl n), (2, .inl y10)], [], h11, 0, 0) (Q_X12_end h n) := by
          intro n15
          induction n15 using Nat.strongRecOn with
          | _ n15 ihn15 =>
          intro y10 h11 ry10 Ih11 fh11 c12 c14 c16
          obtain ⟨x17, ex17⟩ : ∃ y : Int, h11.2.2 60 3 = y := ⟨_, rfl⟩
          have rx17 := Ih11.atR (a := 60) (j := 3) rfl
          rw [ex17] at rx17
          refine to_iload_n (dat dk_X12_end 18 rfl) rfl (to_iload_n (dat dk_X12_end 19 rfl) rfl ?_)
          refine to_ige 59 (dat dk_X12_end 20 rfl) rfl ry10 hn (fun c18 => ?_) (fun c18 => ?_)
          · skip
            refine to_aload_n (dat dk_X12_end 34 rfl) rfl (to_dup (dat dk_X12_end 35 rfl) rfl (to_getIv (y := x17) ex17 g_c13_496 (dat dk_X12_end 36 rfl) (Ih11.atS rfl) (to_iload_n (dat dk_X12_end 37 rfl) rfl (to_iadd (dat dk_X12_end 38 rfl) (to_putIw p_c13_496 (dat dk_X12_end 39 rfl) (Ih11.atS rfl) ?_)))))
            intro h21 wh21
            have I19 : Inv h21 := by rw [wh21]; exact Ih11.put (a := 60) (j := 3) (x := (x17 + n)) (0) (1200) rfl rfl (show (0 : Int) ≤ (x17 + n) ∧ (x17 + n) ≤ 1200 by omega)
            have f20 : Fr [61, 62, 200, 203] h h21 := by rw [wh21]; exact Fr.putF (a := 60) (j := 3) (x := (x17 + n)) fh11 rfl
            refine to_iconst (dat dk_X12_end 40 rfl) (to_istore_n (L' := [(0, .inr (.inr 60)), (1, .inl n), (2, .inl 0)]) (dat dk_X12_end 41 rfl) (by decide) rfl ?_)
            have e25 : h21.2.2 60 3 = (x17 + n) := (by rw [wh21]; exact wr_eq)
            have lp71_n27 : ∀ (n27 : Nat) (y22 : Int) (h23 : Hp), (I32 y22) → (Inv h23) → (Fr [61, 62, 200, 203] h h23) → (0 ≤ y22) → (h23.2.2 60 3 = h.2.2 60 3 + n) → (20 - y22 ≤ (n27 : Int)) → To l E_X12_end (71, [(0, .inr (.inr 60)), (1, .inl n), (2, .inl y22)], [], h23, 0, 0) (Q_X12_end h n) := by
              intro n27
              induction n27 using Nat.strongRecOn with
              | _ n27 ihn27 =>
              intro y22 h23 ry22 Ih23 fh23 c24 c26 c28
              obtain ⟨x29, ex29⟩ : ∃ y : Int, h23.2.2 60 3 = y := ⟨_, rfl⟩
              have rx29 := Ih23.atR (a := 60) (j := 3) rfl
              rw [ex29] at rx29
              refine to_iload_n (dat dk_X12_end 42 rfl) rfl (to_bipush (dat dk_X12_end 43 rfl) (by decide) ?_)
              refine to_ige 90 (dat dk_X12_end 44 rfl) rfl ry22 (by decide) (fun c30 => ?_) (fun c30 => ?_)
              · skip
                refine to_aload_n (dat dk_X12_end 52 rfl) rfl (to_getIv (y := x29) ex29 g_c13_496 (dat dk_X12_end 53 rfl) (Ih23.atS rfl) ?_)
                exact to_iret rfl (dat dk_X12_end 54 rfl) (ri_mk (by omega) ⟨Ih23, fh23, (show (x29 = -1 ∧ h23.2.2 60 3 = h.2.2 60 3 ∧ (n < 0 ∨ 20 < n ∨ 1200 < h.2.2 60 3 + n)) ∨ (x29 = h.2.2 60 3 + n ∧ h23.2.2 60 3 = h.2.2 60 3 + n ∧ 0 ≤ n ∧ n ≤ 20 ∧ h.2.2 60 3 + n ≤ 1200) by omega)⟩)
              · skip
                refine to_aload_n (dat dk_X12_end 45 rfl) rfl (to_getR 61 g_c13_7 (dat dk_X12_end 46 rfl) (Ih23.atS rfl) (Ih23.atE rfl) (to_iload_n (dat dk_X12_end 47 rfl) rfl (to_iconst (dat dk_X12_end 48 rfl) (to_bastw (dat dk_X12_end 49 rfl) (Ih23.atS rfl) rfl (by decide) (by omega) ?_))))
                intro h33 wh33
                have I31 : Inv h33 := by rw [wh33]; exact Ih23.put (a := 61) (j := (Int.toNat y22)) (x := (b8 0)) (-128) (127) rfl rfl (show (-128 : Int) ≤ (b8 0) ∧ (b8 0) ≤ 127 by have := b8_in 0; omega)
                have f32 : Fr [61, 62, 200, 203] h h33 := by rw [wh33]; exact Fr.putF (a := 61) (j := (Int.toNat y22)) (x := (b8 0)) fh23 rfl
                refine to_iinc (L' := [(0, .inr (.inr 60)), (1, .inl n), (2, .inl (y22 + 1))]) (dat dk_X12_end 50 rfl) rfl (by decide) rfl (to_goto (dat dk_X12_end 51 rfl) rfl ?_)
                have e34 : h33.2.2 60 3 = x29 := (by rw [wh33]; exact ex29)
                exact ihn27 (n27 - 1) (by omega) (y22 + 1) h33 (by omega) I31 f32 (show 0 ≤ (y22 + 1) by omega) (show h33.2.2 60 3 = h.2.2 60 3 + n by omega) (show 20 - (y22 + 1) ≤ ((n27 - 1 : Nat) : Int) by omega)
            exact lp71_n27 (20 - (0 : Int)).toNat 0 h21 (by decide) I19 f20 (show 0 ≤ (0 : Int) by omega) (show h21.2.2 60 3 = h.2.2 60 3 + n by omega) (by omega)
          · skip
            refine to_aload_n (dat dk_X12_end 21 rfl) rfl (to_getR 62 g_c13_13 (dat dk_X12_end 22 rfl) (Ih11.atS rfl) (Ih11.atE rfl) (to_aload_n (dat dk_X12_end 23 rfl) rfl (to_getIv (y := x17) ex17 g_c13_496 (dat dk_X12_end 24 rfl) (Ih11.atS rfl) (to_iload_n (dat dk_X12_end 25 rfl) rfl (to_iadd (dat dk_X12_end 26 rfl) (to_aload_n (dat dk_X12_end 27 rfl) rfl (to_getR 61 g_c13_7 (dat dk_X12_end 28 rfl) (Ih11.atS rfl) (Ih11.atE rfl) (to_iload_n (dat dk_X12_end 29 rfl) rfl ?_))))))))
            obtain ⟨x35, ex35⟩ : ∃ y : Int, h11.2.2 61 (Int.toNat y10) = y := ⟨_, rfl⟩
            have rx35 := Ih11.atR (a := 61) (j := Int.toNat y10) rfl
            rw [ex35] at rx35
            refine to_baldv (q := 1) ex35 (dat dk_X12_end 30 rfl) (by decide) (Ih11.atS rfl) rfl (by decide) (by omega) (to_bastw (dat dk_X12_end 31 rfl) (Ih11.atS rfl) rfl (by decide) (by omega) ?_)
            intro h38 wh38
            have I36 : Inv h38 := by rw [wh38]; exact Ih11.put (a := 62) (j := (Int.toNat (x17 + y10))) (x := (b8 x35)) (-128) (127) rfl rfl (show (-128 : Int) ≤ (b8 x35) ∧ (b8 x35) ≤ 127 by have := b8_in x35; omega)
            have f37 : Fr [61, 62, 200, 203] h h38 := by rw [wh38]; exact Fr.putF (a := 62) (j := (Int.toNat (x17 + y10))) (x := (b8 x35)) fh11 rfl
            refine to_iinc (L' := [(0, .inr (.inr 60)), (1, .inl n), (2, .inl (y10 + 1))]) (dat dk_X12_end 32 rfl) rfl (by decide) rfl (to_goto (dat dk_X12_end 33 rfl) rfl ?_)
            have e39 : h38.2.2 60 3 = x17 := (by rw [wh38]; exact ex17)
            exact ihn15 (n15 - 1) (by omega) (y10 + 1) h38 (by omega) I36 f37 (show 0 ≤ (y10 + 1) by omega) (show h38.2.2 60 3 = h.2.2 60 3 by omega) (show n - (y10 + 1) ≤ ((n15 - 1 : Nat) : Int) by omega)
        exact lp31_n15 (n - (0 : Int)).toNat 0 h4 (by decide) I2 f3 (show 0 ≤ (0 : Int) by omega) (show h4.2.2 60 3 = h.2.2 60 3 by omega) (by omega)
      · skip
        refine to_iconst (dat dk_X12_end 14 rfl) ?_
        have e40 : h4.2.2 60 3 = x1 := (by rw [wh4]; exact ex1)
        exact to_iret rfl (dat dk_X12_end 15 rfl) (ri_mk (by decide) ⟨I2, f3, (show ((-1 : Int) = -1 ∧ h4.2.2 60 3 = h.2.2 60 3 ∧ (n < 0 ∨ 20 < n ∨ 1200 < h.2.2 60 3 + n)) ∨ ((-1 : Int) = h.2.2 60 3 + n ∧ h4.2.2 60 3 = h.2.2 60 3 + n ∧ 0 ≤ n ∧ n ≤ 20 ∧ h.2.2 60 3 + n ≤ 1200) by omega)⟩)
abbrev Q_X12_take (h : Hp) : Option V → Hp → Nat → Nat → Prop := RI (fun x H => Inv H ∧ Fr [203] h H ∧ (x = h.2.2 60 3) ∧ (H.2.2 60 3 = 0))
set_option maxRecDepth 100000 in
theorem ct_X12_take (l : Launch) (h : Hp) (hI : Inv h)  : Ct l D_X12_take 0 0 [.inr (.inr 60)] h (Q_X12_take h) := by
  refine ct_of pn_X12_take (Nat.le_of_ble_eq_true rfl) ?_
  show To l E_X12_take (0, [(0, .inr (.inr 60))], [], h, 0, 0) _
  obtain ⟨x1, ex1⟩ : ∃ y : Int, h.2.2 60 3 = y := ⟨_, rfl⟩
  have rx1 := hI.atR (a := 60) (j := 3) rfl
  rw [ex1] at rx1
  refine to_aload_n (dat dk_X12_take 0 rfl) rfl (to_getIv (y := x1) ex1 g_c13_496 (dat dk_X12_take 1 rfl) (hI.atS rfl) (to_istore_n (L' := [(0, .inr (.inr 60)), (1, .inl x1)]) (dat dk_X12_take 2 rfl) (by decide) rfl (to_aload_n (dat dk_X12_take 3 rfl) rfl (to_iconst (dat dk_X12_take 4 rfl) (to_putIw p_c13_496 (dat dk_X12_take 5 rfl) (hI.atS rfl) ?_)))))
  intro h4 wh4
  have I2 : Inv h4 := by rw [wh4]; exact hI.put (a := 60) (j := 3) (x := 0) (0) (1200) rfl rfl (show (0 : Int) ≤ 0 ∧ 0 ≤ 1200 by decide)
  have f3 : Fr [203] h h4 := by rw [wh4]; exact Fr.putF (a := 60) (j := 3) (x := 0) (Fr.rf _ _) rfl
  refine to_iload_n (dat dk_X12_take 6 rfl) rfl ?_
  have e5 : h4.2.2 60 3 = (0 : Int) := (by rw [wh4]; exact wr_eq)
  exact to_iret rfl (dat dk_X12_take 7 rfl) (ri_mk (by omega) ⟨I2, f3, (show x1 = h.2.2 60 3 by omega), (show h4.2.2 60 3 = 0 by omega)⟩)
abbrev Q_X12_isThere (h : Hp) (n : Int) : Option V → Hp → Nat → Nat → Prop := RI (fun x H => h = H ∧ (x = 0 ∨ x = 1) ∧ (x = 0 ∨ (0 ≤ n ∧ n < H.2.2 60 4)))
set_option maxRecDepth 100000 in
theorem ct_X12_isThere (l : Launch) (h : Hp) (hI : Inv h) (n : Int) (hn : I32 n) : Ct l D_X12_isThere 0 0 [.inr (.inr 60), .inl n] h (Q_X12_isThere h n) := by
  refine ct_of pn_X12_isThere (Nat.le_of_ble_eq_true rfl) ?_
  show To l E_X12_isThere (0, [(0, .inr (.inr 60)), (1, .inl n)], [], h, 0, 0) _
  refine to_iload_n (dat dk_X12_isThere 0 rfl) rfl ?_
  refine to_iflt 25 (dat dk_X12_isThere 1 rfl) rfl hn (fun c1 => ?_) (fun c1 => ?_)
  · skip
    refine to_iconst (dat dk_X12_isThere 13 rfl) ?_
    exact to_zret rfl (dat dk_X12_isThere 14 rfl) (by decide) (ri_mk (by decide) ⟨rfl, (by decide), (show (0 : Int) = 0 ∨ (0 ≤ n ∧ n < h.2.2 60 4) by omega)⟩)
  · skip
    refine to_iload_n (dat dk_X12_isThere 2 rfl) rfl (to_aload_n (dat dk_X12_isThere 3 rfl) rfl ?_)
    obtain ⟨x2, ex2⟩ : ∃ y : Int, h.2.2 60 4 = y := ⟨_, rfl⟩
    have rx2 := hI.atR (a := 60) (j := 4) rfl
    rw [ex2] at rx2
    refine to_getIv (y := x2) ex2 g_c13_382 (dat dk_X12_isThere 4 rfl) (hI.atS rfl) ?_
    refine to_ige 25 (dat dk_X12_isThere 5 rfl) rfl hn (by omega) (fun c3 => ?_) (fun c3 => ?_)
    · skip
      refine to_iconst (dat dk_X12_isThere 13 rfl) ?_
      exact to_zret rfl (dat dk_X12_isThere 14 rfl) (by decide) (ri_mk (by decide) ⟨rfl, (by decide), (show (0 : Int) = 0 ∨ (0 ≤ n ∧ n < h.2.2 60 4) by omega)⟩)
    · skip
      refine to_aload_n (dat dk_X12_isThere 6 rfl) rfl (to_getR 65 g_c13_24 (dat dk_X12_isThere 7 rfl) (hI.atS rfl) (hI.atE rfl) (to_iload_n (dat dk_X12_isThere 8 rfl) rfl ?_))
      obtain ⟨x4, ex4⟩ : ∃ y : Int, h.2.2 65 (Int.toNat n) = y := ⟨_, rfl⟩
      have rx4 := hI.atR (a := 65) (j := Int.toNat n) rfl
      rw [ex4] at rx4
      refine to_baldv (q := 2) ex4 (dat dk_X12_isThere 9 rfl) (by decide) (hI.atS rfl) rfl (by decide) (by omega) ?_
      refine to_ifeq 25 (dat dk_X12_isThere 10 rfl) rfl (by omega) (fun c5 => ?_) (fun c5 => ?_)
      · skip
        refine to_iconst (dat dk_X12_isThere 13 rfl) ?_
        exact to_zret rfl (dat dk_X12_isThere 14 rfl) (by decide) (ri_mk (by decide) ⟨rfl, (by decide), (show (0 : Int) = 0 ∨ (0 ≤ n ∧ n < h.2.2 60 4) by omega)⟩)
      · skip
        refine to_iconst (dat dk_X12_isThere 11 rfl) (to_goto (dat dk_X12_isThere 12 rfl) rfl ?_)
        exact to_zret rfl (dat dk_X12_isThere 14 rfl) (by decide) (ri_mk (by decide) ⟨rfl, (by decide), (show (1 : Int) = 0 ∨ (0 ≤ n ∧ n < h.2.2 60 4) by omega)⟩)
abbrev Q_X12_isTag (h : Hp) (n : Int) : Option V → Hp → Nat → Nat → Prop := RI (fun x H => h = H ∧ (x = 0 ∨ x = 1) ∧ (x = 0 ∨ (1 ≤ n ∧ n ≤ 12)))
set_option maxRecDepth 100000 in
theorem ct_X12_isTag (l : Launch) (h : Hp) (hI : Inv h) (n : Int) (hn : I32 n) (g0 : n ≤ 1200) : Ct l D_X12_isTag 1 20 [.inr (.inr 60), .inl n] h (Q_X12_isTag h n) := by
  refine ct_of pn_X12_isTag (Nat.le_of_ble_eq_true rfl) ?_
  show To l E_X12_isTag (0, [(0, .inr (.inr 60)), (1, .inl n)], [], h, 0, 0) _
  have jn16_n3 : ∀ (y1 : Int), (y1 = 0 ∨ y1 = 1) → (y1 = 0 ∨ (1 ≤ n ∧ n ≤ 12)) → To l E_X12_isTag (16, [(0, .inr (.inr 60)), (1, .inl n)], [.inl y1], h, 0, 0) (Q_X12_isTag h n) := by
    intro y1 ry1 c2
    refine to_istore_n (L' := [(0, .inr (.inr 60)), (1, .inl n), (2, .inl y1)]) (dat dk_X12_isTag 9 rfl) (by decide) rfl (to_iconst (dat dk_X12_isTag 10 rfl) (to_istore_n (L' := [(0, .inr (.inr 60)), (1, .inl n), (2, .inl y1), (3, .inl 0)]) (dat dk_X12_isTag 11 rfl) (by decide) rfl ?_))
    have lp19_n8 : ∀ (n8 : Nat) (y4 : Int) (y5 : Int), (y4 = 0 ∨ y4 = 1) → (I32 y5) → (0 ≤ y5) → (y4 = 0 ∨ (1 ≤ n ∧ n ≤ 12)) → (n - y5 ≤ (n8 : Int)) → To l E_X12_isTag (19, [(0, .inr (.inr 60)), (1, .inl n), (2, .inl y4), (3, .inl y5)], [], h, 0, 0) (Q_X12_isTag h n) := by
      intro n8
      induction n8 using Nat.strongRecOn with
      | _ n8 ihn8 =>
      intro y4 y5 ry4 ry5 c6 c7 c9
      refine to_iload_n (dat dk_X12_isTag 12 rfl) rfl (to_iload_n (dat dk_X12_isTag 13 rfl) rfl ?_)
      refine to_ige 74 (dat dk_X12_isTag 14 rfl) rfl ry5 hn (fun c10 => ?_) (fun c10 => ?_)
      · skip
        refine to_iload_n (dat dk_X12_isTag 41 rfl) rfl ?_
        exact to_zret rfl (dat dk_X12_isTag 42 rfl) (by omega) (ri_mk (by omega) ⟨rfl, (by omega), (show y4 = 0 ∨ (1 ≤ n ∧ n ≤ 12) by omega)⟩)
      · skip
        refine to_iload_n (dat dk_X12_isTag 15 rfl) rfl ?_
        refine to_ifeq 74 (dat dk_X12_isTag 16 rfl) rfl (by omega) (fun c11 => ?_) (fun c11 => ?_)
        · skip
          refine to_iload_n (dat dk_X12_isTag 41 rfl) rfl ?_
          exact to_zret rfl (dat dk_X12_isTag 42 rfl) (by omega) (ri_mk (by omega) ⟨rfl, (by omega), (show y4 = 0 ∨ (1 ≤ n ∧ n ≤ 12) by omega)⟩)
        · skip
          have jn67_n13 : ∀ (y12 : Int), (y12 = 0 ∨ y12 = 1) → To l E_X12_isTag (67, [(0, .inr (.inr 60)), (1, .inl n), (2, .inl y4), (3, .inl y5)], [.inl y12], h, 0, 0) (Q_X12_isTag h n) := by
            intro y12 ry12
            refine to_istore_n (L' := [(0, .inr (.inr 60)), (1, .inl n), (2, .inl y12), (3, .inl y5)]) (dat dk_X12_isTag 38 rfl) (by decide) rfl (to_iinc (L' := [(0, .inr (.inr 60)), (1, .inl n), (2, .inl y12), (3, .inl (y5 + 1))]) (dat dk_X12_isTag 39 rfl) rfl (by decide) rfl (to_goto (dat dk_X12_isTag 40 rfl) rfl ?_))
            exact ihn8 (n8 - 1) (by omega) y12 (y5 + 1) (by omega) (by omega) (show 0 ≤ (y5 + 1) by omega) (show y12 = 0 ∨ (1 ≤ n ∧ n ≤ 12) by omega) (show n - (y5 + 1) ≤ ((n8 - 1 : Nat) : Int) by omega)
          refine to_aload_n (dat dk_X12_isTag 17 rfl) rfl (to_getR 62 g_c13_13 (dat dk_X12_isTag 18 rfl) (hI.atS rfl) (hI.atE rfl) (to_iload_n (dat dk_X12_isTag 19 rfl) rfl ?_))
          obtain ⟨x14, ex14⟩ : ∃ y : Int, h.2.2 62 (Int.toNat y5) = y := ⟨_, rfl⟩
          have rx14 := hI.atR (a := 62) (j := Int.toNat y5) rfl
          rw [ex14] at rx14
          refine to_baldv (q := 1) ex14 (dat dk_X12_isTag 20 rfl) (by decide) (hI.atS rfl) rfl (by decide) (by omega) ?_
          refine to_cI ca_c13_161 (dat dk_X12_isTag 21 rfl) (ct_X12_isDigit l h hI x14 (by omega)) rfl trivial rfl (fun x15 h16 rx15 p17 => ?_)
          obtain ⟨rfl, zx15, p17_0⟩ := p17
          refine to_ifne 62 (dat dk_X12_isTag 22 rfl) rfl rx15 (fun c18 => ?_) (fun c18 => ?_)
          · skip
            refine to_iconst (dat dk_X12_isTag 35 rfl) (to_goto (dat dk_X12_isTag 36 rfl) rfl ?_)
            exact jn67_n13 1 (by decide)
          · skip
            refine to_aload_n (dat dk_X12_isTag 23 rfl) rfl (to_getR 62 g_c13_13 (dat dk_X12_isTag 24 rfl) (hI.atS rfl) (hI.atE rfl) (to_iload_n (dat dk_X12_isTag 25 rfl) rfl ?_))
            obtain ⟨x19, ex19⟩ : ∃ y : Int, h.2.2 62 (Int.toNat y5) = y := ⟨_, rfl⟩
            have rx19 := hI.atR (a := 62) (j := Int.toNat y5) rfl
            rw [ex19] at rx19
            refine to_baldv (q := 1) ex19 (dat dk_X12_isTag 26 rfl) (by decide) (hI.atS rfl) rfl (by decide) (by omega) (to_bipush (dat dk_X12_isTag 27 rfl) (by decide) ?_)
            refine to_ilt 66 (dat dk_X12_isTag 28 rfl) rfl (by omega) (by decide) (fun c20 => ?_) (fun c20 => ?_)
            · skip
              refine to_iconst (dat dk_X12_isTag 37 rfl) ?_
              exact jn67_n13 0 (by decide)
            · skip
              refine to_aload_n (dat dk_X12_isTag 29 rfl) rfl (to_getR 62 g_c13_13 (dat dk_X12_isTag 30 rfl) (hI.atS rfl) (hI.atE rfl) (to_iload_n (dat dk_X12_isTag 31 rfl) rfl ?_))
              obtain ⟨x21, ex21⟩ : ∃ y : Int, h.2.2 62 (Int.toNat y5) = y := ⟨_, rfl⟩
              have rx21 := hI.atR (a := 62) (j := Int.toNat y5) rfl
              rw [ex21] at rx21
              refine to_baldv (q := 1) ex21 (dat dk_X12_isTag 32 rfl) (by decide) (hI.atS rfl) rfl (by decide) (by omega) (to_bipush (dat dk_X12_isTag 33 rfl) (by decide) ?_)
              refine to_igt 66 (dat dk_X12_isTag 34 rfl) rfl (by omega) (by decide) (fun c22 => ?_) (fun c22 => ?_)
              · skip
                refine to_iconst (dat dk_X12_isTag 37 rfl) ?_
                exact jn67_n13 0 (by decide)
              · skip
                refine to_iconst (dat dk_X12_isTag 35 rfl) (to_goto (dat dk_X12_isTag 36 rfl) rfl ?_)
                exact jn67_n13 1 (by decide)
    exact lp19_n8 (n - (0 : Int)).toNat y1 0 (by omega) (by decide) (show 0 ≤ (0 : Int) by omega) (show y1 = 0 ∨ (1 ≤ n ∧ n ≤ 12) by omega) (by omega)
  refine to_iload_n (dat dk_X12_isTag 0 rfl) rfl (to_iconst (dat dk_X12_isTag 1 rfl) ?_)
  refine to_ilt 15 (dat dk_X12_isTag 2 rfl) rfl hn (by decide) (fun c23 => ?_) (fun c23 => ?_)
  · skip
    refine to_iconst (dat dk_X12_isTag 8 rfl) ?_
    exact jn16_n3 0 (by decide) (show (0 : Int) = 0 ∨ (1 ≤ n ∧ n ≤ 12) by omega)
  · skip
    refine to_iload_n (dat dk_X12_isTag 3 rfl) rfl (to_bipush (dat dk_X12_isTag 4 rfl) (by decide) ?_)
    refine to_igt 15 (dat dk_X12_isTag 5 rfl) rfl hn (by decide) (fun c24 => ?_) (fun c24 => ?_)
    · skip
      refine to_iconst (dat dk_X12_isTag 8 rfl) ?_
      exact jn16_n3 0 (by decide) (show (0 : Int) = 0 ∨ (1 ≤ n ∧ n ≤ 12) by omega)
    · skip
      refine to_iconst (dat dk_X12_isTag 6 rfl) (to_goto (dat dk_X12_isTag 7 rfl) rfl ?_)
      exact jn16_n3 1 (by decide) (show (1 : Int) = 0 ∨ (1 ≤ n ∧ n ≤ 12) by omega)
abbrev Q_X12_fault (h : Hp) : Option V → Hp → Nat → Nat → Prop := RI (fun x H => Inv H ∧ Fr [200] h H)
set_option maxRecDepth 100000 in
theorem ct_X12_fault (l : Launch) (h : Hp) (hI : Inv h)  : Ct l D_X12_fault 0 0 [.inr (.inr 60)] h (Q_X12_fault h) := by
  refine ct_of pn_X12_fault (Nat.le_of_ble_eq_true rfl) ?_
  show To l E_X12_fault (0, [(0, .inr (.inr 60))], [], h, 0, 0) _
  refine to_aload_n (dat dk_X12_fault 0 rfl) rfl (to_iconst (dat dk_X12_fault 1 rfl) (to_putIw p_c13_154 (dat dk_X12_fault 2 rfl) (hI.atS rfl) ?_))
  intro h3 wh3
  have I1 : Inv h3 := by rw [wh3]; exact hI.put (a := 60) (j := 0) (x := 0) (0) (3) rfl rfl (show (0 : Int) ≤ 0 ∧ 0 ≤ 3 by decide)
  have f2 : Fr [200] h h3 := by rw [wh3]; exact Fr.putF (a := 60) (j := 0) (x := 0) (Fr.rf _ _) rfl
  refine to_aload_n (dat dk_X12_fault 3 rfl) rfl ?_
  obtain ⟨x4, ex4⟩ : ∃ y : Int, h3.2.2 60 48 = y := ⟨_, rfl⟩
  have rx4 := I1.atR (a := 60) (j := 48) rfl
  rw [ex4] at rx4
  refine to_getIv (y := x4) ex4 g_c13_391 (dat dk_X12_fault 4 rfl) (I1.atS rfl) ?_
  exact to_iret rfl (dat dk_X12_fault 5 rfl) (ri_mk (by omega) ⟨I1, f2⟩)
abbrev Q_X12_found (h : Hp) (n : Int) : Option V → Hp → Nat → Nat → Prop := RI (fun x H => Inv H ∧ Fr [200] h H)
set_option maxRecDepth 100000 in
theorem ct_X12_found (l : Launch) (h : Hp) (hI : Inv h) (n : Int) (hn : I32 n) : Ct l D_X12_found 0 0 [.inr (.inr 60), .inl n] h (Q_X12_found h n) := by
  refine ct_of pn_X12_found (Nat.le_of_ble_eq_true rfl) ?_
  show To l E_X12_found (0, [(0, .inr (.inr 60)), (1, .inl n)], [], h, 0, 0) _
  refine to_aload_n (dat dk_X12_found 0 rfl) rfl (to_iconst (dat dk_X12_found 1 rfl) (to_putIw p_c13_154 (dat dk_X12_found 2 rfl) (hI.atS rfl) ?_))
  intro h3 wh3
  have I1 : Inv h3 := by rw [wh3]; exact hI.put (a := 60) (j := 0) (x := 0) (0) (3) rfl rfl (show (0 : Int) ≤ 0 ∧ 0 ≤ 3 by decide)
  have f2 : Fr [200] h h3 := by rw [wh3]; exact Fr.putF (a := 60) (j := 0) (x := 0) (Fr.rf _ _) rfl
  refine to_iload_n (dat dk_X12_found 3 rfl) rfl ?_
  refine to_iflt 26 (dat dk_X12_found 4 rfl) rfl hn (fun c4 => ?_) (fun c4 => ?_)
  · skip
    refine to_iconst (dat dk_X12_found 14 rfl) ?_
    exact to_iret rfl (dat dk_X12_found 15 rfl) (ri_mk (by decide) ⟨I1, f2⟩)
  · skip
    refine to_iload_n (dat dk_X12_found 5 rfl) rfl (to_aload_n (dat dk_X12_found 6 rfl) rfl ?_)
    obtain ⟨x5, ex5⟩ : ∃ y : Int, h3.2.2 60 62 = y := ⟨_, rfl⟩
    have rx5 := I1.atR (a := 60) (j := 62) rfl
    rw [ex5] at rx5
    refine to_getIv (y := x5) ex5 g_c13_521 (dat dk_X12_found 7 rfl) (I1.atS rfl) ?_
    refine to_ige 26 (dat dk_X12_found 8 rfl) rfl hn (by omega) (fun c6 => ?_) (fun c6 => ?_)
    · skip
      refine to_iconst (dat dk_X12_found 14 rfl) ?_
      exact to_iret rfl (dat dk_X12_found 15 rfl) (ri_mk (by decide) ⟨I1, f2⟩)
    · skip
      refine to_aload_n (dat dk_X12_found 9 rfl) rfl (to_getR 100 g_c13_137 (dat dk_X12_found 10 rfl) (I1.atS rfl) (I1.atE rfl) (to_iload_n (dat dk_X12_found 11 rfl) rfl ?_))
      obtain ⟨x7, ex7⟩ : ∃ y : Int, h3.2.2 100 (Int.toNat n) = y := ⟨_, rfl⟩
      have rx7 := I1.atR (a := 100) (j := Int.toNat n) rfl
      rw [ex7] at rx7
      refine to_ialdv ex7 (dat dk_X12_found 12 rfl) (I1.atS rfl) rfl (by decide) (by omega) (to_goto (dat dk_X12_found 13 rfl) rfl ?_)
      exact to_iret rfl (dat dk_X12_found 15 rfl) (ri_mk (by omega) ⟨I1, f2⟩)
abbrev Q_X12_thread (h : Hp) (n : Int) : Option V → Hp → Nat → Nat → Prop := RI (fun x H => Inv H ∧ Fr [200] h H)
set_option maxRecDepth 100000 in
theorem ct_X12_thread (l : Launch) (h : Hp) (hI : Inv h) (n : Int) (hn : I32 n) : Ct l D_X12_thread 0 0 [.inr (.inr 60), .inl n] h (Q_X12_thread h n) := by
  refine ct_of pn_X12_thread (Nat.le_of_ble_eq_true rfl) ?_
  show To l E_X12_thread (0, [(0, .inr (.inr 60)), (1, .inl n)], [], h, 0, 0) _
  refine to_aload_n (dat dk_X12_thread 0 rfl) rfl (to_iconst (dat dk_X12_thread 1 rfl) (to_putIw p_c13_154 (dat dk_X12_thread 2 rfl) (hI.atS rfl) ?_))
  intro h3 wh3
  have I1 : Inv h3 := by rw [wh3]; exact hI.put (a := 60) (j := 0) (x := 0) (0) (3) rfl rfl (show (0 : Int) ≤ 0 ∧ 0 ≤ 3 by decide)
  have f2 : Fr [200] h h3 := by rw [wh3]; exact Fr.putF (a := 60) (j := 0) (x := 0) (Fr.rf _ _) rfl
  refine to_iload_n (dat dk_X12_thread 3 rfl) rfl ?_
  refine to_iflt 26 (dat dk_X12_thread 4 rfl) rfl hn (fun c4 => ?_) (fun c4 => ?_)
  · skip
    refine to_iconst (dat dk_X12_thread 14 rfl) ?_
    exact to_iret rfl (dat dk_X12_thread 15 rfl) (ri_mk (by decide) ⟨I1, f2⟩)
  · skip
    refine to_iload_n (dat dk_X12_thread 5 rfl) rfl (to_aload_n (dat dk_X12_thread 6 rfl) rfl ?_)
    obtain ⟨x5, ex5⟩ : ∃ y : Int, h3.2.2 60 63 = y := ⟨_, rfl⟩
    have rx5 := I1.atR (a := 60) (j := 63) rfl
    rw [ex5] at rx5
    refine to_getIv (y := x5) ex5 g_c13_527 (dat dk_X12_thread 7 rfl) (I1.atS rfl) ?_
    refine to_ige 26 (dat dk_X12_thread 8 rfl) rfl hn (by omega) (fun c6 => ?_) (fun c6 => ?_)
    · skip
      refine to_iconst (dat dk_X12_thread 14 rfl) ?_
      exact to_iret rfl (dat dk_X12_thread 15 rfl) (ri_mk (by decide) ⟨I1, f2⟩)
    · skip
      refine to_aload_n (dat dk_X12_thread 9 rfl) rfl (to_getR 101 g_c13_140 (dat dk_X12_thread 10 rfl) (I1.atS rfl) (I1.atE rfl) (to_iload_n (dat dk_X12_thread 11 rfl) rfl ?_))
      obtain ⟨x7, ex7⟩ : ∃ y : Int, h3.2.2 101 (Int.toNat n) = y := ⟨_, rfl⟩
      have rx7 := I1.atR (a := 101) (j := Int.toNat n) rfl
      rw [ex7] at rx7
      refine to_ialdv ex7 (dat dk_X12_thread 12 rfl) (I1.atS rfl) rfl (by decide) (by omega) (to_goto (dat dk_X12_thread 13 rfl) rfl ?_)
      exact to_iret rfl (dat dk_X12_thread 15 rfl) (ri_mk (by omega) ⟨I1, f2⟩)
