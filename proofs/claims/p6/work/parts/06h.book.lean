/-! Contracts, by program. -/
abbrev Q_X0_entryCount (h : Hp) (b : Nat) : Option V → Hp → Nat → Nat → Prop := RI (fun x H => h = H ∧ (x = H.2.2 b 5) ∧ (0 ≤ x ∧ x ≤ 10000000))
set_option maxRecDepth 100000 in
theorem ct_X0_entryCount (l : Launch) (h : Hp) (hI : Inv h) (b : Nat) (wb : Nat) (hb : isK b wb = true) : Ct l D_X0_entryCount 0 0 [.inr (.inr b)] h (Q_X0_entryCount h b) := by
  refine ct_of pn_X0_entryCount (Nat.le_of_ble_eq_true rfl) ?_
  show To l E_X0_entryCount (0, [(0, .inr (.inr b))], [], h, 0, 0) _
  refine to_aload_np (dat dk_X0_entryCount 0 rfl) (hI.posN (hI.kty hb)) rfl ?_
  obtain ⟨x1, ex1⟩ : ∃ y : Int, h.2.2 b 5 = y := ⟨_, rfl⟩
  have rx1 := hI.k5 hb
  rw [ex1] at rx1
  refine to_getIv (y := x1) ex1 g_c1_28 (dat dk_X0_entryCount 1 rfl) (hI.kty hb) ?_
  exact to_iret rfl (dat dk_X0_entryCount 2 rfl) (ri_mk (by omega) ⟨rfl, (show x1 = h.2.2 b 5 by omega), (show 0 ≤ x1 ∧ x1 ≤ 10000000 by omega)⟩)
abbrev Q_X0_sizeOf (h : Hp) (b : Nat) (n : Int) : Option V → Hp → Nat → Nat → Prop := RI (fun x H => h = H)
set_option maxRecDepth 100000 in
theorem ct_X0_sizeOf (l : Launch) (h : Hp) (hI : Inv h) (b : Nat) (wb : Nat) (hb : isK b wb = true) (n : Int) (hn : I32 n) : Ct l D_X0_sizeOf 0 0 [.inr (.inr b), .inl n] h (Q_X0_sizeOf h b n) := by
  refine ct_of pn_X0_sizeOf (Nat.le_of_ble_eq_true rfl) ?_
  show To l E_X0_sizeOf (0, [(0, .inr (.inr b)), (1, .inl n)], [], h, 0, 0) _
  refine to_iload_n (dat dk_X0_sizeOf 0 rfl) rfl ?_
  refine to_iflt 23 (dat dk_X0_sizeOf 1 rfl) rfl hn (fun c1 => ?_) (fun c1 => ?_)
  · skip
    refine to_iconst (dat dk_X0_sizeOf 13 rfl) ?_
    exact to_iret rfl (dat dk_X0_sizeOf 14 rfl) (ri_mk (by decide) rfl)
  · skip
    refine to_iload_n (dat dk_X0_sizeOf 2 rfl) rfl (to_aload_np (dat dk_X0_sizeOf 3 rfl) (hI.posN (hI.kty hb)) rfl ?_)
    obtain ⟨x2, ex2⟩ : ∃ y : Int, h.2.2 b 5 = y := ⟨_, rfl⟩
    have rx2 := hI.k5 hb
    rw [ex2] at rx2
    refine to_getIv (y := x2) ex2 g_c1_28 (dat dk_X0_sizeOf 4 rfl) (hI.kty hb) ?_
    refine to_ige 23 (dat dk_X0_sizeOf 5 rfl) rfl hn (by omega) (fun c3 => ?_) (fun c3 => ?_)
    · skip
      refine to_iconst (dat dk_X0_sizeOf 13 rfl) ?_
      exact to_iret rfl (dat dk_X0_sizeOf 14 rfl) (ri_mk (by decide) rfl)
    · skip
      refine to_iload_n (dat dk_X0_sizeOf 6 rfl) rfl (to_iconst (dat dk_X0_sizeOf 7 rfl) (to_iadd (dat dk_X0_sizeOf 8 rfl) (to_aload_np (dat dk_X0_sizeOf 9 rfl) (hI.posN (hI.kty hb)) rfl ?_)))
      obtain ⟨q4, nq4, eq4, pq4, tq4⟩ := hI.k2 hb
      have lq4 := hI.lenM tq4
      refine to_getR q4 g_c1_18 (dat dk_X0_sizeOf 10 rfl) (hI.kty hb) eq4 (to_alen (dat dk_X0_sizeOf 11 rfl) tq4 (by have := (isK_w hb); omega) ?_)
      refine to_ilt 25 (dat dk_X0_sizeOf 12 rfl) rfl (by omega) (by omega) (fun c5 => ?_) (fun c5 => ?_)
      · skip
        refine to_aload_np (dat dk_X0_sizeOf 15 rfl) (hI.posN (hI.kty hb)) rfl (to_getR q4 g_c1_18 (dat dk_X0_sizeOf 16 rfl) (hI.kty hb) eq4 (to_iload_n (dat dk_X0_sizeOf 17 rfl) rfl (to_iconst (dat dk_X0_sizeOf 18 rfl) (to_iadd (dat dk_X0_sizeOf 19 rfl) ?_))))
        obtain ⟨x6, ex6⟩ : ∃ y : Int, h.2.2 q4 (Int.toNat (n + 1)) = y := ⟨_, rfl⟩
        have rx6 := hI.con0 tq4 (isK_w hb) (Int.toNat (n + 1))
        rw [ex6] at rx6
        refine to_ialdv ex6 (dat dk_X0_sizeOf 20 rfl) tq4 (isK_w hb) (hI.lenN tq4) (by omega) (to_aload_np (dat dk_X0_sizeOf 21 rfl) (hI.posN (hI.kty hb)) rfl (to_getR q4 g_c1_18 (dat dk_X0_sizeOf 22 rfl) (hI.kty hb) eq4 (to_iload_n (dat dk_X0_sizeOf 23 rfl) rfl ?_)))
        obtain ⟨x7, ex7⟩ : ∃ y : Int, h.2.2 q4 (Int.toNat n) = y := ⟨_, rfl⟩
        have rx7 := hI.con0 tq4 (isK_w hb) (Int.toNat n)
        rw [ex7] at rx7
        refine to_ialdv ex7 (dat dk_X0_sizeOf 24 rfl) tq4 (isK_w hb) (hI.lenN tq4) (by omega) ?_
        refine to_isubA (dat dk_X0_sizeOf 25 rfl) (fun x8 rx8 => ?_)
        exact to_iret rfl (dat dk_X0_sizeOf 26 rfl) (ri_mk rx8 rfl)
      · skip
        refine to_iconst (dat dk_X0_sizeOf 13 rfl) ?_
        exact to_iret rfl (dat dk_X0_sizeOf 14 rfl) (ri_mk (by decide) rfl)
abbrev Q_X0_byteOf (h : Hp) (b : Nat) (n : Int) (k : Int) : Option V → Hp → Nat → Nat → Prop := RI (fun x H => h = H ∧ (-1 ≤ x ∧ x ≤ 255))
set_option maxRecDepth 100000 in
theorem ct_X0_byteOf (l : Launch) (h : Hp) (hI : Inv h) (b : Nat) (wb : Nat) (hb : isK b wb = true) (n : Int) (hn : I32 n) (k : Int) (hk : I32 k) : Ct l D_X0_byteOf 1 21 [.inr (.inr b), .inl n, .inl k] h (Q_X0_byteOf h b n k) := by
  refine ct_of pn_X0_byteOf (Nat.le_of_ble_eq_true rfl) ?_
  show To l E_X0_byteOf (0, [(0, .inr (.inr b)), (1, .inl n), (2, .inl k)], [], h, 0, 0) _
  refine to_iload_n (dat dk_X0_byteOf 0 rfl) rfl ?_
  refine to_iflt 26 (dat dk_X0_byteOf 1 rfl) rfl hk (fun c1 => ?_) (fun c1 => ?_)
  · skip
    refine to_iconst (dat dk_X0_byteOf 14 rfl) ?_
    exact to_iret rfl (dat dk_X0_byteOf 15 rfl) (ri_mk (by decide) ⟨rfl, (show -1 ≤ (-1 : Int) ∧ (-1 : Int) ≤ 255 by omega)⟩)
  · skip
    refine to_iload_n (dat dk_X0_byteOf 2 rfl) rfl (to_aload_np (dat dk_X0_byteOf 3 rfl) (hI.posN (hI.kty hb)) rfl (to_iload_n (dat dk_X0_byteOf 4 rfl) rfl ?_))
    refine to_cI ca_c1_32 (dat dk_X0_byteOf 5 rfl) (ct_X0_sizeOf l h hI b wb hb n hn) rfl ⟨_, _, rfl, (hI.kty hb)⟩ rfl (fun x2 h3 rx2 p4 => ?_)
    subst p4
    refine to_ige 26 (dat dk_X0_byteOf 6 rfl) rfl hk rx2 (fun c5 => ?_) (fun c5 => ?_)
    · skip
      refine to_iconst (dat dk_X0_byteOf 14 rfl) ?_
      exact to_iret rfl (dat dk_X0_byteOf 15 rfl) (ri_mk (by decide) ⟨rfl, (show -1 ≤ (-1 : Int) ∧ (-1 : Int) ≤ 255 by omega)⟩)
    · skip
      refine to_iload_n (dat dk_X0_byteOf 7 rfl) rfl ?_
      refine to_iflt 26 (dat dk_X0_byteOf 8 rfl) rfl hn (fun c6 => ?_) (fun c6 => ?_)
      · skip
        refine to_iconst (dat dk_X0_byteOf 14 rfl) ?_
        exact to_iret rfl (dat dk_X0_byteOf 15 rfl) (ri_mk (by decide) ⟨rfl, (show -1 ≤ (-1 : Int) ∧ (-1 : Int) ≤ 255 by omega)⟩)
      · skip
        refine to_iload_n (dat dk_X0_byteOf 9 rfl) rfl (to_aload_np (dat dk_X0_byteOf 10 rfl) (hI.posN (hI.kty hb)) rfl ?_)
        obtain ⟨q7, nq7, eq7, pq7, tq7⟩ := hI.k2 hb
        have lq7 := hI.lenM tq7
        refine to_getR q7 g_c1_18 (dat dk_X0_byteOf 11 rfl) (hI.kty hb) eq7 (to_alen (dat dk_X0_byteOf 12 rfl) tq7 (by have := (isK_w hb); omega) ?_)
        refine to_ilt 28 (dat dk_X0_byteOf 13 rfl) rfl hn (by omega) (fun c8 => ?_) (fun c8 => ?_)
        · skip
          refine to_aload_np (dat dk_X0_byteOf 16 rfl) (hI.posN (hI.kty hb)) rfl (to_getR q7 g_c1_18 (dat dk_X0_byteOf 17 rfl) (hI.kty hb) eq7 (to_iload_n (dat dk_X0_byteOf 18 rfl) rfl ?_))
          obtain ⟨x9, ex9⟩ : ∃ y : Int, h.2.2 q7 (Int.toNat n) = y := ⟨_, rfl⟩
          have rx9 := hI.con0 tq7 (isK_w hb) (Int.toNat n)
          rw [ex9] at rx9
          refine to_ialdv ex9 (dat dk_X0_byteOf 19 rfl) tq7 (isK_w hb) (hI.lenN tq7) (by omega) (to_iload_n (dat dk_X0_byteOf 20 rfl) rfl ?_)
          refine to_iaddA (dat dk_X0_byteOf 21 rfl) (fun x10 rx10 => ?_)
          refine to_istore_n (L' := [(0, .inr (.inr b)), (1, .inl n), (2, .inl k), (3, .inl x10)]) (dat dk_X0_byteOf 22 rfl) (by decide) rfl (to_iload_n (dat dk_X0_byteOf 23 rfl) rfl ?_)
          refine to_iflt 63 (dat dk_X0_byteOf 24 rfl) rfl rx10 (fun c11 => ?_) (fun c11 => ?_)
          · skip
            refine to_iconst (dat dk_X0_byteOf 37 rfl) ?_
            exact to_iret rfl (dat dk_X0_byteOf 38 rfl) (ri_mk (by decide) ⟨rfl, (show -1 ≤ (-1 : Int) ∧ (-1 : Int) ≤ 255 by omega)⟩)
          · skip
            refine to_iload_n (dat dk_X0_byteOf 25 rfl) rfl (to_aload_np (dat dk_X0_byteOf 26 rfl) (hI.posN (hI.kty hb)) rfl ?_)
            obtain ⟨q12, nq12, eq12, pq12, tq12⟩ := hI.k4 hb
            have lq12 := hI.lenM tq12
            refine to_getR q12 g_c1_24 (dat dk_X0_byteOf 27 rfl) (hI.kty hb) eq12 (to_alen (dat dk_X0_byteOf 28 rfl) tq12 (by have := (isK_r hb); omega) ?_)
            refine to_ige 63 (dat dk_X0_byteOf 29 rfl) rfl rx10 (by omega) (fun c13 => ?_) (fun c13 => ?_)
            · skip
              refine to_iconst (dat dk_X0_byteOf 37 rfl) ?_
              exact to_iret rfl (dat dk_X0_byteOf 38 rfl) (ri_mk (by decide) ⟨rfl, (show -1 ≤ (-1 : Int) ∧ (-1 : Int) ≤ 255 by omega)⟩)
            · skip
              refine to_aload_np (dat dk_X0_byteOf 30 rfl) (hI.posN (hI.kty hb)) rfl (to_getR q12 g_c1_24 (dat dk_X0_byteOf 31 rfl) (hI.kty hb) eq12 (to_iload_n (dat dk_X0_byteOf 32 rfl) rfl ?_))
              obtain ⟨x14, ex14⟩ : ∃ y : Int, h.2.2 q12 (Int.toNat x10) = y := ⟨_, rfl⟩
              have rx14 := hI.con1 tq12 (isK_r hb) (Int.toNat x10)
              rw [ex14] at rx14
              refine to_baldv (q := 1) ex14 (dat dk_X0_byteOf 33 rfl) (by decide) tq12 (isK_r hb) (hI.lenN tq12) (by omega) (to_sipush (dat dk_X0_byteOf 34 rfl) (by decide) ?_)
              refine to_iand 255 255 (dat dk_X0_byteOf 35 rfl) (by decide) (by decide) (fun x15 rx15 mx15 => ?_)
              refine to_goto (dat dk_X0_byteOf 36 rfl) rfl ?_
              exact to_iret rfl (dat dk_X0_byteOf 38 rfl) (ri_mk rx15 ⟨rfl, (show -1 ≤ x15 ∧ x15 ≤ 255 by omega)⟩)
        · skip
          refine to_iconst (dat dk_X0_byteOf 14 rfl) ?_
          exact to_iret rfl (dat dk_X0_byteOf 15 rfl) (ri_mk (by decide) ⟨rfl, (show -1 ≤ (-1 : Int) ∧ (-1 : Int) ≤ 255 by omega)⟩)
abbrev Q_X0_slotOf (h : Hp) (t : Nat) (f : Int) (g : Int) : Option V → Hp → Nat → Nat → Prop := RI (fun x H => h = H ∧ (0 ≤ x ∧ x ≤ 1023))
set_option maxRecDepth 100000 in
theorem ct_X0_slotOf (l : Launch) (h : Hp) (hI : Inv h) (t : Nat) (ht : isB t = true) (f : Int) (hf : I32 f) (g : Int) (hg : I32 g) : Ct l D_X0_slotOf 1 21 [.inr (.inr t), .inl f, .inl g] h (Q_X0_slotOf h t f g) := by
  refine ct_of pn_X0_slotOf (Nat.le_of_ble_eq_true rfl) ?_
  show To l E_X0_slotOf (0, [(0, .inr (.inr t)), (1, .inl f), (2, .inl g)], [], h, 0, 0) _
  refine to_iconst (dat dk_X0_slotOf 0 rfl) (to_istore_n (L' := [(0, .inr (.inr t)), (1, .inl f), (2, .inl g), (3, .inl 0)]) (dat dk_X0_slotOf 1 rfl) (by decide) rfl (to_iload_n (dat dk_X0_slotOf 2 rfl) rfl (to_istore (L' := [(0, .inr (.inr t)), (1, .inl f), (2, .inl g), (3, .inl 0), (4, .inl f)]) (dat dk_X0_slotOf 3 rfl) (by decide) rfl ?_)))
  have lp5_n3 : ∀ (n3 : Nat) (y1 : Int) (y2 : Int), (I32 y1) → (I32 y2) → (g - y2 ≤ (n3 : Int)) → To l E_X0_slotOf (5, [(0, .inr (.inr t)), (1, .inl f), (2, .inl g), (3, .inl y1), (4, .inl y2)], [], h, 0, 0) (Q_X0_slotOf h t f g) := by
    intro n3
    induction n3 using Nat.strongRecOn with
    | _ n3 ihn3 =>
    intro y1 y2 ry1 ry2 c4
    refine to_iload (dat dk_X0_slotOf 4 rfl) rfl (to_iload_n (dat dk_X0_slotOf 5 rfl) rfl ?_)
    refine to_ige 29 (dat dk_X0_slotOf 6 rfl) rfl ry2 hg (fun c5 => ?_) (fun c5 => ?_)
    · skip
      refine to_iload_n (dat dk_X0_slotOf 17 rfl) rfl (to_iload_n (dat dk_X0_slotOf 18 rfl) rfl (to_bipush (dat dk_X0_slotOf 19 rfl) (by decide) ?_))
      refine to_iushr (dat dk_X0_slotOf 20 rfl) (fun x6 rx6 => ?_)
      refine to_ixor (dat dk_X0_slotOf 21 rfl) (fun x7 rx7 => ?_)
      refine to_sipush (dat dk_X0_slotOf 22 rfl) (by decide) ?_
      refine to_iand 1023 1023 (dat dk_X0_slotOf 23 rfl) (by decide) (by decide) (fun x8 rx8 mx8 => ?_)
      exact to_iret rfl (dat dk_X0_slotOf 24 rfl) (ri_mk rx8 ⟨rfl, (show 0 ≤ x8 ∧ x8 ≤ 1023 by omega)⟩)
    · skip
      refine to_iload_n (dat dk_X0_slotOf 7 rfl) rfl (to_bipush (dat dk_X0_slotOf 8 rfl) (by decide) ?_)
      refine to_imulA (dat dk_X0_slotOf 9 rfl) (fun x9 rx9 => ?_)
      refine to_aload_np (dat dk_X0_slotOf 10 rfl) (hI.1.2.2.2 _ _ (hI.bty ht)).1 rfl (to_iload (dat dk_X0_slotOf 11 rfl) rfl ?_)
      obtain ⟨x10, ex10⟩ : ∃ y : Int, h.2.2 t 1 = y := ⟨_, rfl⟩
      have rx10 := hI.blen ht
      rw [ex10] at rx10
      refine to_cI ca_c1_51 (dat dk_X0_slotOf 12 rfl) (ct_X1_byteAt l h hI t ht y2 ry2) rfl ⟨_, _, rfl, (hI.bty ht)⟩ rfl (fun x11 h12 rx11 p13 => ?_)
      obtain ⟨rfl, p13_0⟩ := p13
      refine to_iaddA (dat dk_X0_slotOf 13 rfl) (fun x14 rx14 => ?_)
      refine to_istore_n (L' := [(0, .inr (.inr t)), (1, .inl f), (2, .inl g), (3, .inl x14), (4, .inl y2)]) (dat dk_X0_slotOf 14 rfl) (by decide) rfl (to_iinc (L' := [(0, .inr (.inr t)), (1, .inl f), (2, .inl g), (3, .inl x14), (4, .inl (y2 + 1))]) (dat dk_X0_slotOf 15 rfl) rfl (by decide) rfl (to_goto (dat dk_X0_slotOf 16 rfl) rfl ?_))
      exact ihn3 (n3 - 1) (by omega) x14 (y2 + 1) rx14 (by omega) (show g - (y2 + 1) ≤ ((n3 - 1 : Nat) : Int) by omega)
  exact lp5_n3 (g - f).toNat 0 f (by decide) hf (by omega)
abbrev Q_X0_begins (h : Hp) (b : Nat) (n : Int) (t : Nat) (f : Int) (g : Int) : Option V → Hp → Nat → Nat → Prop := RI (fun x H => h = H ∧ (x = 0 ∨ x = 1))
set_option maxRecDepth 100000 in
theorem ct_X0_begins (l : Launch) (h : Hp) (hI : Inv h) (b : Nat) (wb : Nat) (hb : isK b wb = true) (n : Int) (hn : I32 n) (t : Nat) (ht : isB t = true) (f : Int) (hf : I32 f) (g : Int) (hg : I32 g) : Ct l D_X0_begins 1 21 [.inr (.inr b), .inl n, .inr (.inr t), .inl f, .inl g] h (Q_X0_begins h b n t f g) := by
  refine ct_of pn_X0_begins (Nat.le_of_ble_eq_true rfl) ?_
  show To l E_X0_begins (0, [(0, .inr (.inr b)), (1, .inl n), (2, .inr (.inr t)), (3, .inl f), (4, .inl g)], [], h, 0, 0) _
  refine to_aload_np (dat dk_X0_begins 0 rfl) (hI.posN (hI.kty hb)) rfl (to_iload_n (dat dk_X0_begins 1 rfl) rfl ?_)
  refine to_cI ca_c1_32 (dat dk_X0_begins 2 rfl) (ct_X0_sizeOf l h hI b wb hb n hn) rfl ⟨_, _, rfl, (hI.kty hb)⟩ rfl (fun x1 h2 rx1 p3 => ?_)
  subst p3
  refine to_iload (dat dk_X0_begins 3 rfl) rfl (to_iload_n (dat dk_X0_begins 4 rfl) rfl ?_)
  refine to_isubA (dat dk_X0_begins 5 rfl) (fun x4 rx4 => ?_)
  refine to_ilt 25 (dat dk_X0_begins 6 rfl) rfl rx1 rx4 (fun c5 => ?_) (fun c5 => ?_)
  · skip
    refine to_iconst (dat dk_X0_begins 14 rfl) ?_
    exact to_zret rfl (dat dk_X0_begins 15 rfl) (by decide) (ri_mk (by decide) ⟨rfl, (by decide)⟩)
  · skip
    refine to_iload_n (dat dk_X0_begins 7 rfl) rfl ?_
    refine to_iflt 25 (dat dk_X0_begins 8 rfl) rfl hn (fun c6 => ?_) (fun c6 => ?_)
    · skip
      refine to_iconst (dat dk_X0_begins 14 rfl) ?_
      exact to_zret rfl (dat dk_X0_begins 15 rfl) (by decide) (ri_mk (by decide) ⟨rfl, (by decide)⟩)
    · skip
      refine to_iload_n (dat dk_X0_begins 9 rfl) rfl (to_aload_np (dat dk_X0_begins 10 rfl) (hI.posN (hI.kty hb)) rfl ?_)
      obtain ⟨q7, nq7, eq7, pq7, tq7⟩ := hI.k2 hb
      have lq7 := hI.lenM tq7
      refine to_getR q7 g_c1_18 (dat dk_X0_begins 11 rfl) (hI.kty hb) eq7 (to_alen (dat dk_X0_begins 12 rfl) tq7 (by have := (isK_w hb); omega) ?_)
      refine to_ilt 27 (dat dk_X0_begins 13 rfl) rfl hn (by omega) (fun c8 => ?_) (fun c8 => ?_)
      · skip
        refine to_aload_np (dat dk_X0_begins 16 rfl) (hI.posN (hI.kty hb)) rfl (to_getR q7 g_c1_18 (dat dk_X0_begins 17 rfl) (hI.kty hb) eq7 (to_iload_n (dat dk_X0_begins 18 rfl) rfl ?_))
        obtain ⟨x9, ex9⟩ : ∃ y : Int, h.2.2 q7 (Int.toNat n) = y := ⟨_, rfl⟩
        have rx9 := hI.con0 tq7 (isK_w hb) (Int.toNat n)
        rw [ex9] at rx9
        refine to_ialdv ex9 (dat dk_X0_begins 19 rfl) tq7 (isK_w hb) (hI.lenN tq7) (by omega) (to_iload_n (dat dk_X0_begins 20 rfl) rfl ?_)
        refine to_isubA (dat dk_X0_begins 21 rfl) (fun x10 rx10 => ?_)
        refine to_istore (L' := [(0, .inr (.inr b)), (1, .inl n), (2, .inr (.inr t)), (3, .inl f), (4, .inl g), (5, .inl x10)]) (dat dk_X0_begins 22 rfl) (by decide) rfl (to_iload_n (dat dk_X0_begins 23 rfl) rfl (to_istore (L' := [(0, .inr (.inr b)), (1, .inl n), (2, .inr (.inr t)), (3, .inl f), (4, .inl g), (5, .inl x10), (6, .inl f)]) (dat dk_X0_begins 24 rfl) (by decide) rfl ?_))
        have lp40_n12 : ∀ (n12 : Nat) (y11 : Int), (I32 y11) → (g - y11 ≤ (n12 : Int)) → To l E_X0_begins (40, [(0, .inr (.inr b)), (1, .inl n), (2, .inr (.inr t)), (3, .inl f), (4, .inl g), (5, .inl x10), (6, .inl y11)], [], h, 0, 0) (Q_X0_begins h b n t f g) := by
          intro n12
          induction n12 using Nat.strongRecOn with
          | _ n12 ihn12 =>
          intro y11 ry11 c13
          refine to_iload (dat dk_X0_begins 25 rfl) rfl (to_iload (dat dk_X0_begins 26 rfl) rfl ?_)
          refine to_ige 97 (dat dk_X0_begins 27 rfl) rfl ry11 hg (fun c14 => ?_) (fun c14 => ?_)
          · skip
            refine to_iconst (dat dk_X0_begins 53 rfl) ?_
            exact to_zret rfl (dat dk_X0_begins 54 rfl) (by decide) (ri_mk (by decide) ⟨rfl, (by decide)⟩)
          · skip
            refine to_iload (dat dk_X0_begins 28 rfl) rfl (to_iload (dat dk_X0_begins 29 rfl) rfl ?_)
            refine to_iaddA (dat dk_X0_begins 30 rfl) (fun x15 rx15 => ?_)
            refine to_istore (L' := [(0, .inr (.inr b)), (1, .inl n), (2, .inr (.inr t)), (3, .inl f), (4, .inl g), (5, .inl x10), (6, .inl y11), (7, .inl x15)]) (dat dk_X0_begins 31 rfl) (by decide) rfl (to_iload (dat dk_X0_begins 32 rfl) rfl ?_)
            refine to_iflt 89 (dat dk_X0_begins 33 rfl) rfl rx15 (fun c16 => ?_) (fun c16 => ?_)
            · skip
              refine to_iconst (dat dk_X0_begins 49 rfl) ?_
              exact to_zret rfl (dat dk_X0_begins 50 rfl) (by decide) (ri_mk (by decide) ⟨rfl, (by decide)⟩)
            · skip
              refine to_iload (dat dk_X0_begins 34 rfl) rfl (to_aload_np (dat dk_X0_begins 35 rfl) (hI.posN (hI.kty hb)) rfl ?_)
              obtain ⟨q17, nq17, eq17, pq17, tq17⟩ := hI.k4 hb
              have lq17 := hI.lenM tq17
              refine to_getR q17 g_c1_24 (dat dk_X0_begins 36 rfl) (hI.kty hb) eq17 (to_alen (dat dk_X0_begins 37 rfl) tq17 (by have := (isK_r hb); omega) ?_)
              refine to_ige 89 (dat dk_X0_begins 38 rfl) rfl rx15 (by omega) (fun c18 => ?_) (fun c18 => ?_)
              · skip
                refine to_iconst (dat dk_X0_begins 49 rfl) ?_
                exact to_zret rfl (dat dk_X0_begins 50 rfl) (by decide) (ri_mk (by decide) ⟨rfl, (by decide)⟩)
              · skip
                refine to_aload_np (dat dk_X0_begins 39 rfl) (hI.posN (hI.kty hb)) rfl (to_getR q17 g_c1_24 (dat dk_X0_begins 40 rfl) (hI.kty hb) eq17 (to_iload (dat dk_X0_begins 41 rfl) rfl ?_))
                obtain ⟨x19, ex19⟩ : ∃ y : Int, h.2.2 q17 (Int.toNat x15) = y := ⟨_, rfl⟩
                have rx19 := hI.con1 tq17 (isK_r hb) (Int.toNat x15)
                rw [ex19] at rx19
                refine to_baldv (q := 1) ex19 (dat dk_X0_begins 42 rfl) (by decide) tq17 (isK_r hb) (hI.lenN tq17) (by omega) (to_sipush (dat dk_X0_begins 43 rfl) (by decide) ?_)
                refine to_iand 255 255 (dat dk_X0_begins 44 rfl) (by decide) (by decide) (fun x20 rx20 mx20 => ?_)
                refine to_aload_np (dat dk_X0_begins 45 rfl) (hI.1.2.2.2 _ _ (hI.bty ht)).1 rfl (to_iload (dat dk_X0_begins 46 rfl) rfl ?_)
                obtain ⟨x21, ex21⟩ : ∃ y : Int, h.2.2 t 1 = y := ⟨_, rfl⟩
                have rx21 := hI.blen ht
                rw [ex21] at rx21
                refine to_cI ca_c1_51 (dat dk_X0_begins 47 rfl) (ct_X1_byteAt l h hI t ht y11 ry11) rfl ⟨_, _, rfl, (hI.bty ht)⟩ rfl (fun x22 h23 rx22 p24 => ?_)
                obtain ⟨rfl, p24_0⟩ := p24
                refine to_ieq 91 (dat dk_X0_begins 48 rfl) rfl rx20 rx22 (fun c25 => ?_) (fun c25 => ?_)
                · skip
                  refine to_iinc (L' := [(0, .inr (.inr b)), (1, .inl n), (2, .inr (.inr t)), (3, .inl f), (4, .inl g), (5, .inl x10), (6, .inl (y11 + 1)), (7, .inl x15)]) (dat dk_X0_begins 51 rfl) rfl (by decide) rfl (to_goto (dat dk_X0_begins 52 rfl) rfl ?_)
                  refine to_pick [0, 1, 2, 3, 4, 5, 6] rfl ?_
                  exact ihn12 (n12 - 1) (by omega) (y11 + 1) (by omega) (show g - (y11 + 1) ≤ ((n12 - 1 : Nat) : Int) by omega)
                · skip
                  refine to_iconst (dat dk_X0_begins 49 rfl) ?_
                  exact to_zret rfl (dat dk_X0_begins 50 rfl) (by decide) (ri_mk (by decide) ⟨rfl, (by decide)⟩)
        exact lp40_n12 (g - f).toNat f hf (by omega)
      · skip
        refine to_iconst (dat dk_X0_begins 14 rfl) ?_
        exact to_zret rfl (dat dk_X0_begins 15 rfl) (by decide) (ri_mk (by decide) ⟨rfl, (by decide)⟩)
abbrev Q_X0_find (h : Hp) (b : Nat) (t : Nat) (f : Int) (g : Int) : Option V → Hp → Nat → Nat → Prop := RI (fun x H => h = H ∧ (-1 ≤ x))
set_option maxRecDepth 100000 in
theorem ct_X0_find (l : Launch) (h : Hp) (hI : Inv h) (b : Nat) (wb : Nat) (hb : isK b wb = true) (t : Nat) (ht : isB t = true) (f : Int) (hf : I32 f) (g : Int) (hg : I32 g) : Ct l D_X0_find 2 48 [.inr (.inr b), .inr (.inr t), .inl f, .inl g] h (Q_X0_find h b t f g) := by
  refine ct_of pn_X0_find (Nat.le_of_ble_eq_true rfl) ?_
  show To l E_X0_find (0, [(0, .inr (.inr b)), (1, .inr (.inr t)), (2, .inl f), (3, .inl g)], [], h, 0, 0) _
  refine to_aload_np (dat dk_X0_find 0 rfl) (hI.1.2.2.2 _ _ (hI.bty ht)).1 rfl (to_iload_n (dat dk_X0_find 1 rfl) rfl (to_iload_n (dat dk_X0_find 2 rfl) rfl ?_))
  refine to_cI ca_c1_36 (dat dk_X0_find 3 rfl) (ct_X0_slotOf l h hI t ht f hf g hg) rfl trivial rfl (fun x1 h2 rx1 p3 => ?_)
  obtain ⟨rfl, p3_0⟩ := p3
  refine to_istore (L' := [(0, .inr (.inr b)), (1, .inr (.inr t)), (2, .inl f), (3, .inl g), (4, .inl x1)]) (dat dk_X0_find 4 rfl) (by decide) rfl ?_
  have jn36_n5 : ∀ (y4 : Int), (I32 y4) → To l E_X0_find (36, [(0, .inr (.inr b)), (1, .inr (.inr t)), (2, .inl f), (3, .inl g), (4, .inl x1)], [.inl y4], h, 0, 0) (Q_X0_find h b t f g) := by
    intro y4 ry4
    refine to_istore (L' := [(0, .inr (.inr b)), (1, .inr (.inr t)), (2, .inl f), (3, .inl g), (4, .inl x1), (5, .inl y4)]) (dat dk_X0_find 20 rfl) (by decide) rfl (to_iconst (dat dk_X0_find 21 rfl) (to_istore (L' := [(0, .inr (.inr b)), (1, .inr (.inr t)), (2, .inl f), (3, .inl g), (4, .inl x1), (5, .inl y4), (6, .inl 0)]) (dat dk_X0_find 22 rfl) (by decide) rfl ?_))
    have lp41_n8 : ∀ (n8 : Nat) (y6 : Int) (y7 : Int), (I32 y6) → (I32 y7) → (h.2.2 b 5 - y7 ≤ (n8 : Int)) → To l E_X0_find (41, [(0, .inr (.inr b)), (1, .inr (.inr t)), (2, .inl f), (3, .inl g), (4, .inl x1), (5, .inl y6), (6, .inl y7)], [], h, 0, 0) (Q_X0_find h b t f g) := by
      intro n8
      induction n8 using Nat.strongRecOn with
      | _ n8 ihn8 =>
      intro y6 y7 ry6 ry7 c9
      refine to_iload (dat dk_X0_find 23 rfl) rfl (to_aload_np (dat dk_X0_find 24 rfl) (hI.posN (hI.kty hb)) rfl ?_)
      obtain ⟨x10, ex10⟩ : ∃ y : Int, h.2.2 b 5 = y := ⟨_, rfl⟩
      have rx10 := hI.k5 hb
      rw [ex10] at rx10
      refine to_getIv (y := x10) ex10 g_c1_28 (dat dk_X0_find 25 rfl) (hI.kty hb) ?_
      refine to_ige 107 (dat dk_X0_find 26 rfl) rfl ry7 (by omega) (fun c11 => ?_) (fun c11 => ?_)
      · skip
        refine to_iconst (dat dk_X0_find 57 rfl) ?_
        exact to_iret rfl (dat dk_X0_find 58 rfl) (ri_mk (by decide) ⟨rfl, (show -1 ≤ (-1 : Int) by omega)⟩)
      · skip
        refine to_iload (dat dk_X0_find 27 rfl) rfl ?_
        refine to_iflt 107 (dat dk_X0_find 28 rfl) rfl ry6 (fun c12 => ?_) (fun c12 => ?_)
        · skip
          refine to_iconst (dat dk_X0_find 57 rfl) ?_
          exact to_iret rfl (dat dk_X0_find 58 rfl) (ri_mk (by decide) ⟨rfl, (show -1 ≤ (-1 : Int) by omega)⟩)
        · skip
          refine to_iload (dat dk_X0_find 29 rfl) rfl (to_aload_np (dat dk_X0_find 30 rfl) (hI.posN (hI.kty hb)) rfl ?_)
          obtain ⟨q13, nq13, eq13, pq13, tq13⟩ := hI.k1 hb
          have lq13 := hI.lenM tq13
          refine to_getR q13 g_c1_15 (dat dk_X0_find 31 rfl) (hI.kty hb) eq13 (to_alen (dat dk_X0_find 32 rfl) tq13 (by have := (isK_n hb); omega) ?_)
          refine to_ige 107 (dat dk_X0_find 33 rfl) rfl ry6 (by omega) (fun c14 => ?_) (fun c14 => ?_)
          · skip
            refine to_iconst (dat dk_X0_find 57 rfl) ?_
            exact to_iret rfl (dat dk_X0_find 58 rfl) (ri_mk (by decide) ⟨rfl, (show -1 ≤ (-1 : Int) by omega)⟩)
          · skip
            refine to_aload_np (dat dk_X0_find 34 rfl) (hI.posN (hI.kty hb)) rfl (to_iload (dat dk_X0_find 35 rfl) rfl ?_)
            refine to_cI ca_c1_32 (dat dk_X0_find 36 rfl) (ct_X0_sizeOf l h hI b wb hb y6 ry6) rfl ⟨_, _, rfl, (hI.kty hb)⟩ rfl (fun x15 h16 rx15 p17 => ?_)
            subst p17
            refine to_iload_n (dat dk_X0_find 37 rfl) rfl (to_iload_n (dat dk_X0_find 38 rfl) rfl ?_)
            refine to_isubA (dat dk_X0_find 39 rfl) (fun x18 rx18 => ?_)
            refine to_ine 92 (dat dk_X0_find 40 rfl) rfl rx15 rx18 (fun c19 => ?_) (fun c19 => ?_)
            · skip
              refine to_aload_np (dat dk_X0_find 50 rfl) (hI.posN (hI.kty hb)) rfl (to_getR q13 g_c1_15 (dat dk_X0_find 51 rfl) (hI.kty hb) eq13 (to_iload (dat dk_X0_find 52 rfl) rfl ?_))
              obtain ⟨x20, ex20⟩ : ∃ y : Int, h.2.2 q13 (Int.toNat y6) = y := ⟨_, rfl⟩
              have rx20 := hI.con0 tq13 (isK_n hb) (Int.toNat y6)
              rw [ex20] at rx20
              refine to_ialdv ex20 (dat dk_X0_find 53 rfl) tq13 (isK_n hb) (hI.lenN tq13) (by omega) (to_istore (L' := [(0, .inr (.inr b)), (1, .inr (.inr t)), (2, .inl f), (3, .inl g), (4, .inl x1), (5, .inl x20), (6, .inl y7)]) (dat dk_X0_find 54 rfl) (by decide) rfl (to_iinc (L' := [(0, .inr (.inr b)), (1, .inr (.inr t)), (2, .inl f), (3, .inl g), (4, .inl x1), (5, .inl x20), (6, .inl (y7 + 1))]) (dat dk_X0_find 55 rfl) rfl (by decide) rfl (to_goto (dat dk_X0_find 56 rfl) rfl ?_)))
              exact ihn8 (n8 - 1) (by omega) x20 (y7 + 1) rx20 (by omega) (show h.2.2 b 5 - (y7 + 1) ≤ ((n8 - 1 : Nat) : Int) by omega)
            · skip
              refine to_aload_np (dat dk_X0_find 41 rfl) (hI.posN (hI.kty hb)) rfl (to_iload (dat dk_X0_find 42 rfl) rfl (to_aload_np (dat dk_X0_find 43 rfl) (hI.1.2.2.2 _ _ (hI.bty ht)).1 rfl (to_iload_n (dat dk_X0_find 44 rfl) rfl (to_iload_n (dat dk_X0_find 45 rfl) rfl ?_))))
              refine to_cI ca_c1_40 (dat dk_X0_find 46 rfl) (ct_X0_begins l h hI b wb hb y6 ry6 t ht f hf g hg) rfl ⟨_, _, rfl, (hI.kty hb)⟩ rfl (fun x21 h22 rx21 p23 => ?_)
              obtain ⟨rfl, zx21⟩ := p23
              refine to_ifeq 92 (dat dk_X0_find 47 rfl) rfl rx21 (fun c24 => ?_) (fun c24 => ?_)
              · skip
                refine to_aload_np (dat dk_X0_find 50 rfl) (hI.posN (hI.kty hb)) rfl (to_getR q13 g_c1_15 (dat dk_X0_find 51 rfl) (hI.kty hb) eq13 (to_iload (dat dk_X0_find 52 rfl) rfl ?_))
                obtain ⟨x25, ex25⟩ : ∃ y : Int, h.2.2 q13 (Int.toNat y6) = y := ⟨_, rfl⟩
                have rx25 := hI.con0 tq13 (isK_n hb) (Int.toNat y6)
                rw [ex25] at rx25
                refine to_ialdv ex25 (dat dk_X0_find 53 rfl) tq13 (isK_n hb) (hI.lenN tq13) (by omega) (to_istore (L' := [(0, .inr (.inr b)), (1, .inr (.inr t)), (2, .inl f), (3, .inl g), (4, .inl x1), (5, .inl x25), (6, .inl y7)]) (dat dk_X0_find 54 rfl) (by decide) rfl (to_iinc (L' := [(0, .inr (.inr b)), (1, .inr (.inr t)), (2, .inl f), (3, .inl g), (4, .inl x1), (5, .inl x25), (6, .inl (y7 + 1))]) (dat dk_X0_find 55 rfl) rfl (by decide) rfl (to_goto (dat dk_X0_find 56 rfl) rfl ?_)))
                exact ihn8 (n8 - 1) (by omega) x25 (y7 + 1) rx25 (by omega) (show h.2.2 b 5 - (y7 + 1) ≤ ((n8 - 1 : Nat) : Int) by omega)
              · skip
                refine to_iload (dat dk_X0_find 48 rfl) rfl ?_
                exact to_iret rfl (dat dk_X0_find 49 rfl) (ri_mk ry6 ⟨rfl, (show -1 ≤ y6 by omega)⟩)
    exact lp41_n8 (h.2.2 b 5 - (0 : Int)).toNat y4 0 ry4 (by decide) (by omega)
  refine to_iload (dat dk_X0_find 5 rfl) rfl ?_
  refine to_iflt 35 (dat dk_X0_find 6 rfl) rfl rx1 (fun c26 => ?_) (fun c26 => ?_)
  · skip
    refine to_iconst (dat dk_X0_find 19 rfl) ?_
    exact jn36_n5 (-1) (by decide)
  · skip
    refine to_iload (dat dk_X0_find 7 rfl) rfl (to_aload_np (dat dk_X0_find 8 rfl) (hI.posN (hI.kty hb)) rfl (to_getR (b + 1) g_c1_11 (dat dk_X0_find 9 rfl) (hI.kty hb) (hI.kh0 hb) (to_alen (dat dk_X0_find 10 rfl) (hI.kht hb) (by decide) ?_)))
    refine to_ige 35 (dat dk_X0_find 11 rfl) rfl rx1 (by decide) (fun c27 => ?_) (fun c27 => ?_)
    · skip
      refine to_iconst (dat dk_X0_find 19 rfl) ?_
      exact jn36_n5 (-1) (by decide)
    · skip
      refine to_aload_np (dat dk_X0_find 12 rfl) (hI.posN (hI.kty hb)) rfl (to_getR (b + 1) g_c1_11 (dat dk_X0_find 13 rfl) (hI.kty hb) (hI.kh0 hb) (to_iload (dat dk_X0_find 14 rfl) rfl ?_))
      obtain ⟨x28, ex28⟩ : ∃ y : Int, h.2.2 (b + 1) (Int.toNat x1) = y := ⟨_, rfl⟩
      have rx28 := hI.con0 (hI.kht hb) rfl (Int.toNat x1)
      rw [ex28] at rx28
      refine to_ialdv ex28 (dat dk_X0_find 15 rfl) (hI.kht hb) rfl (by decide) (by omega) (to_iconst (dat dk_X0_find 16 rfl) ?_)
      refine to_isubA (dat dk_X0_find 17 rfl) (fun x29 rx29 => ?_)
      refine to_goto (dat dk_X0_find 18 rfl) rfl ?_
      exact jn36_n5 x29 rx29
abbrev Q_X0_isAhead (h : Hp) (b : Nat) (m : Int) (n : Int) : Option V → Hp → Nat → Nat → Prop := RI (fun x H => h = H ∧ (x = 0 ∨ x = 1))
set_option maxRecDepth 100000 in
theorem ct_X0_isAhead (l : Launch) (h : Hp) (hI : Inv h) (b : Nat) (wb : Nat) (hb : isK b wb = true) (m : Int) (hm : I32 m) (n : Int) (hn : I32 n) : Ct l D_X0_isAhead 2 44 [.inr (.inr b), .inl m, .inl n] h (Q_X0_isAhead h b m n) := by
  refine ct_of pn_X0_isAhead (Nat.le_of_ble_eq_true rfl) ?_
  show To l E_X0_isAhead (0, [(0, .inr (.inr b)), (1, .inl m), (2, .inl n)], [], h, 0, 0) _
  refine to_aload_np (dat dk_X0_isAhead 0 rfl) (hI.posN (hI.kty hb)) rfl (to_iload_n (dat dk_X0_isAhead 1 rfl) rfl ?_)
  refine to_cI ca_c1_32 (dat dk_X0_isAhead 2 rfl) (ct_X0_sizeOf l h hI b wb hb m hm) rfl ⟨_, _, rfl, (hI.kty hb)⟩ rfl (fun x1 h2 rx1 p3 => ?_)
  subst p3
  refine to_aload_np (dat dk_X0_isAhead 3 rfl) (hI.posN (hI.kty hb)) rfl (to_iload_n (dat dk_X0_isAhead 4 rfl) rfl ?_)
  refine to_cI ca_c1_32 (dat dk_X0_isAhead 5 rfl) (ct_X0_sizeOf l h hI b wb hb n hn) rfl ⟨_, _, rfl, (hI.kty hb)⟩ rfl (fun x4 h5 rx4 p6 => ?_)
  subst p6
  refine to_mmin (tin 5 233 (by decide +kernel) rfl) (tin 3 170 (by decide +kernel) rfl) (tin 1 18 (by decide +kernel) rfl) (tin 3 171 (by decide +kernel) rfl) (dat dk_X0_isAhead 6 rfl) rx1 rx4 rfl (fun x7 ax7 bx7 => ?_)
  refine to_istore_n (L' := [(0, .inr (.inr b)), (1, .inl m), (2, .inl n), (3, .inl x7)]) (dat dk_X0_isAhead 7 rfl) (by decide) rfl (to_iconst (dat dk_X0_isAhead 8 rfl) (to_istore (L' := [(0, .inr (.inr b)), (1, .inl m), (2, .inl n), (3, .inl x7), (4, .inl 0)]) (dat dk_X0_isAhead 9 rfl) (by decide) rfl ?_))
  have lp17_n9 : ∀ (n9 : Nat) (y8 : Int), (I32 y8) → (x7 - y8 ≤ (n9 : Int)) → To l E_X0_isAhead (17, [(0, .inr (.inr b)), (1, .inl m), (2, .inl n), (3, .inl x7), (4, .inl y8)], [], h, 0, 0) (Q_X0_isAhead h b m n) := by
    intro n9
    induction n9 using Nat.strongRecOn with
    | _ n9 ihn9 =>
    intro y8 ry8 c10
    refine to_iload (dat dk_X0_isAhead 10 rfl) rfl (to_iload_n (dat dk_X0_isAhead 11 rfl) rfl ?_)
    refine to_ige 69 (dat dk_X0_isAhead 12 rfl) rfl ry8 (by omega) (fun c11 => ?_) (fun c11 => ?_)
    · skip
      refine to_aload_np (dat dk_X0_isAhead 37 rfl) (hI.posN (hI.kty hb)) rfl (to_iload_n (dat dk_X0_isAhead 38 rfl) rfl ?_)
      refine to_cI ca_c1_32 (dat dk_X0_isAhead 39 rfl) (ct_X0_sizeOf l h hI b wb hb m hm) rfl ⟨_, _, rfl, (hI.kty hb)⟩ rfl (fun x12 h13 rx12 p14 => ?_)
      subst p14
      refine to_aload_np (dat dk_X0_isAhead 40 rfl) (hI.posN (hI.kty hb)) rfl (to_iload_n (dat dk_X0_isAhead 41 rfl) rfl ?_)
      refine to_cI ca_c1_32 (dat dk_X0_isAhead 42 rfl) (ct_X0_sizeOf l h hI b wb hb n hn) rfl ⟨_, _, rfl, (hI.kty hb)⟩ rfl (fun x15 h16 rx15 p17 => ?_)
      subst p17
      refine to_ige 86 (dat dk_X0_isAhead 43 rfl) rfl rx12 rx15 (fun c18 => ?_) (fun c18 => ?_)
      · skip
        refine to_iconst (dat dk_X0_isAhead 46 rfl) ?_
        exact to_zret rfl (dat dk_X0_isAhead 47 rfl) (by decide) (ri_mk (by decide) ⟨rfl, (by decide)⟩)
      · skip
        refine to_iconst (dat dk_X0_isAhead 44 rfl) (to_goto (dat dk_X0_isAhead 45 rfl) rfl ?_)
        exact to_zret rfl (dat dk_X0_isAhead 47 rfl) (by decide) (ri_mk (by decide) ⟨rfl, (by decide)⟩)
    · skip
      refine to_aload_np (dat dk_X0_isAhead 13 rfl) (hI.posN (hI.kty hb)) rfl (to_iload_n (dat dk_X0_isAhead 14 rfl) rfl (to_iload (dat dk_X0_isAhead 15 rfl) rfl ?_))
      refine to_cI ca_c1_62 (dat dk_X0_isAhead 16 rfl) (ct_X0_byteOf l h hI b wb hb m hm y8 ry8) rfl ⟨_, _, rfl, (hI.kty hb)⟩ rfl (fun x19 h20 rx19 p21 => ?_)
      obtain ⟨rfl, p21_0⟩ := p21
      refine to_aload_np (dat dk_X0_isAhead 17 rfl) (hI.posN (hI.kty hb)) rfl (to_iload_n (dat dk_X0_isAhead 18 rfl) rfl (to_iload (dat dk_X0_isAhead 19 rfl) rfl ?_))
      refine to_cI ca_c1_62 (dat dk_X0_isAhead 20 rfl) (ct_X0_byteOf l h hI b wb hb n hn y8 ry8) rfl ⟨_, _, rfl, (hI.kty hb)⟩ rfl (fun x22 h23 rx22 p24 => ?_)
      obtain ⟨rfl, p24_0⟩ := p24
      refine to_ieq 63 (dat dk_X0_isAhead 21 rfl) rfl rx19 rx22 (fun c25 => ?_) (fun c25 => ?_)
      · skip
        refine to_iinc (L' := [(0, .inr (.inr b)), (1, .inl m), (2, .inl n), (3, .inl x7), (4, .inl (y8 + 1))]) (dat dk_X0_isAhead 35 rfl) rfl (by decide) rfl (to_goto (dat dk_X0_isAhead 36 rfl) rfl ?_)
        exact ihn9 (n9 - 1) (by omega) (y8 + 1) (by omega) (show x7 - (y8 + 1) ≤ ((n9 - 1 : Nat) : Int) by omega)
      · skip
        refine to_aload_np (dat dk_X0_isAhead 22 rfl) (hI.posN (hI.kty hb)) rfl (to_iload_n (dat dk_X0_isAhead 23 rfl) rfl (to_iload (dat dk_X0_isAhead 24 rfl) rfl ?_))
        refine to_cI ca_c1_62 (dat dk_X0_isAhead 25 rfl) (ct_X0_byteOf l h hI b wb hb m hm y8 ry8) rfl ⟨_, _, rfl, (hI.kty hb)⟩ rfl (fun x26 h27 rx26 p28 => ?_)
        obtain ⟨rfl, p28_0⟩ := p28
        refine to_aload_np (dat dk_X0_isAhead 26 rfl) (hI.posN (hI.kty hb)) rfl (to_iload_n (dat dk_X0_isAhead 27 rfl) rfl (to_iload (dat dk_X0_isAhead 28 rfl) rfl ?_))
        refine to_cI ca_c1_62 (dat dk_X0_isAhead 29 rfl) (ct_X0_byteOf l h hI b wb hb n hn y8 ry8) rfl ⟨_, _, rfl, (hI.kty hb)⟩ rfl (fun x29 h30 rx29 p31 => ?_)
        obtain ⟨rfl, p31_0⟩ := p31
        refine to_ige 61 (dat dk_X0_isAhead 30 rfl) rfl rx26 rx29 (fun c32 => ?_) (fun c32 => ?_)
        · skip
          refine to_iconst (dat dk_X0_isAhead 33 rfl) ?_
          exact to_zret rfl (dat dk_X0_isAhead 34 rfl) (by decide) (ri_mk (by decide) ⟨rfl, (by decide)⟩)
        · skip
          refine to_iconst (dat dk_X0_isAhead 31 rfl) (to_goto (dat dk_X0_isAhead 32 rfl) rfl ?_)
          exact to_zret rfl (dat dk_X0_isAhead 34 rfl) (by decide) (ri_mk (by decide) ⟨rfl, (by decide)⟩)
  exact lp17_n9 (x7 - (0 : Int)).toNat 0 (by decide) (by omega)
abbrev Q_X0_startRound_v8n (h : Hp) : Option V → Hp → Nat → Nat → Prop := RV (fun H => Inv H ∧ Fr [148] h H)
set_option maxRecDepth 100000 in
theorem ct_X0_startRound_v8n (l : Launch) (h : Hp) (hI : Inv h)  : Ct l D_X0_startRound 0 0 [.inr (.inr 8)] h (Q_X0_startRound_v8n h) := by
  refine ct_of pn_X0_startRound (Nat.le_of_ble_eq_true rfl) ?_
  show To l E_X0_startRound (0, [(0, .inr (.inr 8))], [], h, 0, 0) _
  refine to_aload_n (dat dk_X0_startRound 0 rfl) rfl (to_dup (dat dk_X0_startRound 1 rfl) rfl ?_)
  obtain ⟨x1, ex1⟩ : ∃ y : Int, h.2.2 8 6 = y := ⟨_, rfl⟩
  have rx1 := hI.atR (a := 8) (j := 6) rfl
  rw [ex1] at rx1
  refine to_getIv (y := x1) ex1 g_c1_65 (dat dk_X0_startRound 2 rfl) (hI.atS rfl) (to_iconst (dat dk_X0_startRound 3 rfl) ?_)
  refine to_iaddA (dat dk_X0_startRound 4 rfl) (fun x2 rx2 => ?_)
  refine to_putIw p_c1_65 (dat dk_X0_startRound 5 rfl) (hI.atS rfl) ?_
  intro h5 wh5
  have I3 : Inv h5 := by rw [wh5]; exact hI.put (a := 8) (j := 6) (x := x2) (-2147483648) (2147483647) rfl rfl (show (-2147483648 : Int) ≤ x2 ∧ x2 ≤ 2147483647 by omega)
  have f4 : Fr [148] h h5 := by rw [wh5]; exact Fr.putF (a := 8) (j := 6) (x := x2) (Fr.rf _ _) rfl
  exact to_vret rfl (dat dk_X0_startRound 6 rfl) (rv_mk ⟨I3, f4⟩)
abbrev Q_X0_isNewInRound_v8 (h : Hp) (n : Int) : Option V → Hp → Nat → Nat → Prop := RI (fun x H => Inv H ∧ Fr [12, 366] h H ∧ (x = 0 ∨ x = 1))
set_option maxRecDepth 100000 in
theorem ct_X0_isNewInRound_v8 (l : Launch) (h : Hp) (hI : Inv h) (n : Int) (hn : I32 n) : Ct l D_X0_isNewInRound 0 0 [.inr (.inr 8), .inl n] h (Q_X0_isNewInRound_v8 h n) := by
  refine ct_of pn_X0_isNewInRound (Nat.le_of_ble_eq_true rfl) ?_
  show To l E_X0_isNewInRound (0, [(0, .inr (.inr 8)), (1, .inl n)], [], h, 0, 0) _
  refine to_iload_n (dat dk_X0_isNewInRound 0 rfl) rfl ?_
  refine to_iflt 26 (dat dk_X0_isNewInRound 1 rfl) rfl hn (fun c1 => ?_) (fun c1 => ?_)
  · skip
    refine to_iconst (dat dk_X0_isNewInRound 14 rfl) ?_
    exact to_zret rfl (dat dk_X0_isNewInRound 15 rfl) (by decide) (ri_mk (by decide) ⟨hI, (Fr.rf _ _), (by decide)⟩)
  · skip
    refine to_iload_n (dat dk_X0_isNewInRound 2 rfl) rfl (to_aload_n (dat dk_X0_isNewInRound 3 rfl) rfl ?_)
    obtain ⟨q2, nq2, eq2, pq2, tq2⟩ := hI.k3 (show isK 8 60 = true from rfl)
    have lq2 := hI.lenM tq2
    refine to_getR q2 g_c1_21 (dat dk_X0_isNewInRound 4 rfl) (hI.atS rfl) eq2 (to_alen (dat dk_X0_isNewInRound 5 rfl) tq2 (by decide) ?_)
    refine to_ige 26 (dat dk_X0_isNewInRound 6 rfl) rfl hn (by omega) (fun c3 => ?_) (fun c3 => ?_)
    · skip
      refine to_iconst (dat dk_X0_isNewInRound 14 rfl) ?_
      exact to_zret rfl (dat dk_X0_isNewInRound 15 rfl) (by decide) (ri_mk (by decide) ⟨hI, (Fr.rf _ _), (by decide)⟩)
    · skip
      refine to_aload_n (dat dk_X0_isNewInRound 7 rfl) rfl (to_getR q2 g_c1_21 (dat dk_X0_isNewInRound 8 rfl) (hI.atS rfl) eq2 (to_iload_n (dat dk_X0_isNewInRound 9 rfl) rfl ?_))
      obtain ⟨x4, ex4⟩ : ∃ y : Int, h.2.2 q2 (Int.toNat n) = y := ⟨_, rfl⟩
      have rx4 := hI.con0 tq2 rfl (Int.toNat n)
      rw [ex4] at rx4
      refine to_ialdv ex4 (dat dk_X0_isNewInRound 10 rfl) tq2 rfl (hI.lenN tq2) (by omega) (to_aload_n (dat dk_X0_isNewInRound 11 rfl) rfl ?_)
      obtain ⟨x5, ex5⟩ : ∃ y : Int, h.2.2 8 6 = y := ⟨_, rfl⟩
      have rx5 := hI.atR (a := 8) (j := 6) rfl
      rw [ex5] at rx5
      refine to_getIv (y := x5) ex5 g_c1_65 (dat dk_X0_isNewInRound 12 rfl) (hI.atS rfl) ?_
      refine to_ine 28 (dat dk_X0_isNewInRound 13 rfl) rfl rx4 (by omega) (fun c6 => ?_) (fun c6 => ?_)
      · skip
        refine to_aload_n (dat dk_X0_isNewInRound 16 rfl) rfl (to_getR q2 g_c1_21 (dat dk_X0_isNewInRound 17 rfl) (hI.atS rfl) eq2 (to_iload_n (dat dk_X0_isNewInRound 18 rfl) rfl (to_aload_n (dat dk_X0_isNewInRound 19 rfl) rfl (to_getIv (y := x5) ex5 g_c1_65 (dat dk_X0_isNewInRound 20 rfl) (hI.atS rfl) (to_iastw (dat dk_X0_isNewInRound 21 rfl) tq2 rfl (hI.lenN tq2) (by omega) ?_)))))
        intro h9 wh9
        have I7 : Inv h9 := by rw [wh9]; exact hI.putA (j := (Int.toNat n)) (x := x5) tq2 (by decide +kernel) rfl (show I32 x5 by omega)
        have f8 : Fr [12, 366] h h9 := by rw [wh9]; exact Fr.putA (j := (Int.toNat n)) (x := x5) (Fr.rf _ _) hI tq2 (by decide +kernel)
        have d10 : h9.2.1 q2 = some (.inl (560, nq2)) := by rw [wh9]; exact tq2
        refine to_iconst (dat dk_X0_isNewInRound 22 rfl) ?_
        exact to_zret rfl (dat dk_X0_isNewInRound 23 rfl) (by decide) (ri_mk (by decide) ⟨I7, f8, (by decide)⟩)
      · skip
        refine to_iconst (dat dk_X0_isNewInRound 14 rfl) ?_
        exact to_zret rfl (dat dk_X0_isNewInRound 15 rfl) (by decide) (ri_mk (by decide) ⟨hI, (Fr.rf _ _), (by decide)⟩)
abbrev Q_X0_startRound_v20n (h : Hp) : Option V → Hp → Nat → Nat → Prop := RV (fun H => Inv H ∧ Fr [160] h H)
set_option maxRecDepth 100000 in
theorem ct_X0_startRound_v20n (l : Launch) (h : Hp) (hI : Inv h)  : Ct l D_X0_startRound 0 0 [.inr (.inr 20)] h (Q_X0_startRound_v20n h) := by
  refine ct_of pn_X0_startRound (Nat.le_of_ble_eq_true rfl) ?_
  show To l E_X0_startRound (0, [(0, .inr (.inr 20))], [], h, 0, 0) _
  refine to_aload_n (dat dk_X0_startRound 0 rfl) rfl (to_dup (dat dk_X0_startRound 1 rfl) rfl ?_)
  obtain ⟨x1, ex1⟩ : ∃ y : Int, h.2.2 20 6 = y := ⟨_, rfl⟩
  have rx1 := hI.atR (a := 20) (j := 6) rfl
  rw [ex1] at rx1
  refine to_getIv (y := x1) ex1 g_c1_65 (dat dk_X0_startRound 2 rfl) (hI.atS rfl) (to_iconst (dat dk_X0_startRound 3 rfl) ?_)
  refine to_iaddA (dat dk_X0_startRound 4 rfl) (fun x2 rx2 => ?_)
  refine to_putIw p_c1_65 (dat dk_X0_startRound 5 rfl) (hI.atS rfl) ?_
  intro h5 wh5
  have I3 : Inv h5 := by rw [wh5]; exact hI.put (a := 20) (j := 6) (x := x2) (-2147483648) (2147483647) rfl rfl (show (-2147483648 : Int) ≤ x2 ∧ x2 ≤ 2147483647 by omega)
  have f4 : Fr [160] h h5 := by rw [wh5]; exact Fr.putF (a := 20) (j := 6) (x := x2) (Fr.rf _ _) rfl
  exact to_vret rfl (dat dk_X0_startRound 6 rfl) (rv_mk ⟨I3, f4⟩)
abbrev Q_X0_isNewInRound_v20 (h : Hp) (n : Int) : Option V → Hp → Nat → Nat → Prop := RI (fun x H => Inv H ∧ Fr [24, 368] h H ∧ (x = 0 ∨ x = 1))
set_option maxRecDepth 100000 in
theorem ct_X0_isNewInRound_v20 (l : Launch) (h : Hp) (hI : Inv h) (n : Int) (hn : I32 n) : Ct l D_X0_isNewInRound 0 0 [.inr (.inr 20), .inl n] h (Q_X0_isNewInRound_v20 h n) := by
  refine ct_of pn_X0_isNewInRound (Nat.le_of_ble_eq_true rfl) ?_
  show To l E_X0_isNewInRound (0, [(0, .inr (.inr 20)), (1, .inl n)], [], h, 0, 0) _
  refine to_iload_n (dat dk_X0_isNewInRound 0 rfl) rfl ?_
  refine to_iflt 26 (dat dk_X0_isNewInRound 1 rfl) rfl hn (fun c1 => ?_) (fun c1 => ?_)
  · skip
    refine to_iconst (dat dk_X0_isNewInRound 14 rfl) ?_
    exact to_zret rfl (dat dk_X0_isNewInRound 15 rfl) (by decide) (ri_mk (by decide) ⟨hI, (Fr.rf _ _), (by decide)⟩)
  · skip
    refine to_iload_n (dat dk_X0_isNewInRound 2 rfl) rfl (to_aload_n (dat dk_X0_isNewInRound 3 rfl) rfl ?_)
    obtain ⟨q2, nq2, eq2, pq2, tq2⟩ := hI.k3 (show isK 20 80 = true from rfl)
    have lq2 := hI.lenM tq2
    refine to_getR q2 g_c1_21 (dat dk_X0_isNewInRound 4 rfl) (hI.atS rfl) eq2 (to_alen (dat dk_X0_isNewInRound 5 rfl) tq2 (by decide) ?_)
    refine to_ige 26 (dat dk_X0_isNewInRound 6 rfl) rfl hn (by omega) (fun c3 => ?_) (fun c3 => ?_)
    · skip
      refine to_iconst (dat dk_X0_isNewInRound 14 rfl) ?_
      exact to_zret rfl (dat dk_X0_isNewInRound 15 rfl) (by decide) (ri_mk (by decide) ⟨hI, (Fr.rf _ _), (by decide)⟩)
    · skip
      refine to_aload_n (dat dk_X0_isNewInRound 7 rfl) rfl (to_getR q2 g_c1_21 (dat dk_X0_isNewInRound 8 rfl) (hI.atS rfl) eq2 (to_iload_n (dat dk_X0_isNewInRound 9 rfl) rfl ?_))
      obtain ⟨x4, ex4⟩ : ∃ y : Int, h.2.2 q2 (Int.toNat n) = y := ⟨_, rfl⟩
      have rx4 := hI.con0 tq2 rfl (Int.toNat n)
      rw [ex4] at rx4
      refine to_ialdv ex4 (dat dk_X0_isNewInRound 10 rfl) tq2 rfl (hI.lenN tq2) (by omega) (to_aload_n (dat dk_X0_isNewInRound 11 rfl) rfl ?_)
      obtain ⟨x5, ex5⟩ : ∃ y : Int, h.2.2 20 6 = y := ⟨_, rfl⟩
      have rx5 := hI.atR (a := 20) (j := 6) rfl
      rw [ex5] at rx5
      refine to_getIv (y := x5) ex5 g_c1_65 (dat dk_X0_isNewInRound 12 rfl) (hI.atS rfl) ?_
      refine to_ine 28 (dat dk_X0_isNewInRound 13 rfl) rfl rx4 (by omega) (fun c6 => ?_) (fun c6 => ?_)
      · skip
        refine to_aload_n (dat dk_X0_isNewInRound 16 rfl) rfl (to_getR q2 g_c1_21 (dat dk_X0_isNewInRound 17 rfl) (hI.atS rfl) eq2 (to_iload_n (dat dk_X0_isNewInRound 18 rfl) rfl (to_aload_n (dat dk_X0_isNewInRound 19 rfl) rfl (to_getIv (y := x5) ex5 g_c1_65 (dat dk_X0_isNewInRound 20 rfl) (hI.atS rfl) (to_iastw (dat dk_X0_isNewInRound 21 rfl) tq2 rfl (hI.lenN tq2) (by omega) ?_)))))
        intro h9 wh9
        have I7 : Inv h9 := by rw [wh9]; exact hI.putA (j := (Int.toNat n)) (x := x5) tq2 (by decide +kernel) rfl (show I32 x5 by omega)
        have f8 : Fr [24, 368] h h9 := by rw [wh9]; exact Fr.putA (j := (Int.toNat n)) (x := x5) (Fr.rf _ _) hI tq2 (by decide +kernel)
        have d10 : h9.2.1 q2 = some (.inl (580, nq2)) := by rw [wh9]; exact tq2
        refine to_iconst (dat dk_X0_isNewInRound 22 rfl) ?_
        exact to_zret rfl (dat dk_X0_isNewInRound 23 rfl) (by decide) (ri_mk (by decide) ⟨I7, f8, (by decide)⟩)
      · skip
        refine to_iconst (dat dk_X0_isNewInRound 14 rfl) ?_
        exact to_zret rfl (dat dk_X0_isNewInRound 15 rfl) (by decide) (ri_mk (by decide) ⟨hI, (Fr.rf _ _), (by decide)⟩)
