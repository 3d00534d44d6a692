/-! Contracts, by program. -/
abbrev Q_X6_tagPlace_vx (h : Hp) (m : Nat) (n : Int) : Option V → Hp → Nat → Nat → Prop := RI (fun x H => h = H ∧ (0 ≤ x ∧ x ≤ H.2.2 m 7) ∧ (TPl H m n x))
set_option maxRecDepth 100000 in
theorem ct_X6_tagPlace_vx (l : Launch) (h : Hp) (hI : Inv h) (m : Nat) (hm : full h m) (n : Int) (hn : I32 n) (g0 : T8 h m) : Ct l D_X6_tagPlace 0 0 [.inr (.inr m), .inl n] h (Q_X6_tagPlace_vx h m n) := by
  refine ct_of pn_X6_tagPlace (Nat.le_of_ble_eq_true rfl) ?_
  show To l E_X6_tagPlace (0, [(0, .inr (.inr m)), (1, .inl n)], [], h, 0, 0) _
  obtain ⟨T0, a06, b106, u06⟩ := id g0
  have lT0 := hI.lenM u06
  have zT6 : (h.2.2 m 6).toNat = T0 := by rw [a06]; exact Int.toNat_natCast T0
  have ztg : ∀ j : Int, tgr h m j = h.2.2 T0 j.toNat := fun j => by unfold tgr; rw [zT6]
  have zm7 := full.f7 hI hm
  have zmT : m ≠ T0 := fun e => by have := hm.1; rw [e] at this; cases this.symm.trans u06
  refine to_iconst (dat dk_X6_tagPlace 0 rfl) (to_istore_n (L' := [(0, .inr (.inr m)), (1, .inl n), (2, .inl 0)]) (dat dk_X6_tagPlace 1 rfl) (by decide) rfl ?_)
  have lp2_n4 : ∀ (n4 : Nat) (y1 : Int), (I32 y1) → (0 ≤ y1 ∧ y1 ≤ h.2.2 m 7) → (∀ j : Int, 0 ≤ j → j < y1 → tgr h m j ≠ n) → (h.2.2 m 7 - y1 ≤ (n4 : Int)) → To l E_X6_tagPlace (2, [(0, .inr (.inr m)), (1, .inl n), (2, .inl y1)], [], h, 0, 0) (Q_X6_tagPlace_vx h m n) := by
    intro n4
    induction n4 using Nat.strongRecOn with
    | _ n4 ihn4 =>
    intro y1 ry1 c2 c3 c5
    refine to_iload_n (dat dk_X6_tagPlace 2 rfl) rfl (to_aload_np (dat dk_X6_tagPlace 3 rfl) (by have := full.big hI hm; omega) rfl ?_)
    obtain ⟨x6, ex6⟩ : ∃ y : Int, h.2.2 m 7 = y := ⟨_, rfl⟩
    have rx6 := full.f7 hI hm
    rw [ex6] at rx6
    refine to_getIv (y := x6) ex6 g_c7_38 (dat dk_X6_tagPlace 4 rfl) hm.1 ?_
    refine to_ige 37 (dat dk_X6_tagPlace 5 rfl) rfl ry1 (by omega) (fun c7 => ?_) (fun c7 => ?_)
    · skip
      refine to_aload_np (dat dk_X6_tagPlace 21 rfl) (by have := full.big hI hm; omega) rfl (to_getIv (y := x6) ex6 g_c7_38 (dat dk_X6_tagPlace 22 rfl) hm.1 ?_)
      exact to_iret rfl (dat dk_X6_tagPlace 23 rfl) (ri_mk (by omega) ⟨rfl, (show 0 ≤ x6 ∧ x6 ≤ h.2.2 m 7 by omega), (Or.inr ⟨by omega, fun j j0 j1 => c3 j j0 (by omega)⟩)⟩)
    · skip
      refine to_iload_n (dat dk_X6_tagPlace 6 rfl) rfl (to_aload_np (dat dk_X6_tagPlace 7 rfl) (by have := full.big hI hm; omega) rfl (to_getR T0 g_c7_9 (dat dk_X6_tagPlace 8 rfl) hm.1 a06 (to_alen (dat dk_X6_tagPlace 9 rfl) u06 (by decide) ?_)))
      refine to_ige 37 (dat dk_X6_tagPlace 10 rfl) rfl ry1 (by decide) (fun c8 => ?_) (fun c8 => ?_)
      · skip
        refine to_aload_np (dat dk_X6_tagPlace 21 rfl) (by have := full.big hI hm; omega) rfl (to_getIv (y := x6) ex6 g_c7_38 (dat dk_X6_tagPlace 22 rfl) hm.1 ?_)
        exact to_iret rfl (dat dk_X6_tagPlace 23 rfl) (ri_mk (by omega) ⟨rfl, (show 0 ≤ x6 ∧ x6 ≤ h.2.2 m 7 by omega), (Or.inr ⟨by omega, fun j j0 j1 => c3 j j0 (by omega)⟩)⟩)
      · skip
        refine to_aload_np (dat dk_X6_tagPlace 11 rfl) (by have := full.big hI hm; omega) rfl (to_getR T0 g_c7_9 (dat dk_X6_tagPlace 12 rfl) hm.1 a06 (to_iload_n (dat dk_X6_tagPlace 13 rfl) rfl ?_))
        obtain ⟨x9, ex9⟩ : ∃ y : Int, h.2.2 T0 (Int.toNat y1) = y := ⟨_, rfl⟩
        have rx9 := hI.con0 u06 rfl (Int.toNat y1)
        rw [ex9] at rx9
        refine to_ialdv ex9 (dat dk_X6_tagPlace 14 rfl) u06 rfl (hI.lenN u06) (by omega) (to_iload_n (dat dk_X6_tagPlace 15 rfl) rfl ?_)
        refine to_ine 31 (dat dk_X6_tagPlace 16 rfl) rfl rx9 hn (fun c10 => ?_) (fun c10 => ?_)
        · skip
          refine to_iinc (L' := [(0, .inr (.inr m)), (1, .inl n), (2, .inl (y1 + 1))]) (dat dk_X6_tagPlace 19 rfl) rfl (by decide) rfl (to_goto (dat dk_X6_tagPlace 20 rfl) rfl ?_)
          exact ihn4 (n4 - 1) (by omega) (y1 + 1) (by omega) (show 0 ≤ (y1 + 1) ∧ (y1 + 1) ≤ h.2.2 m 7 by omega) (fun j j0 j1 => if cj : j = y1 then (by rw [cj, ztg]; omega) else c3 j j0 (by omega)) (show h.2.2 m 7 - (y1 + 1) ≤ ((n4 - 1 : Nat) : Int) by omega)
        · skip
          refine to_iload_n (dat dk_X6_tagPlace 17 rfl) rfl ?_
          exact to_iret rfl (dat dk_X6_tagPlace 18 rfl) (ri_mk ry1 ⟨rfl, (show 0 ≤ y1 ∧ y1 ≤ h.2.2 m 7 by omega), (Or.inl ⟨by omega, by omega, by rw [ztg]; omega⟩)⟩)
  exact lp2_n4 (h.2.2 m 7 - (0 : Int)).toNat 0 (by decide) (show 0 ≤ (0 : Int) ∧ (0 : Int) ≤ h.2.2 m 7 by omega) (fun j j0 j1 => absurd j1 (by omega)) (by omega)
abbrev Q_X6_hasTag_vx (h : Hp) (m : Nat) (n : Int) : Option V → Hp → Nat → Nat → Prop := RI (fun x H => h = H ∧ (x = 0 ∨ x = 1) ∧ ((x = 1 ∧ n ≠ -1 ∧ InN H m n) ∨ (x = 0 ∧ (n = -1 ∨ ¬ InN H m n))))
set_option maxRecDepth 100000 in
theorem ct_X6_hasTag_vx (l : Launch) (h : Hp) (hI : Inv h) (m : Nat) (hm : full h m) (n : Int) (hn : I32 n) (g0 : T8 h m) : Ct l D_X6_hasTag 1 22 [.inr (.inr m), .inl n] h (Q_X6_hasTag_vx h m n) := by
  refine ct_of pn_X6_hasTag (Nat.le_of_ble_eq_true rfl) ?_
  show To l E_X6_hasTag (0, [(0, .inr (.inr m)), (1, .inl n)], [], h, 0, 0) _
  refine to_iload_n (dat dk_X6_hasTag 0 rfl) rfl (to_iconst (dat dk_X6_hasTag 1 rfl) ?_)
  refine to_ieq 21 (dat dk_X6_hasTag 2 rfl) rfl hn (by decide) (fun c1 => ?_) (fun c1 => ?_)
  · skip
    refine to_iconst (dat dk_X6_hasTag 11 rfl) ?_
    exact to_zret rfl (dat dk_X6_hasTag 12 rfl) (by decide) (ri_mk (by decide) ⟨rfl, (by decide), (Or.inr ⟨rfl, Or.inl (by omega)⟩)⟩)
  · skip
    refine to_aload_np (dat dk_X6_hasTag 3 rfl) (by have := full.big hI hm; omega) rfl (to_iload_n (dat dk_X6_hasTag 4 rfl) rfl ?_)
    obtain ⟨x2, ex2⟩ : ∃ y : Int, h.2.2 m 7 = y := ⟨_, rfl⟩
    have rx2 := full.f7 hI hm
    rw [ex2] at rx2
    refine to_cI ca_c7_41 (dat dk_X6_hasTag 5 rfl) (ct_X6_tagPlace_vx l h hI m hm n hn g0) rfl ⟨_, _, rfl, hm.1⟩ rfl (fun x3 h4 rx3 p5 => ?_)
    obtain ⟨rfl, p5_0, p5_1⟩ := p5
    refine to_aload_np (dat dk_X6_hasTag 6 rfl) (by have := full.big hI hm; omega) rfl (to_getIv (y := x2) ex2 g_c7_38 (dat dk_X6_hasTag 7 rfl) hm.1 ?_)
    refine to_ige 21 (dat dk_X6_hasTag 8 rfl) rfl rx3 (by omega) (fun c6 => ?_) (fun c6 => ?_)
    · skip
      refine to_iconst (dat dk_X6_hasTag 11 rfl) ?_
      exact to_zret rfl (dat dk_X6_hasTag 12 rfl) (by decide) (ri_mk (by decide) ⟨rfl, (by decide), (Or.inr ⟨rfl, Or.inr (by rcases TPl.in p5_1 with ⟨q, _⟩ | ⟨_, q⟩; omega; exact q)⟩)⟩)
    · skip
      refine to_iconst (dat dk_X6_hasTag 9 rfl) (to_goto (dat dk_X6_hasTag 10 rfl) rfl ?_)
      exact to_zret rfl (dat dk_X6_hasTag 12 rfl) (by decide) (ri_mk (by decide) ⟨rfl, (by decide), (Or.inl ⟨rfl, by omega, by rcases TPl.in p5_1 with ⟨_, q⟩ | ⟨q, _⟩; exact q; omega⟩)⟩)
abbrev Q_X6_dropTag_vx (h : Hp) (m : Nat) (n : Int) : Option V → Hp → Nat → Nat → Prop := RV (fun H => Inv H ∧ Fr [311, 337] h H ∧ (DRm h H m n))
set_option maxRecDepth 100000 in
theorem ct_X6_dropTag_vx (l : Launch) (h : Hp) (hI : Inv h) (m : Nat) (hm : full h m) (n : Int) (hn : I32 n) (g0 : T8 h m) (g1 : InN h m n) : Ct l D_X6_dropTag 1 22 [.inr (.inr m), .inl n] h (Q_X6_dropTag_vx h m n) := by
  refine ct_of pn_X6_dropTag (Nat.le_of_ble_eq_true rfl) ?_
  show To l E_X6_dropTag (0, [(0, .inr (.inr m)), (1, .inl n)], [], h, 0, 0) _
  obtain ⟨x1, ex1⟩ : ∃ y : Int, h.2.2 m 7 = y := ⟨_, rfl⟩
  have rx1 := full.f7 hI hm
  rw [ex1] at rx1
  obtain ⟨T0, a06, b106, u06⟩ := id g0
  have lT0 := hI.lenM u06
  have zT6 : (h.2.2 m 6).toNat = T0 := by rw [a06]; exact Int.toNat_natCast T0
  have ztg : ∀ j : Int, tgr h m j = h.2.2 T0 j.toNat := fun j => by unfold tgr; rw [zT6]
  have zm7 := full.f7 hI hm
  have zmT : m ≠ T0 := fun e => by have := hm.1; rw [e] at this; cases this.symm.trans u06
  refine to_aload_np (dat dk_X6_dropTag 0 rfl) (by have := full.big hI hm; omega) rfl (to_iload_n (dat dk_X6_dropTag 1 rfl) rfl ?_)
  refine to_cI ca_c7_41 (dat dk_X6_dropTag 2 rfl) (ct_X6_tagPlace_vx l h hI m hm n hn g0) rfl ⟨_, _, rfl, hm.1⟩ rfl (fun x2 h3 rx2 p4 => ?_)
  obtain ⟨rfl, p4_0, p4_1⟩ := p4
  refine to_istore_n (L' := [(0, .inr (.inr m)), (1, .inl n), (2, .inl x2)]) (dat dk_X6_dropTag 3 rfl) (by decide) rfl ?_
  refine to_iload_n (dat dk_X6_dropTag 4 rfl) rfl (to_aload_np (dat dk_X6_dropTag 5 rfl) (by have := full.big hI hm; omega) rfl (to_getIv (y := x1) ex1 g_c7_38 (dat dk_X6_dropTag 6 rfl) hm.1 ?_))
  refine to_ilt 15 (dat dk_X6_dropTag 7 rfl) rfl rx2 (by omega) (fun c5 => ?_) (fun c5 => ?_)
  · skip
    refine to_iload_n (dat dk_X6_dropTag 9 rfl) rfl (to_istore_n (L' := [(0, .inr (.inr m)), (1, .inl n), (2, .inl x2), (3, .inl x2)]) (dat dk_X6_dropTag 10 rfl) (by decide) rfl ?_)
    have lp17_n12 : ∀ (n12 : Nat) (y6 : Int) (h7 : Hp), (I32 y6) → (Inv h7) → (Fr [311, 337] h h7) → (x2 ≤ y6 ∧ y6 < h.2.2 m 7) → (h7.2.2 m 7 = h.2.2 m 7) → (DL h h7 T0 x2 y6 (h.2.2 m 7)) → (OnT h h7 T0) → (9 - y6 ≤ (n12 : Int)) → To l E_X6_dropTag (17, [(0, .inr (.inr m)), (1, .inl n), (2, .inl x2), (3, .inl y6)], [], h7, 0, 0) (Q_X6_dropTag_vx h m n) := by
      intro n12
      induction n12 using Nat.strongRecOn with
      | _ n12 ihn12 =>
      intro y6 h7 ry6 Ih7 fh7 c8 c9 c10 c11 c13
      obtain ⟨x14, ex14⟩ : ∃ y : Int, h7.2.2 m 7 = y := ⟨_, rfl⟩
      have rx14 := full.f7 Ih7 (full.fr fh7 rfl hI hm)
      rw [ex14] at rx14
      refine to_iload_n (dat dk_X6_dropTag 11 rfl) rfl (to_iconst (dat dk_X6_dropTag 12 rfl) (to_iadd (dat dk_X6_dropTag 13 rfl) (to_aload_np (dat dk_X6_dropTag 14 rfl) (by have := full.big Ih7 (full.fr fh7 rfl hI hm); omega) rfl (to_getIv (y := x14) ex14 g_c7_38 (dat dk_X6_dropTag 15 rfl) (full.fr fh7 rfl hI hm).1 ?_))))
      refine to_ige 58 (dat dk_X6_dropTag 16 rfl) rfl (by omega) (by omega) (fun c15 => ?_) (fun c15 => ?_)
      · skip
        refine to_aload_np (dat dk_X6_dropTag 36 rfl) (by have := full.big Ih7 (full.fr fh7 rfl hI hm); omega) rfl (to_dup (dat dk_X6_dropTag 37 rfl) rfl (to_getIv (y := x14) ex14 g_c7_38 (dat dk_X6_dropTag 38 rfl) (full.fr fh7 rfl hI hm).1 (to_iconst (dat dk_X6_dropTag 39 rfl) (to_isub (dat dk_X6_dropTag 40 rfl) (to_putIw p_c7_38 (dat dk_X6_dropTag 41 rfl) (full.fr fh7 rfl hI hm).1 ?_)))))
        intro h18 wh18
        have I16 : Inv h18 := by rw [wh18]; exact Ih7.putM (x := (x14 - 1)) (full.fr fh7 rfl hI hm).1 (by omega)
        have f17 : Fr [311, 337] h h18 := by rw [wh18]; exact Fr.putM (x := (x14 - 1)) fh7 Ih7 (full.fr fh7 rfl hI hm).1 rfl
        have d19 : full h18 m := by rw [wh18]; exact full.put7 (full.fr fh7 rfl hI hm)
        have d20 : h18.2.1 T0 = some (.inl (10, 8)) := by rw [wh18]; exact ((fh7.1.2 _ (hI.ltN u06)).trans u06)
        exact to_vret rfl (dat dk_X6_dropTag 42 rfl) (rv_mk ⟨I16, f17, (DL.fin (c := h.2.2 m 7) c10 c11 a06 zmT rfl (by omega) (by rcases p4_1 with ⟨_, _, q⟩ | ⟨q, _⟩; exact q; omega) (by omega) wh18 (by omega))⟩)
      · skip
        refine to_iload_n (dat dk_X6_dropTag 17 rfl) rfl (to_iconst (dat dk_X6_dropTag 18 rfl) (to_iadd (dat dk_X6_dropTag 19 rfl) (to_aload_np (dat dk_X6_dropTag 20 rfl) (by have := full.big Ih7 (full.fr fh7 rfl hI hm); omega) rfl (to_getR T0 g_c7_9 (dat dk_X6_dropTag 21 rfl) (full.fr fh7 rfl hI hm).1 ((full.get (j := 6) fh7 hI hm rfl).trans a06) (to_alen (dat dk_X6_dropTag 22 rfl) ((fh7.1.2 _ (hI.ltN u06)).trans u06) (by decide) ?_)))))
        refine to_ige 58 (dat dk_X6_dropTag 23 rfl) rfl (by omega) (by decide) (fun c21 => ?_) (fun c21 => ?_)
        · skip
          refine to_aload_np (dat dk_X6_dropTag 36 rfl) (by have := full.big Ih7 (full.fr fh7 rfl hI hm); omega) rfl (to_dup (dat dk_X6_dropTag 37 rfl) rfl (to_getIv (y := x14) ex14 g_c7_38 (dat dk_X6_dropTag 38 rfl) (full.fr fh7 rfl hI hm).1 (to_iconst (dat dk_X6_dropTag 39 rfl) (to_isub (dat dk_X6_dropTag 40 rfl) (to_putIw p_c7_38 (dat dk_X6_dropTag 41 rfl) (full.fr fh7 rfl hI hm).1 ?_)))))
          intro h24 wh24
          have I22 : Inv h24 := by rw [wh24]; exact Ih7.putM (x := (x14 - 1)) (full.fr fh7 rfl hI hm).1 (by omega)
          have f23 : Fr [311, 337] h h24 := by rw [wh24]; exact Fr.putM (x := (x14 - 1)) fh7 Ih7 (full.fr fh7 rfl hI hm).1 rfl
          have d25 : full h24 m := by rw [wh24]; exact full.put7 (full.fr fh7 rfl hI hm)
          have d26 : h24.2.1 T0 = some (.inl (10, 8)) := by rw [wh24]; exact ((fh7.1.2 _ (hI.ltN u06)).trans u06)
          exact to_vret rfl (dat dk_X6_dropTag 42 rfl) (rv_mk ⟨I22, f23, (DL.fin (c := h.2.2 m 7) c10 c11 a06 zmT rfl (by omega) (by rcases p4_1 with ⟨_, _, q⟩ | ⟨q, _⟩; exact q; omega) (by omega) wh24 (by omega))⟩)
        · skip
          refine to_aload_np (dat dk_X6_dropTag 24 rfl) (by have := full.big Ih7 (full.fr fh7 rfl hI hm); omega) rfl (to_getR T0 g_c7_9 (dat dk_X6_dropTag 25 rfl) (full.fr fh7 rfl hI hm).1 ((full.get (j := 6) fh7 hI hm rfl).trans a06) (to_iload_n (dat dk_X6_dropTag 26 rfl) rfl (to_aload_np (dat dk_X6_dropTag 27 rfl) (by have := full.big Ih7 (full.fr fh7 rfl hI hm); omega) rfl (to_getR T0 g_c7_9 (dat dk_X6_dropTag 28 rfl) (full.fr fh7 rfl hI hm).1 ((full.get (j := 6) fh7 hI hm rfl).trans a06) (to_iload_n (dat dk_X6_dropTag 29 rfl) rfl (to_iconst (dat dk_X6_dropTag 30 rfl) (to_iadd (dat dk_X6_dropTag 31 rfl) ?_)))))))
          obtain ⟨x27, ex27⟩ : ∃ y : Int, h7.2.2 T0 (Int.toNat (y6 + 1)) = y := ⟨_, rfl⟩
          have rx27 := Ih7.con0 ((fh7.1.2 _ (hI.ltN u06)).trans u06) rfl (Int.toNat (y6 + 1))
          rw [ex27] at rx27
          refine to_ialdv ex27 (dat dk_X6_dropTag 32 rfl) ((fh7.1.2 _ (hI.ltN u06)).trans u06) rfl (Ih7.lenN ((fh7.1.2 _ (hI.ltN u06)).trans u06)) (by omega) (to_iastw (dat dk_X6_dropTag 33 rfl) ((fh7.1.2 _ (hI.ltN u06)).trans u06) rfl (Ih7.lenN ((fh7.1.2 _ (hI.ltN u06)).trans u06)) (by omega) ?_)
          intro h30 wh30
          have I28 : Inv h30 := by rw [wh30]; exact Ih7.putA (j := (Int.toNat y6)) (x := x27) ((fh7.1.2 _ (hI.ltN u06)).trans u06) (by decide +kernel) rfl rx27
          have f29 : Fr [311, 337] h h30 := by rw [wh30]; exact Fr.putA (j := (Int.toNat y6)) (x := x27) fh7 Ih7 ((fh7.1.2 _ (hI.ltN u06)).trans u06) (by decide +kernel)
          have d31 : full h30 m := by rw [wh30]; exact full.putA ((fh7.1.2 _ (hI.ltN u06)).trans u06) (full.fr fh7 rfl hI hm)
          have d32 : h30.2.1 T0 = some (.inl (10, 8)) := by rw [wh30]; exact ((fh7.1.2 _ (hI.ltN u06)).trans u06)
          refine to_iinc (L' := [(0, .inr (.inr m)), (1, .inl n), (2, .inl x2), (3, .inl (y6 + 1))]) (dat dk_X6_dropTag 34 rfl) rfl (by decide) rfl (to_goto (dat dk_X6_dropTag 35 rfl) rfl ?_)
          have e33 : h30.2.2 m 7 = x14 := (by rw [wh30]; exact (wr_ne (ne_ty (full.fr fh7 rfl hI hm).1 ((fh7.1.2 _ (hI.ltN u06)).trans u06) (by intro e; cases e))).trans ex14)
          exact ihn12 (n12 - 1) (by omega) (y6 + 1) h30 (by omega) I28 f29 (show x2 ≤ (y6 + 1) ∧ (y6 + 1) < h.2.2 m 7 by omega) (show h30.2.2 m 7 = h.2.2 m 7 by omega) (DL.go c10 ⟨by omega, by omega, by omega⟩ ex27 wh30) (OnT.go c11 wh30) (show 9 - (y6 + 1) ≤ ((n12 - 1 : Nat) : Int) by omega)
    exact lp17_n12 (9 - x2).toNat x2 h rx2 hI (Fr.rf _ _) (show x2 ≤ x2 ∧ x2 < h.2.2 m 7 by omega) (show h.2.2 m 7 = h.2.2 m 7 by omega) DL.s OnT.s (by omega)
  · skip
    exact to_vret rfl (dat dk_X6_dropTag 8 rfl) (rv_mk ⟨hI, (Fr.rf _ _), (by exfalso; rcases TPl.in p4_1 with ⟨q, _⟩ | ⟨_, q⟩; omega; exact q g1)⟩)
abbrev Q_X6_putTag_vx (h : Hp) (m : Nat) (n : Int) (b : Nat) : Option V → Hp → Nat → Nat → Prop := RV (fun H => Inv H ∧ Fr [311, 337] h H ∧ (PUm h H m n))
set_option maxRecDepth 100000 in
theorem ct_X6_putTag_vx (l : Launch) (h : Hp) (hI : Inv h) (m : Nat) (hm : full h m) (n : Int) (hn : I32 n) (b : Nat) (wb : Nat) (hb : isK b wb = true) (g0 : T8 h m) (g1 : h.2.2 m 7 ≤ 7) : Ct l D_X6_putTag 3 68 [.inr (.inr m), .inl n, .inr (.inr b)] h (Q_X6_putTag_vx h m n b) := by
  refine ct_of pn_X6_putTag (Nat.le_of_ble_eq_true rfl) ?_
  show To l E_X6_putTag (0, [(0, .inr (.inr m)), (1, .inl n), (2, .inr (.inr b))], [], h, 0, 0) _
  obtain ⟨x1, ex1⟩ : ∃ y : Int, h.2.2 m 7 = y := ⟨_, rfl⟩
  have rx1 := full.f7 hI hm
  rw [ex1] at rx1
  obtain ⟨T0, a06, b106, u06⟩ := id g0
  have lT0 := hI.lenM u06
  have zT6 : (h.2.2 m 6).toNat = T0 := by rw [a06]; exact Int.toNat_natCast T0
  have ztg : ∀ j : Int, tgr h m j = h.2.2 T0 j.toNat := fun j => by unfold tgr; rw [zT6]
  have zm7 := full.f7 hI hm
  have zmT : m ≠ T0 := fun e => by have := hm.1; rw [e] at this; cases this.symm.trans u06
  refine to_aload_np (dat dk_X6_putTag 0 rfl) (by have := full.big hI hm; omega) rfl (to_getIv (y := x1) ex1 g_c7_38 (dat dk_X6_putTag 1 rfl) hm.1 (to_aload_np (dat dk_X6_putTag 2 rfl) (by have := full.big hI hm; omega) rfl (to_getR T0 g_c7_9 (dat dk_X6_putTag 3 rfl) hm.1 a06 (to_alen (dat dk_X6_putTag 4 rfl) u06 (by decide) ?_))))
  refine to_ilt 13 (dat dk_X6_putTag 5 rfl) rfl (by omega) (by decide) (fun c2 => ?_) (fun c2 => ?_)
  · skip
    refine to_aload_np (dat dk_X6_putTag 7 rfl) (by have := full.big hI hm; omega) rfl (to_getIv (y := x1) ex1 g_c7_38 (dat dk_X6_putTag 8 rfl) hm.1 (to_istore_n (L' := [(0, .inr (.inr m)), (1, .inl n), (2, .inr (.inr b)), (3, .inl x1)]) (dat dk_X6_putTag 9 rfl) (by decide) rfl ?_))
    have lp18_n9 : ∀ (n9 : Nat) (y3 : Int) (h4 : Hp), (I32 y3) → (Inv h4) → (Fr [311, 337] h h4) → (0 ≤ y3 ∧ y3 ≤ h.2.2 m 7) → (h4.2.2 m 7 = h.2.2 m 7) → (PLx h h4 T0 y3 (h.2.2 m 7)) → (OnT h h4 T0) → (y3 ≤ (n9 : Int)) → To l E_X6_putTag (18, [(0, .inr (.inr m)), (1, .inl n), (2, .inr (.inr b)), (3, .inl y3)], [], h4, 0, 0) (Q_X6_putTag_vx h m n b) := by
      intro n9
      induction n9 using Nat.strongRecOn with
      | _ n9 ihn9 =>
      intro y3 h4 ry3 Ih4 fh4 c5 c6 c7 c8 c10
      obtain ⟨x11, ex11⟩ : ∃ y : Int, h4.2.2 m 7 = y := ⟨_, rfl⟩
      have rx11 := full.f7 Ih4 (full.fr fh4 rfl hI hm)
      rw [ex11] at rx11
      refine to_iload_n (dat dk_X6_putTag 10 rfl) rfl ?_
      refine to_ifle 58 (dat dk_X6_putTag 11 rfl) rfl ry3 (fun c12 => ?_) (fun c12 => ?_)
      · skip
        refine to_aload_np (dat dk_X6_putTag 34 rfl) (by have := full.big Ih4 (full.fr fh4 rfl hI hm); omega) rfl (to_getR T0 g_c7_9 (dat dk_X6_putTag 35 rfl) (full.fr fh4 rfl hI hm).1 ((full.get (j := 6) fh4 hI hm rfl).trans a06) (to_iload_n (dat dk_X6_putTag 36 rfl) rfl (to_iload_n (dat dk_X6_putTag 37 rfl) rfl (to_iastw (dat dk_X6_putTag 38 rfl) ((fh4.1.2 _ (hI.ltN u06)).trans u06) rfl (Ih4.lenN ((fh4.1.2 _ (hI.ltN u06)).trans u06)) (by omega) ?_))))
        intro h15 wh15
        have I13 : Inv h15 := by rw [wh15]; exact Ih4.putA (j := (Int.toNat y3)) (x := n) ((fh4.1.2 _ (hI.ltN u06)).trans u06) (by decide +kernel) rfl hn
        have f14 : Fr [311, 337] h h15 := by rw [wh15]; exact Fr.putA (j := (Int.toNat y3)) (x := n) fh4 Ih4 ((fh4.1.2 _ (hI.ltN u06)).trans u06) (by decide +kernel)
        have d16 : full h15 m := by rw [wh15]; exact full.putA ((fh4.1.2 _ (hI.ltN u06)).trans u06) (full.fr fh4 rfl hI hm)
        have d17 : h15.2.1 T0 = some (.inl (10, 8)) := by rw [wh15]; exact ((fh4.1.2 _ (hI.ltN u06)).trans u06)
        refine to_aload_np (dat dk_X6_putTag 39 rfl) (by have := full.big I13 d16; omega) rfl (to_dup (dat dk_X6_putTag 40 rfl) rfl (to_getIv (y := x11) (by rw [wh15]; exact (wr_ne (ne_ty (full.fr fh4 rfl hI hm).1 ((fh4.1.2 _ (hI.ltN u06)).trans u06) (by intro e; cases e))).trans ex11) g_c7_38 (dat dk_X6_putTag 41 rfl) d16.1 (to_iconst (dat dk_X6_putTag 42 rfl) (to_iadd (dat dk_X6_putTag 43 rfl) (to_putIw p_c7_38 (dat dk_X6_putTag 44 rfl) d16.1 ?_)))))
        intro h20 wh20
        have I18 : Inv h20 := by rw [wh20]; exact I13.putM (x := (x11 + 1)) d16.1 (by omega)
        have f19 : Fr [311, 337] h h20 := by rw [wh20]; exact Fr.putM (x := (x11 + 1)) f14 I13 d16.1 rfl
        have d21 : full h20 m := by rw [wh20]; exact full.put7 d16
        have d22 : h20.2.1 T0 = some (.inl (10, 8)) := by rw [wh20]; exact d17
        exact to_vret rfl (dat dk_X6_putTag 45 rfl) (rv_mk ⟨I18, f19, (PLx.fin (c := h.2.2 m 7) c7 c8 a06 zmT rfl (by omega) wh15 wh20 (by omega))⟩)
      · skip
        refine to_aload_np (dat dk_X6_putTag 12 rfl) (Ih4.posN (Ih4.kty hb)) rfl (to_iload_n (dat dk_X6_putTag 13 rfl) rfl (to_aload_np (dat dk_X6_putTag 14 rfl) (by have := full.big Ih4 (full.fr fh4 rfl hI hm); omega) rfl (to_getR T0 g_c7_9 (dat dk_X6_putTag 15 rfl) (full.fr fh4 rfl hI hm).1 ((full.get (j := 6) fh4 hI hm rfl).trans a06) (to_iload_n (dat dk_X6_putTag 16 rfl) rfl (to_iconst (dat dk_X6_putTag 17 rfl) (to_isub (dat dk_X6_putTag 18 rfl) ?_))))))
        obtain ⟨x23, ex23⟩ : ∃ y : Int, h4.2.2 T0 (Int.toNat (y3 - 1)) = y := ⟨_, rfl⟩
        have rx23 := Ih4.con0 ((fh4.1.2 _ (hI.ltN u06)).trans u06) rfl (Int.toNat (y3 - 1))
        rw [ex23] at rx23
        refine to_ialdv ex23 (dat dk_X6_putTag 19 rfl) ((fh4.1.2 _ (hI.ltN u06)).trans u06) rfl (Ih4.lenN ((fh4.1.2 _ (hI.ltN u06)).trans u06)) (by omega) ?_
        refine to_cI ca_c7_44 (dat dk_X6_putTag 20 rfl) (ct_X0_isAhead l h4 Ih4 b wb hb n hn x23 rx23) rfl ⟨_, _, rfl, (Ih4.kty hb)⟩ rfl (fun x24 h25 rx24 p26 => ?_)
        obtain ⟨rfl, zx24⟩ := p26
        refine to_ifeq 58 (dat dk_X6_putTag 21 rfl) rfl rx24 (fun c27 => ?_) (fun c27 => ?_)
        · skip
          refine to_aload_np (dat dk_X6_putTag 34 rfl) (by have := full.big Ih4 (full.fr fh4 rfl hI hm); omega) rfl (to_getR T0 g_c7_9 (dat dk_X6_putTag 35 rfl) (full.fr fh4 rfl hI hm).1 ((full.get (j := 6) fh4 hI hm rfl).trans a06) (to_iload_n (dat dk_X6_putTag 36 rfl) rfl (to_iload_n (dat dk_X6_putTag 37 rfl) rfl (to_iastw (dat dk_X6_putTag 38 rfl) ((fh4.1.2 _ (hI.ltN u06)).trans u06) rfl (Ih4.lenN ((fh4.1.2 _ (hI.ltN u06)).trans u06)) (by omega) ?_))))
          intro h30 wh30
          have I28 : Inv h30 := by rw [wh30]; exact Ih4.putA (j := (Int.toNat y3)) (x := n) ((fh4.1.2 _ (hI.ltN u06)).trans u06) (by decide +kernel) rfl hn
          have f29 : Fr [311, 337] h h30 := by rw [wh30]; exact Fr.putA (j := (Int.toNat y3)) (x := n) fh4 Ih4 ((fh4.1.2 _ (hI.ltN u06)).trans u06) (by decide +kernel)
          have d31 : full h30 m := by rw [wh30]; exact full.putA ((fh4.1.2 _ (hI.ltN u06)).trans u06) (full.fr fh4 rfl hI hm)
          have d32 : h30.2.1 T0 = some (.inl (10, 8)) := by rw [wh30]; exact ((fh4.1.2 _ (hI.ltN u06)).trans u06)
          refine to_aload_np (dat dk_X6_putTag 39 rfl) (by have := full.big I28 d31; omega) rfl (to_dup (dat dk_X6_putTag 40 rfl) rfl (to_getIv (y := x11) (by rw [wh30]; exact (wr_ne (ne_ty (full.fr fh4 rfl hI hm).1 ((fh4.1.2 _ (hI.ltN u06)).trans u06) (by intro e; cases e))).trans ex11) g_c7_38 (dat dk_X6_putTag 41 rfl) d31.1 (to_iconst (dat dk_X6_putTag 42 rfl) (to_iadd (dat dk_X6_putTag 43 rfl) (to_putIw p_c7_38 (dat dk_X6_putTag 44 rfl) d31.1 ?_)))))
          intro h35 wh35
          have I33 : Inv h35 := by rw [wh35]; exact I28.putM (x := (x11 + 1)) d31.1 (by omega)
          have f34 : Fr [311, 337] h h35 := by rw [wh35]; exact Fr.putM (x := (x11 + 1)) f29 I28 d31.1 rfl
          have d36 : full h35 m := by rw [wh35]; exact full.put7 d31
          have d37 : h35.2.1 T0 = some (.inl (10, 8)) := by rw [wh35]; exact d32
          exact to_vret rfl (dat dk_X6_putTag 45 rfl) (rv_mk ⟨I33, f34, (PLx.fin (c := h.2.2 m 7) c7 c8 a06 zmT rfl (by omega) wh30 wh35 (by omega))⟩)
        · skip
          refine to_aload_np (dat dk_X6_putTag 22 rfl) (by have := full.big Ih4 (full.fr fh4 rfl hI hm); omega) rfl (to_getR T0 g_c7_9 (dat dk_X6_putTag 23 rfl) (full.fr fh4 rfl hI hm).1 ((full.get (j := 6) fh4 hI hm rfl).trans a06) (to_iload_n (dat dk_X6_putTag 24 rfl) rfl (to_aload_np (dat dk_X6_putTag 25 rfl) (by have := full.big Ih4 (full.fr fh4 rfl hI hm); omega) rfl (to_getR T0 g_c7_9 (dat dk_X6_putTag 26 rfl) (full.fr fh4 rfl hI hm).1 ((full.get (j := 6) fh4 hI hm rfl).trans a06) (to_iload_n (dat dk_X6_putTag 27 rfl) rfl (to_iconst (dat dk_X6_putTag 28 rfl) (to_isub (dat dk_X6_putTag 29 rfl) ?_)))))))
          obtain ⟨x38, ex38⟩ : ∃ y : Int, h4.2.2 T0 (Int.toNat (y3 - 1)) = y := ⟨_, rfl⟩
          have rx38 := Ih4.con0 ((fh4.1.2 _ (hI.ltN u06)).trans u06) rfl (Int.toNat (y3 - 1))
          rw [ex38] at rx38
          refine to_ialdv ex38 (dat dk_X6_putTag 30 rfl) ((fh4.1.2 _ (hI.ltN u06)).trans u06) rfl (Ih4.lenN ((fh4.1.2 _ (hI.ltN u06)).trans u06)) (by omega) (to_iastw (dat dk_X6_putTag 31 rfl) ((fh4.1.2 _ (hI.ltN u06)).trans u06) rfl (Ih4.lenN ((fh4.1.2 _ (hI.ltN u06)).trans u06)) (by omega) ?_)
          intro h41 wh41
          have I39 : Inv h41 := by rw [wh41]; exact Ih4.putA (j := (Int.toNat y3)) (x := x38) ((fh4.1.2 _ (hI.ltN u06)).trans u06) (by decide +kernel) rfl rx38
          have f40 : Fr [311, 337] h h41 := by rw [wh41]; exact Fr.putA (j := (Int.toNat y3)) (x := x38) fh4 Ih4 ((fh4.1.2 _ (hI.ltN u06)).trans u06) (by decide +kernel)
          have d42 : full h41 m := by rw [wh41]; exact full.putA ((fh4.1.2 _ (hI.ltN u06)).trans u06) (full.fr fh4 rfl hI hm)
          have d43 : h41.2.1 T0 = some (.inl (10, 8)) := by rw [wh41]; exact ((fh4.1.2 _ (hI.ltN u06)).trans u06)
          refine to_iinc (L' := [(0, .inr (.inr m)), (1, .inl n), (2, .inr (.inr b)), (3, .inl (y3 + (-1)))]) (dat dk_X6_putTag 32 rfl) rfl (by decide) rfl (to_goto (dat dk_X6_putTag 33 rfl) rfl ?_)
          have e44 : h41.2.2 m 7 = x11 := (by rw [wh41]; exact (wr_ne (ne_ty (full.fr fh4 rfl hI hm).1 ((fh4.1.2 _ (hI.ltN u06)).trans u06) (by intro e; cases e))).trans ex11)
          exact ihn9 (n9 - 1) (by omega) (y3 + (-1)) h41 (by omega) I39 f40 (show 0 ≤ (y3 + (-1)) ∧ (y3 + (-1)) ≤ h.2.2 m 7 by omega) (show h41.2.2 m 7 = h.2.2 m 7 by omega) (by have z := PLx.go c7 ⟨by omega, by omega⟩ ex38 wh41; rw [show y3 - 1 = (y3 + (-1)) by omega] at z; exact z) (OnT.go c8 wh41) (show (y3 + (-1)) ≤ ((n9 - 1 : Nat) : Int) by omega)
    exact lp18_n9 (x1).toNat x1 h (by omega) hI (Fr.rf _ _) (show 0 ≤ x1 ∧ x1 ≤ h.2.2 m 7 by omega) (show h.2.2 m 7 = h.2.2 m 7 by omega) (by intro j j0 j1; rw [if_neg (by omega)]) OnT.s (by omega)
  · skip
    exact to_vret rfl (dat dk_X6_putTag 6 rfl) (rv_mk ⟨hI, (Fr.rf _ _), (by exfalso; omega)⟩)
