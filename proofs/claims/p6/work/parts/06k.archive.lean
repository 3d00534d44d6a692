/-! Contracts, by program. -/
abbrev Q_X6_putTag (h : Hp) (m : Nat) (n : Int) (b : Nat) : Option V → Hp → Nat → Nat → Prop := RV (fun H => Inv H ∧ Fr [311, 337] h H)
set_option maxRecDepth 100000 in
theorem ct_X6_putTag (l : Launch) (h : Hp) (hI : Inv h) (m : Nat) (hm : full h m) (n : Int) (hn : I32 n) (b : Nat) (wb : Nat) (hb : isK b wb = true) (g0 : h.2.2 m 7 ≤ 7) : Ct l D_X6_putTag 3 68 [.inr (.inr m), .inl n, .inr (.inr b)] h (Q_X6_putTag h m n b) := by
  refine ct_of pn_X6_putTag (Nat.le_of_ble_eq_true rfl) ?_
  show To l E_X6_putTag (0, [(0, .inr (.inr m)), (1, .inl n), (2, .inr (.inr b))], [], h, 0, 0) _
  obtain ⟨x1, ex1⟩ : ∃ y : Int, h.2.2 m 7 = y := ⟨_, rfl⟩
  have rx1 := full.f7 hI hm
  rw [ex1] at rx1
  refine to_aload_np (dat dk_X6_putTag 0 rfl) (by have := full.big hI hm; omega) rfl (to_getIv (y := x1) ex1 g_c7_38 (dat dk_X6_putTag 1 rfl) hm.1 (to_aload_np (dat dk_X6_putTag 2 rfl) (by have := full.big hI hm; omega) rfl ?_))
  obtain ⟨q2, nq2, eq2, pq2, tq2⟩ := full.r6 hI hm
  have lq2 := hI.lenM tq2
  refine to_getR q2 g_c7_9 (dat dk_X6_putTag 3 rfl) hm.1 eq2 (to_alen (dat dk_X6_putTag 4 rfl) tq2 (by decide) ?_)
  refine to_ilt 13 (dat dk_X6_putTag 5 rfl) rfl (by omega) (by omega) (fun c3 => ?_) (fun c3 => ?_)
  · skip
    refine to_aload_np (dat dk_X6_putTag 7 rfl) (by have := full.big hI hm; omega) rfl (to_getIv (y := x1) ex1 g_c7_38 (dat dk_X6_putTag 8 rfl) hm.1 (to_istore_n (L' := [(0, .inr (.inr m)), (1, .inl n), (2, .inr (.inr b)), (3, .inl x1)]) (dat dk_X6_putTag 9 rfl) (by decide) rfl ?_))
    have lp18_n9 : ∀ (n9 : Nat) (y4 : Int) (h5 : Hp), (I32 y4) → (Inv h5) → (Fr [311, 337] h h5) → (0 ≤ y4) → (y4 ≤ h.2.2 m 7) → (h5.2.2 m 7 = h.2.2 m 7) → (y4 ≤ (n9 : Int)) → To l E_X6_putTag (18, [(0, .inr (.inr m)), (1, .inl n), (2, .inr (.inr b)), (3, .inl y4)], [], h5, 0, 0) (Q_X6_putTag h m n b) := by
      intro n9
      induction n9 using Nat.strongRecOn with
      | _ n9 ihn9 =>
      intro y4 h5 ry4 Ih5 fh5 c6 c7 c8 c10
      obtain ⟨x11, ex11⟩ : ∃ y : Int, h5.2.2 m 7 = y := ⟨_, rfl⟩
      have rx11 := full.f7 Ih5 (full.fr fh5 rfl hI hm)
      rw [ex11] at rx11
      refine to_iload_n (dat dk_X6_putTag 10 rfl) rfl ?_
      refine to_ifle 58 (dat dk_X6_putTag 11 rfl) rfl ry4 (fun c12 => ?_) (fun c12 => ?_)
      · skip
        refine to_aload_np (dat dk_X6_putTag 34 rfl) (by have := full.big Ih5 (full.fr fh5 rfl hI hm); omega) rfl (to_getR q2 g_c7_9 (dat dk_X6_putTag 35 rfl) (full.fr fh5 rfl hI hm).1 ((full.get (j := 6) fh5 hI hm rfl).trans eq2) (to_iload_n (dat dk_X6_putTag 36 rfl) rfl (to_iload_n (dat dk_X6_putTag 37 rfl) rfl (to_iastw (dat dk_X6_putTag 38 rfl) ((fh5.1.2 _ (hI.ltN tq2)).trans tq2) rfl (Ih5.lenN ((fh5.1.2 _ (hI.ltN tq2)).trans tq2)) (by omega) ?_))))
        intro h15 wh15
        have I13 : Inv h15 := by rw [wh15]; exact Ih5.putA (j := (Int.toNat y4)) (x := n) ((fh5.1.2 _ (hI.ltN tq2)).trans tq2) (by decide +kernel) rfl hn
        have f14 : Fr [311, 337] h h15 := by rw [wh15]; exact Fr.putA (j := (Int.toNat y4)) (x := n) fh5 Ih5 ((fh5.1.2 _ (hI.ltN tq2)).trans tq2) (by decide +kernel)
        have d16 : full h15 m := by rw [wh15]; exact full.putA ((fh5.1.2 _ (hI.ltN tq2)).trans tq2) (full.fr fh5 rfl hI hm)
        have d17 : h15.2.1 q2 = some (.inl (10, nq2)) := by rw [wh15]; exact ((fh5.1.2 _ (hI.ltN tq2)).trans tq2)
        refine to_aload_np (dat dk_X6_putTag 39 rfl) (by have := full.big I13 d16; omega) rfl (to_dup (dat dk_X6_putTag 40 rfl) rfl (to_getIv (y := x11) (by rw [wh15]; exact (wr_ne (ne_ty (full.fr fh5 rfl hI hm).1 ((fh5.1.2 _ (hI.ltN tq2)).trans tq2) (by intro e; cases e))).trans ex11) g_c7_38 (dat dk_X6_putTag 41 rfl) d16.1 (to_iconst (dat dk_X6_putTag 42 rfl) (to_iadd (dat dk_X6_putTag 43 rfl) (to_putIw p_c7_38 (dat dk_X6_putTag 44 rfl) d16.1 ?_)))))
        intro h20 wh20
        have I18 : Inv h20 := by rw [wh20]; exact I13.putM (x := (x11 + 1)) d16.1 (by omega)
        have f19 : Fr [311, 337] h h20 := by rw [wh20]; exact Fr.putM (x := (x11 + 1)) f14 I13 d16.1 rfl
        have d21 : full h20 m := by rw [wh20]; exact full.put7 d16
        have d22 : h20.2.1 q2 = some (.inl (10, nq2)) := by rw [wh20]; exact d17
        exact to_vret rfl (dat dk_X6_putTag 45 rfl) (rv_mk ⟨I18, f19⟩)
      · skip
        refine to_aload_np (dat dk_X6_putTag 12 rfl) (Ih5.posN (Ih5.kty hb)) rfl (to_iload_n (dat dk_X6_putTag 13 rfl) rfl (to_aload_np (dat dk_X6_putTag 14 rfl) (by have := full.big Ih5 (full.fr fh5 rfl hI hm); omega) rfl (to_getR q2 g_c7_9 (dat dk_X6_putTag 15 rfl) (full.fr fh5 rfl hI hm).1 ((full.get (j := 6) fh5 hI hm rfl).trans eq2) (to_iload_n (dat dk_X6_putTag 16 rfl) rfl (to_iconst (dat dk_X6_putTag 17 rfl) (to_isub (dat dk_X6_putTag 18 rfl) ?_))))))
        obtain ⟨x23, ex23⟩ : ∃ y : Int, h5.2.2 q2 (Int.toNat (y4 - 1)) = y := ⟨_, rfl⟩
        have rx23 := Ih5.con0 ((fh5.1.2 _ (hI.ltN tq2)).trans tq2) rfl (Int.toNat (y4 - 1))
        rw [ex23] at rx23
        refine to_ialdv ex23 (dat dk_X6_putTag 19 rfl) ((fh5.1.2 _ (hI.ltN tq2)).trans tq2) rfl (Ih5.lenN ((fh5.1.2 _ (hI.ltN tq2)).trans tq2)) (by omega) ?_
        refine to_cI ca_c7_44 (dat dk_X6_putTag 20 rfl) (ct_X0_isAhead l h5 Ih5 b wb hb n hn x23 rx23) rfl ⟨_, _, rfl, (Ih5.kty hb)⟩ rfl (fun x24 h25 rx24 p26 => ?_)
        obtain ⟨rfl, zx24⟩ := p26
        refine to_ifeq 58 (dat dk_X6_putTag 21 rfl) rfl rx24 (fun c27 => ?_) (fun c27 => ?_)
        · skip
          refine to_aload_np (dat dk_X6_putTag 34 rfl) (by have := full.big Ih5 (full.fr fh5 rfl hI hm); omega) rfl (to_getR q2 g_c7_9 (dat dk_X6_putTag 35 rfl) (full.fr fh5 rfl hI hm).1 ((full.get (j := 6) fh5 hI hm rfl).trans eq2) (to_iload_n (dat dk_X6_putTag 36 rfl) rfl (to_iload_n (dat dk_X6_putTag 37 rfl) rfl (to_iastw (dat dk_X6_putTag 38 rfl) ((fh5.1.2 _ (hI.ltN tq2)).trans tq2) rfl (Ih5.lenN ((fh5.1.2 _ (hI.ltN tq2)).trans tq2)) (by omega) ?_))))
          intro h30 wh30
          have I28 : Inv h30 := by rw [wh30]; exact Ih5.putA (j := (Int.toNat y4)) (x := n) ((fh5.1.2 _ (hI.ltN tq2)).trans tq2) (by decide +kernel) rfl hn
          have f29 : Fr [311, 337] h h30 := by rw [wh30]; exact Fr.putA (j := (Int.toNat y4)) (x := n) fh5 Ih5 ((fh5.1.2 _ (hI.ltN tq2)).trans tq2) (by decide +kernel)
          have d31 : full h30 m := by rw [wh30]; exact full.putA ((fh5.1.2 _ (hI.ltN tq2)).trans tq2) (full.fr fh5 rfl hI hm)
          have d32 : h30.2.1 q2 = some (.inl (10, nq2)) := by rw [wh30]; exact ((fh5.1.2 _ (hI.ltN tq2)).trans tq2)
          refine to_aload_np (dat dk_X6_putTag 39 rfl) (by have := full.big I28 d31; omega) rfl (to_dup (dat dk_X6_putTag 40 rfl) rfl (to_getIv (y := x11) (by rw [wh30]; exact (wr_ne (ne_ty (full.fr fh5 rfl hI hm).1 ((fh5.1.2 _ (hI.ltN tq2)).trans tq2) (by intro e; cases e))).trans ex11) g_c7_38 (dat dk_X6_putTag 41 rfl) d31.1 (to_iconst (dat dk_X6_putTag 42 rfl) (to_iadd (dat dk_X6_putTag 43 rfl) (to_putIw p_c7_38 (dat dk_X6_putTag 44 rfl) d31.1 ?_)))))
          intro h35 wh35
          have I33 : Inv h35 := by rw [wh35]; exact I28.putM (x := (x11 + 1)) d31.1 (by omega)
          have f34 : Fr [311, 337] h h35 := by rw [wh35]; exact Fr.putM (x := (x11 + 1)) f29 I28 d31.1 rfl
          have d36 : full h35 m := by rw [wh35]; exact full.put7 d31
          have d37 : h35.2.1 q2 = some (.inl (10, nq2)) := by rw [wh35]; exact d32
          exact to_vret rfl (dat dk_X6_putTag 45 rfl) (rv_mk ⟨I33, f34⟩)
        · skip
          refine to_aload_np (dat dk_X6_putTag 22 rfl) (by have := full.big Ih5 (full.fr fh5 rfl hI hm); omega) rfl (to_getR q2 g_c7_9 (dat dk_X6_putTag 23 rfl) (full.fr fh5 rfl hI hm).1 ((full.get (j := 6) fh5 hI hm rfl).trans eq2) (to_iload_n (dat dk_X6_putTag 24 rfl) rfl (to_aload_np (dat dk_X6_putTag 25 rfl) (by have := full.big Ih5 (full.fr fh5 rfl hI hm); omega) rfl (to_getR q2 g_c7_9 (dat dk_X6_putTag 26 rfl) (full.fr fh5 rfl hI hm).1 ((full.get (j := 6) fh5 hI hm rfl).trans eq2) (to_iload_n (dat dk_X6_putTag 27 rfl) rfl (to_iconst (dat dk_X6_putTag 28 rfl) (to_isub (dat dk_X6_putTag 29 rfl) ?_)))))))
          obtain ⟨x38, ex38⟩ : ∃ y : Int, h5.2.2 q2 (Int.toNat (y4 - 1)) = y := ⟨_, rfl⟩
          have rx38 := Ih5.con0 ((fh5.1.2 _ (hI.ltN tq2)).trans tq2) rfl (Int.toNat (y4 - 1))
          rw [ex38] at rx38
          refine to_ialdv ex38 (dat dk_X6_putTag 30 rfl) ((fh5.1.2 _ (hI.ltN tq2)).trans tq2) rfl (Ih5.lenN ((fh5.1.2 _ (hI.ltN tq2)).trans tq2)) (by omega) (to_iastw (dat dk_X6_putTag 31 rfl) ((fh5.1.2 _ (hI.ltN tq2)).trans tq2) rfl (Ih5.lenN ((fh5.1.2 _ (hI.ltN tq2)).trans tq2)) (by omega) ?_)
          intro h41 wh41
          have I39 : Inv h41 := by rw [wh41]; exact Ih5.putA (j := (Int.toNat y4)) (x := x38) ((fh5.1.2 _ (hI.ltN tq2)).trans tq2) (by decide +kernel) rfl rx38
          have f40 : Fr [311, 337] h h41 := by rw [wh41]; exact Fr.putA (j := (Int.toNat y4)) (x := x38) fh5 Ih5 ((fh5.1.2 _ (hI.ltN tq2)).trans tq2) (by decide +kernel)
          have d42 : full h41 m := by rw [wh41]; exact full.putA ((fh5.1.2 _ (hI.ltN tq2)).trans tq2) (full.fr fh5 rfl hI hm)
          have d43 : h41.2.1 q2 = some (.inl (10, nq2)) := by rw [wh41]; exact ((fh5.1.2 _ (hI.ltN tq2)).trans tq2)
          refine to_iinc (L' := [(0, .inr (.inr m)), (1, .inl n), (2, .inr (.inr b)), (3, .inl (y4 + (-1)))]) (dat dk_X6_putTag 32 rfl) rfl (by decide) rfl (to_goto (dat dk_X6_putTag 33 rfl) rfl ?_)
          have e44 : h41.2.2 m 7 = x11 := (by rw [wh41]; exact (wr_ne (ne_ty (full.fr fh5 rfl hI hm).1 ((fh5.1.2 _ (hI.ltN tq2)).trans tq2) (by intro e; cases e))).trans ex11)
          exact ihn9 (n9 - 1) (by omega) (y4 + (-1)) h41 (by omega) I39 f40 (show 0 ≤ (y4 + (-1)) by omega) (show (y4 + (-1)) ≤ h.2.2 m 7 by omega) (show h41.2.2 m 7 = h.2.2 m 7 by omega) (show (y4 + (-1)) ≤ ((n9 - 1 : Nat) : Int) by omega)
    exact lp18_n9 (x1).toNat x1 h (by omega) hI (Fr.rf _ _) (show 0 ≤ x1 by omega) (show x1 ≤ h.2.2 m 7 by omega) (show h.2.2 m 7 = h.2.2 m 7 by omega) (by omega)
  · skip
    exact to_vret rfl (dat dk_X6_putTag 6 rfl) (rv_mk ⟨hI, (Fr.rf _ _)⟩)
abbrev Q_X1_put_v4 (h : Hp) (b : Int) : Option V → Hp → Nat → Nat → Prop := RV (fun H => Inv H ∧ Fr [4] h H ∧ (H.2.2 4 1 = h.2.2 4 1 + 1 ∨ (1200 ≤ h.2.2 4 1 ∧ H.2.2 4 1 = h.2.2 4 1)))
set_option maxRecDepth 100000 in
theorem ct_X1_put_v4 (l : Launch) (h : Hp) (hI : Inv h) (b : Int) (hb : I32 b) : Ct l D_X1_put 0 0 [.inr (.inr 4), .inl b] h (Q_X1_put_v4 h b) := by
  refine ct_of pn_X1_put (Nat.le_of_ble_eq_true rfl) ?_
  show To l E_X1_put (0, [(0, .inr (.inr 4)), (1, .inl b)], [], h, 0, 0) _
  obtain ⟨x1, ex1⟩ : ∃ y : Int, h.2.2 4 1 = y := ⟨_, rfl⟩
  have rx1 := hI.atR (a := 4) (j := 1) rfl
  rw [ex1] at rx1
  refine to_aload_n (dat dk_X1_put 0 rfl) rfl (to_getIv (y := x1) ex1 g_c2_15 (dat dk_X1_put 1 rfl) (hI.atS rfl) ?_)
  refine to_iflt 40 (dat dk_X1_put 2 rfl) rfl (by omega) (fun c2 => ?_) (fun c2 => ?_)
  · skip
    exact to_vret rfl (dat dk_X1_put 22 rfl) (rv_mk ⟨hI, (Fr.rf _ _), (show h.2.2 4 1 = h.2.2 4 1 + 1 ∨ (1200 ≤ h.2.2 4 1 ∧ h.2.2 4 1 = h.2.2 4 1) by omega)⟩)
  · skip
    refine to_aload_n (dat dk_X1_put 3 rfl) rfl (to_getIv (y := x1) ex1 g_c2_15 (dat dk_X1_put 4 rfl) (hI.atS rfl) (to_aload_n (dat dk_X1_put 5 rfl) rfl (to_getR 5 g_c2_9 (dat dk_X1_put 6 rfl) (hI.atS rfl) (hI.atE rfl) (to_alen (dat dk_X1_put 7 rfl) (hI.atS rfl) (by decide) ?_))))
    refine to_ige 40 (dat dk_X1_put 8 rfl) rfl (by omega) (by decide) (fun c3 => ?_) (fun c3 => ?_)
    · skip
      exact to_vret rfl (dat dk_X1_put 22 rfl) (rv_mk ⟨hI, (Fr.rf _ _), (show h.2.2 4 1 = h.2.2 4 1 + 1 ∨ (1200 ≤ h.2.2 4 1 ∧ h.2.2 4 1 = h.2.2 4 1) by omega)⟩)
    · skip
      refine to_aload_n (dat dk_X1_put 9 rfl) rfl (to_getR 5 g_c2_9 (dat dk_X1_put 10 rfl) (hI.atS rfl) (hI.atE rfl) (to_aload_n (dat dk_X1_put 11 rfl) rfl (to_getIv (y := x1) ex1 g_c2_15 (dat dk_X1_put 12 rfl) (hI.atS rfl) (to_iload_n (dat dk_X1_put 13 rfl) rfl (to_i2b (dat dk_X1_put 14 rfl) (to_bastw (dat dk_X1_put 15 rfl) (hI.atS rfl) rfl (by decide) (by omega) ?_))))))
      intro h6 wh6
      have I4 : Inv h6 := by rw [wh6]; exact hI.put (a := 5) (j := (Int.toNat x1)) (x := (b8 (b8 b))) (-128) (127) rfl rfl (show (-128 : Int) ≤ (b8 (b8 b)) ∧ (b8 (b8 b)) ≤ 127 by have := b8_in (b8 b); omega)
      have f5 : Fr [4] h h6 := by rw [wh6]; exact Fr.putF (a := 5) (j := (Int.toNat x1)) (x := (b8 (b8 b))) (Fr.rf _ _) rfl
      refine to_aload_n (dat dk_X1_put 16 rfl) rfl (to_dup (dat dk_X1_put 17 rfl) rfl (to_getIv (y := x1) (by rw [wh6]; exact ex1) g_c2_15 (dat dk_X1_put 18 rfl) (I4.atS rfl) (to_iconst (dat dk_X1_put 19 rfl) (to_iadd (dat dk_X1_put 20 rfl) (to_putIw p_c2_15 (dat dk_X1_put 21 rfl) (I4.atS rfl) ?_)))))
      intro h9 wh9
      have I7 : Inv h9 := by rw [wh9]; exact I4.put (a := 4) (j := 1) (x := (x1 + 1)) (0) (1200) rfl rfl (show (0 : Int) ≤ (x1 + 1) ∧ (x1 + 1) ≤ 1200 by omega)
      have f8 : Fr [4] h h9 := by rw [wh9]; exact Fr.putF (a := 4) (j := 1) (x := (x1 + 1)) f5 rfl
      have e10 : h9.2.2 4 1 = (x1 + 1) := (by rw [wh9]; exact wr_eq)
      exact to_vret rfl (dat dk_X1_put 22 rfl) (rv_mk ⟨I7, f8, (show h9.2.2 4 1 = h.2.2 4 1 + 1 ∨ (1200 ≤ h.2.2 4 1 ∧ h9.2.2 4 1 = h.2.2 4 1) by omega)⟩)
abbrev Q_X1_putAll_v4 (h : Hp) (f : Int) (g : Int) : Option V → Hp → Nat → Nat → Prop := RV (fun H => Inv H ∧ Fr [4] h H ∧ (H.2.2 4 1 = h.2.2 4 1 + (g - f)))
set_option maxRecDepth 100000 in
theorem ct_X1_putAll_v4 (l : Launch) (h : Hp) (hI : Inv h) (f : Int) (hf : I32 f) (g : Int) (hg : I32 g) (g0 : h.2.2 4 1 + (g - f) ≤ 1200) (g1 : f ≤ g) : Ct l D_X1_putAll 1 21 [.inr (.inr 4), .inr (.inr 2), .inl f, .inl g] h (Q_X1_putAll_v4 h f g) := by
  refine ct_of pn_X1_putAll (Nat.le_of_ble_eq_true rfl) ?_
  show To l E_X1_putAll (0, [(0, .inr (.inr 4)), (1, .inr (.inr 2)), (2, .inl f), (3, .inl g)], [], h, 0, 0) _
  obtain ⟨x1, ex1⟩ : ∃ y : Int, h.2.2 4 1 = y := ⟨_, rfl⟩
  have rx1 := hI.atR (a := 4) (j := 1) rfl
  rw [ex1] at rx1
  refine to_iload_n (dat dk_X1_putAll 0 rfl) rfl (to_istore (L' := [(0, .inr (.inr 4)), (1, .inr (.inr 2)), (2, .inl f), (3, .inl g), (4, .inl f)]) (dat dk_X1_putAll 1 rfl) (by decide) rfl ?_)
  have lp3_n6 : ∀ (n6 : Nat) (y2 : Int) (h3 : Hp), (I32 y2) → (Inv h3) → (Fr [4] h h3) → (f ≤ y2 ∧ y2 ≤ g) → (h3.2.2 4 1 = h.2.2 4 1 + (y2 - f)) → (g - y2 ≤ (n6 : Int)) → To l E_X1_putAll (3, [(0, .inr (.inr 4)), (1, .inr (.inr 2)), (2, .inl f), (3, .inl g), (4, .inl y2)], [], h3, 0, 0) (Q_X1_putAll_v4 h f g) := by
    intro n6
    induction n6 using Nat.strongRecOn with
    | _ n6 ihn6 =>
    intro y2 h3 ry2 Ih3 fh3 c4 c5 c7
    obtain ⟨x8, ex8⟩ : ∃ y : Int, h3.2.2 4 1 = y := ⟨_, rfl⟩
    have rx8 := Ih3.atR (a := 4) (j := 1) rfl
    rw [ex8] at rx8
    refine to_iload (dat dk_X1_putAll 2 rfl) rfl (to_iload_n (dat dk_X1_putAll 3 rfl) rfl ?_)
    refine to_ige 25 (dat dk_X1_putAll 4 rfl) rfl ry2 hg (fun c9 => ?_) (fun c9 => ?_)
    · skip
      exact to_vret rfl (dat dk_X1_putAll 12 rfl) (rv_mk ⟨Ih3, fh3, (show h3.2.2 4 1 = h.2.2 4 1 + (g - f) by omega)⟩)
    · skip
      refine to_aload_n (dat dk_X1_putAll 5 rfl) rfl (to_aload_n (dat dk_X1_putAll 6 rfl) rfl (to_iload (dat dk_X1_putAll 7 rfl) rfl ?_))
      obtain ⟨x10, ex10⟩ : ∃ y : Int, h3.2.2 2 1 = y := ⟨_, rfl⟩
      have rx10 := Ih3.atR (a := 2) (j := 1) rfl
      rw [ex10] at rx10
      refine to_cI ca_c2_23 (dat dk_X1_putAll 8 rfl) (ct_X1_byteAt l h3 Ih3 2 rfl y2 ry2) rfl ⟨_, _, rfl, (Ih3.atS rfl)⟩ rfl (fun x11 h12 rx11 p13 => ?_)
      obtain ⟨rfl, p13_0⟩ := p13
      refine to_cV ca_c2_19 (dat dk_X1_putAll 9 rfl) (ct_X1_put_v4 l h3 Ih3 x11 rx11) rfl ⟨_, _, rfl, (Ih3.atS rfl)⟩ rfl (fun h15 p16 => ?_)
      obtain ⟨Ih15, fh15, p16_0⟩ := p16
      have f17 : Fr [4] h h15 := Fr.sub fh3 fh15 (sub_self _)
      obtain ⟨x18, ex18⟩ : ∃ y : Int, h15.2.2 4 1 = y := ⟨_, rfl⟩
      have rx18 := Ih15.atR (a := 4) (j := 1) rfl
      rw [ex18] at rx18
      refine to_iinc (L' := [(0, .inr (.inr 4)), (1, .inr (.inr 2)), (2, .inl f), (3, .inl g), (4, .inl (y2 + 1))]) (dat dk_X1_putAll 10 rfl) rfl (by decide) rfl (to_goto (dat dk_X1_putAll 11 rfl) rfl ?_)
      exact ihn6 (n6 - 1) (by omega) (y2 + 1) h15 (by omega) Ih15 f17 (show f ≤ (y2 + 1) ∧ (y2 + 1) ≤ g by omega) (show h15.2.2 4 1 = h.2.2 4 1 + ((y2 + 1) - f) by omega) (show g - (y2 + 1) ≤ ((n6 - 1 : Nat) : Int) by omega)
  exact lp3_n6 (g - f).toNat f h hf hI (Fr.rf _ _) (show f ≤ f ∧ f ≤ g by omega) (show h.2.2 4 1 = h.2.2 4 1 + (f - f) by omega) (by omega)
abbrev Q_X11_makeReady (h : Hp) (a : Int) (b : Int) (c : Int) (d : Int) (e : Int) : Option V → Hp → Nat → Nat → Prop := RV (fun H => Inv H ∧ Fr [2] h H)
set_option maxRecDepth 100000 in
theorem ct_X11_makeReady (l : Launch) (h : Hp) (hI : Inv h) (a : Int) (ha : I32 a) (b : Int) (hb : I32 b) (c : Int) (hc : I32 c) (d : Int) (hd : I32 d) (e : Int) (he : I32 e) : Ct l D_X11_makeReady 2 42 [.inr (.inr 1), .inl a, .inl b, .inl c, .inl d, .inl e] h (Q_X11_makeReady h a b c d e) := by
  refine ct_of pn_X11_makeReady (Nat.le_of_ble_eq_true rfl) ?_
  show To l E_X11_makeReady (0, [(0, .inr (.inr 1)), (1, .inl a), (2, .inl b), (3, .inl c), (4, .inl d), (5, .inl e)], [], h, 0, 0) _
  refine to_aload_n (dat dk_X11_makeReady 0 rfl) rfl (to_getR 2 g_c0_14 (dat dk_X11_makeReady 1 rfl) (hI.atS rfl) (hI.atE rfl) ?_)
  refine to_cV ca_c0_113 (dat dk_X11_makeReady 2 rfl) (ct_X1_clear l h hI 2 rfl) rfl ⟨_, _, rfl, (hI.atS rfl)⟩ rfl (fun h2 p3 => ?_)
  obtain ⟨Ih2, fh2, p3_0⟩ := p3
  have f4 : Fr [2] h h2 := Fr.sub (Fr.rf _ _) fh2 (sub_self _)
  obtain ⟨x5, ex5⟩ : ∃ y : Int, h2.2.2 2 1 = y := ⟨_, rfl⟩
  have rx5 := Ih2.atR (a := 2) (j := 1) rfl
  rw [ex5] at rx5
  refine to_aload_n (dat dk_X11_makeReady 3 rfl) rfl (to_getR 2 g_c0_14 (dat dk_X11_makeReady 4 rfl) (Ih2.atS rfl) (Ih2.atE rfl) (to_iload_n (dat dk_X11_makeReady 5 rfl) rfl ?_))
  refine to_cV ca_c0_243 (dat dk_X11_makeReady 6 rfl) (ct_X1_putNumber l h2 Ih2 2 rfl a ha) rfl ⟨_, _, rfl, (Ih2.atS rfl)⟩ rfl (fun h7 p8 => ?_)
  obtain ⟨Ih7, fh7⟩ := p8
  have f9 : Fr [2] h h7 := Fr.sub f4 fh7 (sub_self _)
  refine to_aload_n (dat dk_X11_makeReady 7 rfl) rfl (to_getR 2 g_c0_14 (dat dk_X11_makeReady 8 rfl) (Ih7.atS rfl) (Ih7.atE rfl) (to_iload_n (dat dk_X11_makeReady 9 rfl) rfl ?_))
  refine to_cV ca_c0_243 (dat dk_X11_makeReady 10 rfl) (ct_X1_putNumber l h7 Ih7 2 rfl b hb) rfl ⟨_, _, rfl, (Ih7.atS rfl)⟩ rfl (fun h11 p12 => ?_)
  obtain ⟨Ih11, fh11⟩ := p12
  have f13 : Fr [2] h h11 := Fr.sub f9 fh11 (sub_self _)
  refine to_aload_n (dat dk_X11_makeReady 11 rfl) rfl (to_getR 2 g_c0_14 (dat dk_X11_makeReady 12 rfl) (Ih11.atS rfl) (Ih11.atE rfl) (to_iload_n (dat dk_X11_makeReady 13 rfl) rfl ?_))
  refine to_cV ca_c0_243 (dat dk_X11_makeReady 14 rfl) (ct_X1_putNumber l h11 Ih11 2 rfl c hc) rfl ⟨_, _, rfl, (Ih11.atS rfl)⟩ rfl (fun h15 p16 => ?_)
  obtain ⟨Ih15, fh15⟩ := p16
  have f17 : Fr [2] h h15 := Fr.sub f13 fh15 (sub_self _)
  refine to_aload_n (dat dk_X11_makeReady 15 rfl) rfl (to_getR 2 g_c0_14 (dat dk_X11_makeReady 16 rfl) (Ih15.atS rfl) (Ih15.atE rfl) (to_iload (dat dk_X11_makeReady 17 rfl) rfl ?_))
  refine to_cV ca_c0_243 (dat dk_X11_makeReady 18 rfl) (ct_X1_putNumber l h15 Ih15 2 rfl d hd) rfl ⟨_, _, rfl, (Ih15.atS rfl)⟩ rfl (fun h19 p20 => ?_)
  obtain ⟨Ih19, fh19⟩ := p20
  have f21 : Fr [2] h h19 := Fr.sub f17 fh19 (sub_self _)
  refine to_aload_n (dat dk_X11_makeReady 19 rfl) rfl (to_getR 2 g_c0_14 (dat dk_X11_makeReady 20 rfl) (Ih19.atS rfl) (Ih19.atE rfl) (to_iload (dat dk_X11_makeReady 21 rfl) rfl ?_))
  refine to_cV ca_c0_243 (dat dk_X11_makeReady 22 rfl) (ct_X1_putNumber l h19 Ih19 2 rfl e he) rfl ⟨_, _, rfl, (Ih19.atS rfl)⟩ rfl (fun h23 p24 => ?_)
  obtain ⟨Ih23, fh23⟩ := p24
  have f25 : Fr [2] h h23 := Fr.sub f21 fh23 (sub_self _)
  exact to_vret rfl (dat dk_X11_makeReady 23 rfl) (rv_mk ⟨Ih23, f25⟩)
abbrev Q_X11_feed (h : Hp) (a : Int) (b : Int) (c : Int) (d : Int) (e : Int) : Option V → Hp → Nat → Nat → Prop := RV (fun H => Inv H ∧ Fr [2] h H)
set_option maxRecDepth 100000 in
theorem ct_X11_feed (l : Launch) (h : Hp) (hI : Inv h) (a : Int) (ha : I32 a) (b : Int) (hb : I32 b) (c : Int) (hc : I32 c) (d : Int) (hd : I32 d) (e : Int) (he : I32 e) : Ct l D_X11_feed 3 67 [.inr (.inr 1), .inl a, .inl b, .inl c, .inl d, .inl e] h (Q_X11_feed h a b c d e) := by
  refine ct_of pn_X11_feed (Nat.le_of_ble_eq_true rfl) ?_
  show To l E_X11_feed (0, [(0, .inr (.inr 1)), (1, .inl a), (2, .inl b), (3, .inl c), (4, .inl d), (5, .inl e)], [], h, 0, 0) _
  refine to_aload_n (dat dk_X11_feed 0 rfl) rfl (to_iload_n (dat dk_X11_feed 1 rfl) rfl (to_iload_n (dat dk_X11_feed 2 rfl) rfl (to_iload_n (dat dk_X11_feed 3 rfl) rfl (to_iload (dat dk_X11_feed 4 rfl) rfl (to_iload (dat dk_X11_feed 5 rfl) rfl ?_)))))
  refine to_cV ca_c0_81 (dat dk_X11_feed 6 rfl) (ct_X11_makeReady l h hI a ha b hb c hc d hd e he) rfl ⟨_, _, rfl, (hI.atS rfl)⟩ rfl (fun h2 p3 => ?_)
  obtain ⟨Ih2, fh2⟩ := p3
  have f4 : Fr [2] h h2 := Fr.sub (Fr.rf _ _) fh2 (sub_self _)
  exact to_vret rfl (dat dk_X11_feed 7 rfl) (rv_mk ⟨Ih2, f4⟩)
abbrev Q_X11_end (h : Hp) (n : Int) : Option V → Hp → Nat → Nat → Prop := RI (fun x H => Inv H ∧ Fr [2, 4] h H ∧ ((x = -1 ∧ H.2.2 4 1 = h.2.2 4 1 ∧ (n < 0 ∨ 20 < n ∨ 1200 < h.2.2 4 1 + n)) ∨ (x = h.2.2 4 1 + n ∧ H.2.2 4 1 = h.2.2 4 1 + n ∧ 0 ≤ n ∧ n ≤ 20 ∧ h.2.2 4 1 + n ≤ 1200)))
set_option maxRecDepth 100000 in
theorem ct_X11_end (l : Launch) (h : Hp) (hI : Inv h) (n : Int) (hn : I32 n) : Ct l D_X11_end 3 67 [.inr (.inr 1), .inl n] h (Q_X11_end h n) := by
  refine ct_of pn_X11_end (Nat.le_of_ble_eq_true rfl) ?_
  show To l E_X11_end (0, [(0, .inr (.inr 1)), (1, .inl n)], [], h, 0, 0) _
  obtain ⟨x1, ex1⟩ : ∃ y : Int, h.2.2 4 1 = y := ⟨_, rfl⟩
  have rx1 := hI.atR (a := 4) (j := 1) rfl
  rw [ex1] at rx1
  refine to_iload_n (dat dk_X11_end 0 rfl) rfl ?_
  refine to_iflt 25 (dat dk_X11_end 1 rfl) rfl hn (fun c2 => ?_) (fun c2 => ?_)
  · skip
    refine to_iconst (dat dk_X11_end 12 rfl) ?_
    exact to_iret rfl (dat dk_X11_end 13 rfl) (ri_mk (by decide) ⟨hI, (Fr.rf _ _), (show ((-1 : Int) = -1 ∧ h.2.2 4 1 = h.2.2 4 1 ∧ (n < 0 ∨ 20 < n ∨ 1200 < h.2.2 4 1 + n)) ∨ ((-1 : Int) = h.2.2 4 1 + n ∧ h.2.2 4 1 = h.2.2 4 1 + n ∧ 0 ≤ n ∧ n ≤ 20 ∧ h.2.2 4 1 + n ≤ 1200) by omega)⟩)
  · skip
    refine to_iload_n (dat dk_X11_end 2 rfl) rfl (to_bipush (dat dk_X11_end 3 rfl) (by decide) ?_)
    refine to_igt 25 (dat dk_X11_end 4 rfl) rfl hn (by decide) (fun c3 => ?_) (fun c3 => ?_)
    · skip
      refine to_iconst (dat dk_X11_end 12 rfl) ?_
      exact to_iret rfl (dat dk_X11_end 13 rfl) (ri_mk (by decide) ⟨hI, (Fr.rf _ _), (show ((-1 : Int) = -1 ∧ h.2.2 4 1 = h.2.2 4 1 ∧ (n < 0 ∨ 20 < n ∨ 1200 < h.2.2 4 1 + n)) ∨ ((-1 : Int) = h.2.2 4 1 + n ∧ h.2.2 4 1 = h.2.2 4 1 + n ∧ 0 ≤ n ∧ n ≤ 20 ∧ h.2.2 4 1 + n ≤ 1200) by omega)⟩)
    · skip
      refine to_aload_n (dat dk_X11_end 5 rfl) rfl (to_getR 4 g_c0_18 (dat dk_X11_end 6 rfl) (hI.atS rfl) (hI.atE rfl) ?_)
      refine to_cI ca_c0_85 (dat dk_X11_end 7 rfl) (ct_X1_size l h hI 4 rfl) rfl ⟨_, _, rfl, (hI.atS rfl)⟩ rfl (fun x4 h5 rx4 p6 => ?_)
      obtain ⟨rfl, p6_0⟩ := p6
      refine to_iload_n (dat dk_X11_end 8 rfl) rfl (to_iadd (dat dk_X11_end 9 rfl) (to_sipush (dat dk_X11_end 10 rfl) (by decide) ?_))
      refine to_ile 27 (dat dk_X11_end 11 rfl) rfl (by omega) (by decide) (fun c7 => ?_) (fun c7 => ?_)
      · skip
        refine to_aload_n (dat dk_X11_end 14 rfl) rfl (to_getR 4 g_c0_18 (dat dk_X11_end 15 rfl) (hI.atS rfl) (hI.atE rfl) (to_aload_n (dat dk_X11_end 16 rfl) rfl (to_getR 2 g_c0_14 (dat dk_X11_end 17 rfl) (hI.atS rfl) (hI.atE rfl) (to_iconst (dat dk_X11_end 18 rfl) (to_iload_n (dat dk_X11_end 19 rfl) rfl ?_)))))
        refine to_cV ca_c0_89 (dat dk_X11_end 20 rfl) (ct_X1_putAll_v4 l h hI 0 (by decide) n hn (show h.2.2 4 1 + (n - (0 : Int)) ≤ 1200 by omega) (show (0 : Int) ≤ n by omega)) rfl ⟨_, _, rfl, (hI.atS rfl)⟩ rfl (fun h9 p10 => ?_)
        obtain ⟨Ih9, fh9, p10_0⟩ := p10
        have f11 : Fr [2, 4] h h9 := Fr.sub (Fr.rf _ _) fh9 rfl
        obtain ⟨x12, ex12⟩ : ∃ y : Int, h9.2.2 4 1 = y := ⟨_, rfl⟩
        have rx12 := Ih9.atR (a := 4) (j := 1) rfl
        rw [ex12] at rx12
        refine to_aload_n (dat dk_X11_end 21 rfl) rfl (to_iconst (dat dk_X11_end 22 rfl) (to_iconst (dat dk_X11_end 23 rfl) (to_iconst (dat dk_X11_end 24 rfl) (to_iconst (dat dk_X11_end 25 rfl) (to_iconst (dat dk_X11_end 26 rfl) ?_)))))
        refine to_cV ca_c0_81 (dat dk_X11_end 27 rfl) (ct_X11_makeReady l h9 Ih9 0 (by decide) 0 (by decide) 0 (by decide) 0 (by decide) 0 (by decide)) rfl ⟨_, _, rfl, (Ih9.atS rfl)⟩ rfl (fun h14 p15 => ?_)
        obtain ⟨Ih14, fh14⟩ := p15
        have f16 : Fr [2, 4] h h14 := Fr.sub f11 fh14 rfl
        refine to_aload_n (dat dk_X11_end 28 rfl) rfl (to_getR 4 g_c0_18 (dat dk_X11_end 29 rfl) (Ih14.atS rfl) (Ih14.atE rfl) ?_)
        have e17 : h14.2.2 4 1 = x12 := ((Fr.get fh14 (by have := Ih9.1.1; omega) rfl).trans ex12)
        refine to_cI ca_c0_85 (dat dk_X11_end 30 rfl) (ct_X1_size l h14 Ih14 4 rfl) rfl ⟨_, _, rfl, (Ih14.atS rfl)⟩ rfl (fun x18 h19 rx18 p20 => ?_)
        obtain ⟨rfl, p20_0⟩ := p20
        exact to_iret rfl (dat dk_X11_end 31 rfl) (ri_mk rx18 ⟨Ih14, f16, (show (x18 = -1 ∧ h14.2.2 4 1 = h.2.2 4 1 ∧ (n < 0 ∨ 20 < n ∨ 1200 < h.2.2 4 1 + n)) ∨ (x18 = h.2.2 4 1 + n ∧ h14.2.2 4 1 = h.2.2 4 1 + n ∧ 0 ≤ n ∧ n ≤ 20 ∧ h.2.2 4 1 + n ≤ 1200) by omega)⟩)
      · skip
        refine to_iconst (dat dk_X11_end 12 rfl) ?_
        exact to_iret rfl (dat dk_X11_end 13 rfl) (ri_mk (by decide) ⟨hI, (Fr.rf _ _), (show ((-1 : Int) = -1 ∧ h.2.2 4 1 = h.2.2 4 1 ∧ (n < 0 ∨ 20 < n ∨ 1200 < h.2.2 4 1 + n)) ∨ ((-1 : Int) = h.2.2 4 1 + n ∧ h.2.2 4 1 = h.2.2 4 1 + n ∧ 0 ≤ n ∧ n ≤ 20 ∧ h.2.2 4 1 + n ≤ 1200) by omega)⟩)
abbrev Q_X11_takeTape (h : Hp) : Option V → Hp → Nat → Nat → Prop := RV (fun H => Inv H ∧ Fr [4, 6] h H ∧ (H.2.2 4 1 = 0))
set_option maxRecDepth 100000 in
theorem ct_X11_takeTape (l : Launch) (h : Hp) (hI : Inv h)  : Ct l D_X11_takeTape 2 45 [.inr (.inr 1)] h (Q_X11_takeTape h) := by
  refine ct_of pn_X11_takeTape (Nat.le_of_ble_eq_true rfl) ?_
  show To l E_X11_takeTape (0, [(0, .inr (.inr 1))], [], h, 0, 0) _
  obtain ⟨x1, ex1⟩ : ∃ y : Int, h.2.2 4 1 = y := ⟨_, rfl⟩
  have rx1 := hI.atR (a := 4) (j := 1) rfl
  rw [ex1] at rx1
  refine to_aload_n (dat dk_X11_takeTape 0 rfl) rfl (to_getR 6 g_c0_21 (dat dk_X11_takeTape 1 rfl) (hI.atS rfl) (hI.atE rfl) ?_)
  refine to_cV ca_c0_113 (dat dk_X11_takeTape 2 rfl) (ct_X1_clear l h hI 6 rfl) rfl ⟨_, _, rfl, (hI.atS rfl)⟩ rfl (fun h3 p4 => ?_)
  obtain ⟨Ih3, fh3, p4_0⟩ := p4
  have f5 : Fr [4, 6] h h3 := Fr.sub (Fr.rf _ _) fh3 rfl
  obtain ⟨x6, ex6⟩ : ∃ y : Int, h3.2.2 6 1 = y := ⟨_, rfl⟩
  have rx6 := Ih3.atR (a := 6) (j := 1) rfl
  rw [ex6] at rx6
  refine to_aload_n (dat dk_X11_takeTape 3 rfl) rfl (to_getR 6 g_c0_21 (dat dk_X11_takeTape 4 rfl) (Ih3.atS rfl) (Ih3.atE rfl) (to_aload_n (dat dk_X11_takeTape 5 rfl) rfl (to_getR 4 g_c0_18 (dat dk_X11_takeTape 6 rfl) (Ih3.atS rfl) (Ih3.atE rfl) (to_iconst (dat dk_X11_takeTape 7 rfl) (to_aload_n (dat dk_X11_takeTape 8 rfl) rfl (to_getR 4 g_c0_18 (dat dk_X11_takeTape 9 rfl) (Ih3.atS rfl) (Ih3.atE rfl) ?_))))))
  have e7 : h3.2.2 4 1 = x1 := ((Fr.get fh3 (by have := hI.1.1; omega) rfl).trans ex1)
  refine to_cI ca_c0_85 (dat dk_X11_takeTape 10 rfl) (ct_X1_size l h3 Ih3 4 rfl) rfl ⟨_, _, rfl, (Ih3.atS rfl)⟩ rfl (fun x8 h9 rx8 p10 => ?_)
  obtain ⟨rfl, p10_0⟩ := p10
  refine to_cV ca_c0_89 (dat dk_X11_takeTape 11 rfl) (ct_X1_putAll l h3 Ih3 6 rfl 4 rfl 0 (by decide) x8 rx8) rfl ⟨_, _, rfl, (Ih3.atS rfl)⟩ rfl (fun h12 p13 => ?_)
  obtain ⟨Ih12, fh12⟩ := p13
  have f14 : Fr [4, 6] h h12 := Fr.sub f5 fh12 rfl
  refine to_aload_n (dat dk_X11_takeTape 12 rfl) rfl (to_getR 4 g_c0_18 (dat dk_X11_takeTape 13 rfl) (Ih12.atS rfl) (Ih12.atE rfl) ?_)
  refine to_cV ca_c0_113 (dat dk_X11_takeTape 14 rfl) (ct_X1_clear l h12 Ih12 4 rfl) rfl ⟨_, _, rfl, (Ih12.atS rfl)⟩ rfl (fun h16 p17 => ?_)
  obtain ⟨Ih16, fh16, p17_0⟩ := p17
  have f18 : Fr [4, 6] h h16 := Fr.sub f14 fh16 rfl
  obtain ⟨x19, ex19⟩ : ∃ y : Int, h16.2.2 4 1 = y := ⟨_, rfl⟩
  have rx19 := Ih16.atR (a := 4) (j := 1) rfl
  rw [ex19] at rx19
  exact to_vret rfl (dat dk_X11_takeTape 15 rfl) (rv_mk ⟨Ih16, f18, (show h16.2.2 4 1 = 0 by omega)⟩)
abbrev Q_X11_placeOf (h : Hp) (n : Int) : Option V → Hp → Nat → Nat → Prop := RI (fun x H => h = H ∧ (-1 ≤ x ∧ x < H.2.2 26 2))
set_option maxRecDepth 100000 in
theorem ct_X11_placeOf (l : Launch) (h : Hp) (hI : Inv h) (n : Int) (hn : I32 n) : Ct l D_X11_placeOf 3 64 [.inr (.inr 1), .inl n] h (Q_X11_placeOf h n) := by
  refine ct_of pn_X11_placeOf (Nat.le_of_ble_eq_true rfl) ?_
  show To l E_X11_placeOf (0, [(0, .inr (.inr 1)), (1, .inl n)], [], h, 0, 0) _
  refine to_iconst (dat dk_X11_placeOf 0 rfl) (to_istore_n (L' := [(0, .inr (.inr 1)), (1, .inl n), (2, .inl 0)]) (dat dk_X11_placeOf 1 rfl) (by decide) rfl ?_)
  have lp2_n3 : ∀ (n3 : Nat) (y1 : Int), (I32 y1) → (0 ≤ y1) → (61 - y1 ≤ (n3 : Int)) → To l E_X11_placeOf (2, [(0, .inr (.inr 1)), (1, .inl n), (2, .inl y1)], [], h, 0, 0) (Q_X11_placeOf h n) := by
    intro n3
    induction n3 using Nat.strongRecOn with
    | _ n3 ihn3 =>
    intro y1 ry1 c2 c4
    refine to_iload_n (dat dk_X11_placeOf 2 rfl) rfl (to_aload_n (dat dk_X11_placeOf 3 rfl) rfl (to_getR 26 g_c0_40 (dat dk_X11_placeOf 4 rfl) (hI.atS rfl) (hI.atE rfl) ?_))
    obtain ⟨x5, ex5⟩ : ∃ y : Int, h.2.2 26 2 = y := ⟨_, rfl⟩
    have rx5 := hI.atR (a := 26) (j := 2) rfl
    rw [ex5] at rx5
    refine to_cI ca_c0_93 (dat dk_X11_placeOf 5 rfl) (ct_Jx4a65c_size_8abf5 l h hI ) rfl ⟨_, _, rfl, (hI.atS rfl)⟩ rfl (fun x6 h7 rx6 p8 => ?_)
    obtain ⟨rfl, p8_0, p8_1⟩ := p8
    refine to_ige 39 (dat dk_X11_placeOf 6 rfl) rfl ry1 rx6 (fun c9 => ?_) (fun c9 => ?_)
    · skip
      refine to_iconst (dat dk_X11_placeOf 19 rfl) ?_
      exact to_iret rfl (dat dk_X11_placeOf 20 rfl) (ri_mk (by decide) ⟨rfl, (show -1 ≤ (-1 : Int) ∧ (-1 : Int) < h.2.2 26 2 by omega)⟩)
    · skip
      refine to_aload_n (dat dk_X11_placeOf 7 rfl) rfl (to_getR 26 g_c0_40 (dat dk_X11_placeOf 8 rfl) (hI.atS rfl) (hI.atE rfl) (to_iload_n (dat dk_X11_placeOf 9 rfl) rfl ?_))
      refine to_cR ca_c0_144 (dat dk_X11_placeOf 10 rfl) (ct_Jx4a65c_get_915e3 l h hI y1 ry1 (show 0 ≤ y1 ∧ y1 < h.2.2 26 2 by omega)) rfl ⟨_, _, rfl, (hI.atS rfl)⟩ rfl (fun x10 h11 p12 => ?_)
      obtain ⟨rfl, p12_0⟩ := p12
      refine to_castM (C := RX6) (T := TX6) (N := 8) (ci := 5) rfl (tin 2 235 (by decide +kernel) rfl) (dat dk_X11_placeOf 11 rfl) p12_0.1 ?_
      obtain ⟨x13, ex13⟩ : ∃ y : Int, h.2.2 x10 0 = y := ⟨_, rfl⟩
      have rx13 := full.f0 hI p12_0
      rw [ex13] at rx13
      refine to_getIv (y := x13) ex13 g_c0_246 (dat dk_X11_placeOf 12 rfl) p12_0.1 (to_iload_n (dat dk_X11_placeOf 13 rfl) rfl ?_)
      refine to_ine 33 (dat dk_X11_placeOf 14 rfl) rfl rx13 hn (fun c14 => ?_) (fun c14 => ?_)
      · skip
        refine to_iinc (L' := [(0, .inr (.inr 1)), (1, .inl n), (2, .inl (y1 + 1))]) (dat dk_X11_placeOf 17 rfl) rfl (by decide) rfl (to_goto (dat dk_X11_placeOf 18 rfl) rfl ?_)
        exact ihn3 (n3 - 1) (by omega) (y1 + 1) (by omega) (show 0 ≤ (y1 + 1) by omega) (show 61 - (y1 + 1) ≤ ((n3 - 1 : Nat) : Int) by omega)
      · skip
        refine to_iload_n (dat dk_X11_placeOf 15 rfl) rfl ?_
        exact to_iret rfl (dat dk_X11_placeOf 16 rfl) (ri_mk ry1 ⟨rfl, (show -1 ≤ y1 ∧ y1 < h.2.2 26 2 by omega)⟩)
  exact lp2_n3 (61 - (0 : Int)).toNat 0 (by decide) (show 0 ≤ (0 : Int) by omega) (by omega)
abbrev Q_X11_isTag (h : Hp) (t : Nat) : Option V → Hp → Nat → Nat → Prop := RI (fun x H => h = H ∧ (x = 0 ∨ x = 1) ∧ (x = 0 ∨ (1 ≤ H.2.2 t 1 ∧ H.2.2 t 1 ≤ 12)))
set_option maxRecDepth 100000 in
theorem ct_X11_isTag (l : Launch) (h : Hp) (hI : Inv h) (t : Nat) (ht : isB t = true) : Ct l D_X11_isTag 1 21 [.inr (.inr t)] h (Q_X11_isTag h t) := by
  refine ct_of pn_X11_isTag (Nat.le_of_ble_eq_true rfl) ?_
  show To l E_X11_isTag (0, [(0, .inr (.inr t))], [], h, 0, 0) _
  refine to_iconst (dat dk_X11_isTag 0 rfl) (to_istore_n (L' := [(0, .inr (.inr t)), (1, .inl 0)]) (dat dk_X11_isTag 1 rfl) (by decide) rfl ?_)
  have lp2_n2 : ∀ (n2 : Nat) (y1 : Int), (I32 y1) → (h.2.2 t 1 - y1 ≤ (n2 : Int)) → To l E_X11_isTag (2, [(0, .inr (.inr t)), (1, .inl y1)], [], h, 0, 0) (Q_X11_isTag h t) := by
    intro n2
    induction n2 using Nat.strongRecOn with
    | _ n2 ihn2 =>
    intro y1 ry1 c3
    refine to_iload_n (dat dk_X11_isTag 2 rfl) rfl (to_aload_np (dat dk_X11_isTag 3 rfl) (hI.1.2.2.2 _ _ (hI.bty ht)).1 rfl ?_)
    obtain ⟨x4, ex4⟩ : ∃ y : Int, h.2.2 t 1 = y := ⟨_, rfl⟩
    have rx4 := hI.blen ht
    rw [ex4] at rx4
    refine to_cI ca_c0_85 (dat dk_X11_isTag 4 rfl) (ct_X1_size l h hI t ht) rfl ⟨_, _, rfl, (hI.bty ht)⟩ rfl (fun x5 h6 rx5 p7 => ?_)
    obtain ⟨rfl, p7_0⟩ := p7
    refine to_ige 43 (dat dk_X11_isTag 5 rfl) rfl ry1 rx5 (fun c8 => ?_) (fun c8 => ?_)
    · skip
      refine to_aload_np (dat dk_X11_isTag 23 rfl) (hI.1.2.2.2 _ _ (hI.bty ht)).1 rfl ?_
      refine to_cI ca_c0_85 (dat dk_X11_isTag 24 rfl) (ct_X1_size l h hI t ht) rfl ⟨_, _, rfl, (hI.bty ht)⟩ rfl (fun x9 h10 rx9 p11 => ?_)
      obtain ⟨rfl, p11_0⟩ := p11
      refine to_iconst (dat dk_X11_isTag 25 rfl) ?_
      refine to_ilt 64 (dat dk_X11_isTag 26 rfl) rfl rx9 (by decide) (fun c12 => ?_) (fun c12 => ?_)
      · skip
        refine to_iconst (dat dk_X11_isTag 33 rfl) ?_
        exact to_zret rfl (dat dk_X11_isTag 34 rfl) (by decide) (ri_mk (by decide) ⟨rfl, (by decide), (show (0 : Int) = 0 ∨ (1 ≤ h.2.2 t 1 ∧ h.2.2 t 1 ≤ 12) by omega)⟩)
      · skip
        refine to_aload_np (dat dk_X11_isTag 27 rfl) (hI.1.2.2.2 _ _ (hI.bty ht)).1 rfl ?_
        refine to_cI ca_c0_85 (dat dk_X11_isTag 28 rfl) (ct_X1_size l h hI t ht) rfl ⟨_, _, rfl, (hI.bty ht)⟩ rfl (fun x13 h14 rx13 p15 => ?_)
        obtain ⟨rfl, p15_0⟩ := p15
        refine to_bipush (dat dk_X11_isTag 29 rfl) (by decide) ?_
        refine to_igt 64 (dat dk_X11_isTag 30 rfl) rfl rx13 (by decide) (fun c16 => ?_) (fun c16 => ?_)
        · skip
          refine to_iconst (dat dk_X11_isTag 33 rfl) ?_
          exact to_zret rfl (dat dk_X11_isTag 34 rfl) (by decide) (ri_mk (by decide) ⟨rfl, (by decide), (show (0 : Int) = 0 ∨ (1 ≤ h.2.2 t 1 ∧ h.2.2 t 1 ≤ 12) by omega)⟩)
        · skip
          refine to_iconst (dat dk_X11_isTag 31 rfl) (to_goto (dat dk_X11_isTag 32 rfl) rfl ?_)
          exact to_zret rfl (dat dk_X11_isTag 34 rfl) (by decide) (ri_mk (by decide) ⟨rfl, (by decide), (show (1 : Int) = 0 ∨ (1 ≤ h.2.2 t 1 ∧ h.2.2 t 1 ≤ 12) by omega)⟩)
    · skip
      refine to_aload_np (dat dk_X11_isTag 6 rfl) (hI.1.2.2.2 _ _ (hI.bty ht)).1 rfl (to_iload_n (dat dk_X11_isTag 7 rfl) rfl ?_)
      refine to_cI ca_c0_249 (dat dk_X11_isTag 8 rfl) (ct_X1_byteAt l h hI t ht y1 ry1) rfl ⟨_, _, rfl, (hI.bty ht)⟩ rfl (fun x17 h18 rx17 p19 => ?_)
      obtain ⟨rfl, p19_0⟩ := p19
      refine to_istore_n (L' := [(0, .inr (.inr t)), (1, .inl y1), (2, .inl x17)]) (dat dk_X11_isTag 9 rfl) (by decide) rfl (to_iload_n (dat dk_X11_isTag 10 rfl) rfl ?_)
      refine to_cI ca_c0_252 (dat dk_X11_isTag 11 rfl) (ct_X9_isDigit l h hI x17 rx17) rfl trivial rfl (fun x20 h21 rx20 p22 => ?_)
      obtain ⟨rfl, zx20⟩ := p22
      refine to_ifne 37 (dat dk_X11_isTag 12 rfl) rfl rx20 (fun c23 => ?_) (fun c23 => ?_)
      · skip
        refine to_iinc (L' := [(0, .inr (.inr t)), (1, .inl (y1 + 1)), (2, .inl x17)]) (dat dk_X11_isTag 21 rfl) rfl (by decide) rfl (to_goto (dat dk_X11_isTag 22 rfl) rfl ?_)
        refine to_pick [0, 1] rfl ?_
        exact ihn2 (n2 - 1) (by omega) (y1 + 1) (by omega) (show h.2.2 t 1 - (y1 + 1) ≤ ((n2 - 1 : Nat) : Int) by omega)
      · skip
        refine to_iload_n (dat dk_X11_isTag 13 rfl) rfl (to_bipush (dat dk_X11_isTag 14 rfl) (by decide) ?_)
        refine to_ilt 35 (dat dk_X11_isTag 15 rfl) rfl rx17 (by decide) (fun c24 => ?_) (fun c24 => ?_)
        · skip
          refine to_iconst (dat dk_X11_isTag 19 rfl) ?_
          exact to_zret rfl (dat dk_X11_isTag 20 rfl) (by decide) (ri_mk (by decide) ⟨rfl, (by decide), (show (0 : Int) = 0 ∨ (1 ≤ h.2.2 t 1 ∧ h.2.2 t 1 ≤ 12) by omega)⟩)
        · skip
          refine to_iload_n (dat dk_X11_isTag 16 rfl) rfl (to_bipush (dat dk_X11_isTag 17 rfl) (by decide) ?_)
          refine to_ile 37 (dat dk_X11_isTag 18 rfl) rfl rx17 (by decide) (fun c25 => ?_) (fun c25 => ?_)
          · skip
            refine to_iinc (L' := [(0, .inr (.inr t)), (1, .inl (y1 + 1)), (2, .inl x17)]) (dat dk_X11_isTag 21 rfl) rfl (by decide) rfl (to_goto (dat dk_X11_isTag 22 rfl) rfl ?_)
            refine to_pick [0, 1] rfl ?_
            exact ihn2 (n2 - 1) (by omega) (y1 + 1) (by omega) (show h.2.2 t 1 - (y1 + 1) ≤ ((n2 - 1 : Nat) : Int) by omega)
          · skip
            refine to_iconst (dat dk_X11_isTag 19 rfl) ?_
            exact to_zret rfl (dat dk_X11_isTag 20 rfl) (by decide) (ri_mk (by decide) ⟨rfl, (by decide), (show (0 : Int) = 0 ∨ (1 ≤ h.2.2 t 1 ∧ h.2.2 t 1 ≤ 12) by omega)⟩)
  exact lp2_n2 (h.2.2 t 1 - (0 : Int)).toNat 0 (by decide) (by omega)
abbrev Q_X11_fault (h : Hp) : Option V → Hp → Nat → Nat → Prop := RI (fun x H => h = H ∧ (x = H.2.2 1 16))
set_option maxRecDepth 100000 in
theorem ct_X11_fault (l : Launch) (h : Hp) (hI : Inv h)  : Ct l D_X11_fault 0 0 [.inr (.inr 1)] h (Q_X11_fault h) := by
  refine ct_of pn_X11_fault (Nat.le_of_ble_eq_true rfl) ?_
  show To l E_X11_fault (0, [(0, .inr (.inr 1))], [], h, 0, 0) _
  refine to_aload_n (dat dk_X11_fault 0 rfl) rfl ?_
  obtain ⟨x1, ex1⟩ : ∃ y : Int, h.2.2 1 16 = y := ⟨_, rfl⟩
  have rx1 := hI.atR (a := 1) (j := 16) rfl
  rw [ex1] at rx1
  refine to_getIv (y := x1) ex1 g_c0_179 (dat dk_X11_fault 1 rfl) (hI.atS rfl) ?_
  exact to_iret rfl (dat dk_X11_fault 2 rfl) (ri_mk (by omega) ⟨rfl, (show x1 = h.2.2 1 16 by omega)⟩)
abbrev Q_X11_found (h : Hp) (n : Int) : Option V → Hp → Nat → Nat → Prop := RI (fun x H => h = H)
set_option maxRecDepth 100000 in
theorem ct_X11_found (l : Launch) (h : Hp) (hI : Inv h) (n : Int) (hn : I32 n) : Ct l D_X11_found 0 0 [.inr (.inr 1), .inl n] h (Q_X11_found h n) := by
  refine ct_of pn_X11_found (Nat.le_of_ble_eq_true rfl) ?_
  show To l E_X11_found (0, [(0, .inr (.inr 1)), (1, .inl n)], [], h, 0, 0) _
  refine to_iload_n (dat dk_X11_found 0 rfl) rfl ?_
  refine to_iflt 30 (dat dk_X11_found 1 rfl) rfl hn (fun c1 => ?_) (fun c1 => ?_)
  · skip
    refine to_iconst (dat dk_X11_found 16 rfl) ?_
    exact to_iret rfl (dat dk_X11_found 17 rfl) (ri_mk (by decide) rfl)
  · skip
    refine to_iload_n (dat dk_X11_found 2 rfl) rfl (to_aload_n (dat dk_X11_found 3 rfl) rfl ?_)
    obtain ⟨x2, ex2⟩ : ∃ y : Int, h.2.2 1 13 = y := ⟨_, rfl⟩
    have rx2 := hI.atR (a := 1) (j := 13) rfl
    rw [ex2] at rx2
    refine to_getIv (y := x2) ex2 g_c0_188 (dat dk_X11_found 4 rfl) (hI.atS rfl) ?_
    refine to_ige 30 (dat dk_X11_found 5 rfl) rfl hn (by omega) (fun c3 => ?_) (fun c3 => ?_)
    · skip
      refine to_iconst (dat dk_X11_found 16 rfl) ?_
      exact to_iret rfl (dat dk_X11_found 17 rfl) (ri_mk (by decide) rfl)
    · skip
      refine to_iload_n (dat dk_X11_found 6 rfl) rfl (to_aload_n (dat dk_X11_found 7 rfl) rfl (to_getR 57 g_c0_71 (dat dk_X11_found 8 rfl) (hI.atS rfl) (hI.atE rfl) (to_alen (dat dk_X11_found 9 rfl) (hI.atS rfl) (by decide) ?_)))
      refine to_ige 30 (dat dk_X11_found 10 rfl) rfl hn (by decide) (fun c4 => ?_) (fun c4 => ?_)
      · skip
        refine to_iconst (dat dk_X11_found 16 rfl) ?_
        exact to_iret rfl (dat dk_X11_found 17 rfl) (ri_mk (by decide) rfl)
      · skip
        refine to_aload_n (dat dk_X11_found 11 rfl) rfl (to_getR 57 g_c0_71 (dat dk_X11_found 12 rfl) (hI.atS rfl) (hI.atE rfl) (to_iload_n (dat dk_X11_found 13 rfl) rfl ?_))
        obtain ⟨x5, ex5⟩ : ∃ y : Int, h.2.2 57 (Int.toNat n) = y := ⟨_, rfl⟩
        have rx5 := hI.atR (a := 57) (j := Int.toNat n) rfl
        rw [ex5] at rx5
        refine to_ialdv ex5 (dat dk_X11_found 14 rfl) (hI.atS rfl) rfl (by decide) (by omega) (to_goto (dat dk_X11_found 15 rfl) rfl ?_)
        exact to_iret rfl (dat dk_X11_found 17 rfl) (ri_mk (by omega) rfl)
abbrev Q_X11_thread (h : Hp) (n : Int) : Option V → Hp → Nat → Nat → Prop := RI (fun x H => h = H)
set_option maxRecDepth 100000 in
theorem ct_X11_thread (l : Launch) (h : Hp) (hI : Inv h) (n : Int) (hn : I32 n) : Ct l D_X11_thread 0 0 [.inr (.inr 1), .inl n] h (Q_X11_thread h n) := by
  refine ct_of pn_X11_thread (Nat.le_of_ble_eq_true rfl) ?_
  show To l E_X11_thread (0, [(0, .inr (.inr 1)), (1, .inl n)], [], h, 0, 0) _
  refine to_iload_n (dat dk_X11_thread 0 rfl) rfl ?_
  refine to_iflt 30 (dat dk_X11_thread 1 rfl) rfl hn (fun c1 => ?_) (fun c1 => ?_)
  · skip
    refine to_iconst (dat dk_X11_thread 16 rfl) ?_
    exact to_iret rfl (dat dk_X11_thread 17 rfl) (ri_mk (by decide) rfl)
  · skip
    refine to_iload_n (dat dk_X11_thread 2 rfl) rfl (to_aload_n (dat dk_X11_thread 3 rfl) rfl ?_)
    obtain ⟨x2, ex2⟩ : ∃ y : Int, h.2.2 1 14 = y := ⟨_, rfl⟩
    have rx2 := hI.atR (a := 1) (j := 14) rfl
    rw [ex2] at rx2
    refine to_getIv (y := x2) ex2 g_c0_194 (dat dk_X11_thread 4 rfl) (hI.atS rfl) ?_
    refine to_ige 30 (dat dk_X11_thread 5 rfl) rfl hn (by omega) (fun c3 => ?_) (fun c3 => ?_)
    · skip
      refine to_iconst (dat dk_X11_thread 16 rfl) ?_
      exact to_iret rfl (dat dk_X11_thread 17 rfl) (ri_mk (by decide) rfl)
    · skip
      refine to_iload_n (dat dk_X11_thread 6 rfl) rfl (to_aload_n (dat dk_X11_thread 7 rfl) rfl (to_getR 59 g_c0_78 (dat dk_X11_thread 8 rfl) (hI.atS rfl) (hI.atE rfl) (to_alen (dat dk_X11_thread 9 rfl) (hI.atS rfl) (by decide) ?_)))
      refine to_ige 30 (dat dk_X11_thread 10 rfl) rfl hn (by decide) (fun c4 => ?_) (fun c4 => ?_)
      · skip
        refine to_iconst (dat dk_X11_thread 16 rfl) ?_
        exact to_iret rfl (dat dk_X11_thread 17 rfl) (ri_mk (by decide) rfl)
      · skip
        refine to_aload_n (dat dk_X11_thread 11 rfl) rfl (to_getR 59 g_c0_78 (dat dk_X11_thread 12 rfl) (hI.atS rfl) (hI.atE rfl) (to_iload_n (dat dk_X11_thread 13 rfl) rfl ?_))
        obtain ⟨x5, ex5⟩ : ∃ y : Int, h.2.2 59 (Int.toNat n) = y := ⟨_, rfl⟩
        have rx5 := hI.atR (a := 59) (j := Int.toNat n) rfl
        rw [ex5] at rx5
        refine to_ialdv ex5 (dat dk_X11_thread 14 rfl) (hI.atS rfl) rfl (by decide) (by omega) (to_goto (dat dk_X11_thread 15 rfl) rfl ?_)
        exact to_iret rfl (dat dk_X11_thread 17 rfl) (ri_mk (by omega) rfl)
abbrev Q_X11_tellThread (h : Hp) (n : Int) : Option V → Hp → Nat → Nat → Prop := RV (fun H => Inv H ∧ Fr [59, 124] h H)
set_option maxRecDepth 100000 in
theorem ct_X11_tellThread (l : Launch) (h : Hp) (hI : Inv h) (n : Int) (hn : I32 n) : Ct l D_X11_tellThread 0 0 [.inr (.inr 1), .inl n] h (Q_X11_tellThread h n) := by
  refine ct_of pn_X11_tellThread (Nat.le_of_ble_eq_true rfl) ?_
  show To l E_X11_tellThread (0, [(0, .inr (.inr 1)), (1, .inl n)], [], h, 0, 0) _
  refine to_iconst (dat dk_X11_tellThread 0 rfl) (to_istore_n (L' := [(0, .inr (.inr 1)), (1, .inl n), (2, .inl 0)]) (dat dk_X11_tellThread 1 rfl) (by decide) rfl ?_)
  have lp2_n3 : ∀ (n3 : Nat) (y1 : Int), (I32 y1) → (0 ≤ y1) → (61 - y1 ≤ (n3 : Int)) → To l E_X11_tellThread (2, [(0, .inr (.inr 1)), (1, .inl n), (2, .inl y1)], [], h, 0, 0) (Q_X11_tellThread h n) := by
    intro n3
    induction n3 using Nat.strongRecOn with
    | _ n3 ihn3 =>
    intro y1 ry1 c2 c4
    refine to_iload_n (dat dk_X11_tellThread 2 rfl) rfl (to_aload_n (dat dk_X11_tellThread 3 rfl) rfl ?_)
    obtain ⟨x5, ex5⟩ : ∃ y : Int, h.2.2 1 14 = y := ⟨_, rfl⟩
    have rx5 := hI.atR (a := 1) (j := 14) rfl
    rw [ex5] at rx5
    refine to_getIv (y := x5) ex5 g_c0_194 (dat dk_X11_tellThread 4 rfl) (hI.atS rfl) ?_
    refine to_ige 36 (dat dk_X11_tellThread 5 rfl) rfl ry1 (by omega) (fun c6 => ?_) (fun c6 => ?_)
    · skip
      refine to_aload_n (dat dk_X11_tellThread 20 rfl) rfl (to_getIv (y := x5) ex5 g_c0_194 (dat dk_X11_tellThread 21 rfl) (hI.atS rfl) (to_aload_n (dat dk_X11_tellThread 22 rfl) rfl (to_getR 59 g_c0_78 (dat dk_X11_tellThread 23 rfl) (hI.atS rfl) (hI.atE rfl) (to_alen (dat dk_X11_tellThread 24 rfl) (hI.atS rfl) (by decide) ?_))))
      refine to_ige 68 (dat dk_X11_tellThread 25 rfl) rfl (by omega) (by decide) (fun c7 => ?_) (fun c7 => ?_)
      · skip
        exact to_vret rfl (dat dk_X11_tellThread 38 rfl) (rv_mk ⟨hI, (Fr.rf _ _)⟩)
      · skip
        refine to_aload_n (dat dk_X11_tellThread 26 rfl) rfl (to_getR 59 g_c0_78 (dat dk_X11_tellThread 27 rfl) (hI.atS rfl) (hI.atE rfl) (to_aload_n (dat dk_X11_tellThread 28 rfl) rfl (to_getIv (y := x5) ex5 g_c0_194 (dat dk_X11_tellThread 29 rfl) (hI.atS rfl) (to_iload_n (dat dk_X11_tellThread 30 rfl) rfl (to_iastw (dat dk_X11_tellThread 31 rfl) (hI.atS rfl) rfl (by decide) (by omega) ?_)))))
        intro h10 wh10
        have I8 : Inv h10 := by rw [wh10]; exact hI.put (a := 59) (j := (Int.toNat x5)) (x := n) (-2147483648) (2147483647) rfl rfl (show (-2147483648 : Int) ≤ n ∧ n ≤ 2147483647 by omega)
        have f9 : Fr [59, 124] h h10 := by rw [wh10]; exact Fr.putF (a := 59) (j := (Int.toNat x5)) (x := n) (Fr.rf _ _) rfl
        refine to_aload_n (dat dk_X11_tellThread 32 rfl) rfl (to_dup (dat dk_X11_tellThread 33 rfl) rfl (to_getIv (y := x5) (by rw [wh10]; exact ex5) g_c0_194 (dat dk_X11_tellThread 34 rfl) (I8.atS rfl) (to_iconst (dat dk_X11_tellThread 35 rfl) (to_iadd (dat dk_X11_tellThread 36 rfl) (to_putIw p_c0_194 (dat dk_X11_tellThread 37 rfl) (I8.atS rfl) ?_)))))
        intro h13 wh13
        have I11 : Inv h13 := by rw [wh13]; exact I8.put (a := 1) (j := 14) (x := (x5 + 1)) (0) (60) rfl rfl (show (0 : Int) ≤ (x5 + 1) ∧ (x5 + 1) ≤ 60 by omega)
        have f12 : Fr [59, 124] h h13 := by rw [wh13]; exact Fr.putF (a := 1) (j := 14) (x := (x5 + 1)) f9 rfl
        exact to_vret rfl (dat dk_X11_tellThread 38 rfl) (rv_mk ⟨I11, f12⟩)
    · skip
      refine to_iload_n (dat dk_X11_tellThread 6 rfl) rfl (to_aload_n (dat dk_X11_tellThread 7 rfl) rfl (to_getR 59 g_c0_78 (dat dk_X11_tellThread 8 rfl) (hI.atS rfl) (hI.atE rfl) (to_alen (dat dk_X11_tellThread 9 rfl) (hI.atS rfl) (by decide) ?_)))
      refine to_ige 36 (dat dk_X11_tellThread 10 rfl) rfl ry1 (by decide) (fun c14 => ?_) (fun c14 => ?_)
      · skip
        refine to_aload_n (dat dk_X11_tellThread 20 rfl) rfl (to_getIv (y := x5) ex5 g_c0_194 (dat dk_X11_tellThread 21 rfl) (hI.atS rfl) (to_aload_n (dat dk_X11_tellThread 22 rfl) rfl (to_getR 59 g_c0_78 (dat dk_X11_tellThread 23 rfl) (hI.atS rfl) (hI.atE rfl) (to_alen (dat dk_X11_tellThread 24 rfl) (hI.atS rfl) (by decide) ?_))))
        refine to_ige 68 (dat dk_X11_tellThread 25 rfl) rfl (by omega) (by decide) (fun c15 => ?_) (fun c15 => ?_)
        · skip
          exact to_vret rfl (dat dk_X11_tellThread 38 rfl) (rv_mk ⟨hI, (Fr.rf _ _)⟩)
        · skip
          refine to_aload_n (dat dk_X11_tellThread 26 rfl) rfl (to_getR 59 g_c0_78 (dat dk_X11_tellThread 27 rfl) (hI.atS rfl) (hI.atE rfl) (to_aload_n (dat dk_X11_tellThread 28 rfl) rfl (to_getIv (y := x5) ex5 g_c0_194 (dat dk_X11_tellThread 29 rfl) (hI.atS rfl) (to_iload_n (dat dk_X11_tellThread 30 rfl) rfl (to_iastw (dat dk_X11_tellThread 31 rfl) (hI.atS rfl) rfl (by decide) (by omega) ?_)))))
          intro h18 wh18
          have I16 : Inv h18 := by rw [wh18]; exact hI.put (a := 59) (j := (Int.toNat x5)) (x := n) (-2147483648) (2147483647) rfl rfl (show (-2147483648 : Int) ≤ n ∧ n ≤ 2147483647 by omega)
          have f17 : Fr [59, 124] h h18 := by rw [wh18]; exact Fr.putF (a := 59) (j := (Int.toNat x5)) (x := n) (Fr.rf _ _) rfl
          refine to_aload_n (dat dk_X11_tellThread 32 rfl) rfl (to_dup (dat dk_X11_tellThread 33 rfl) rfl (to_getIv (y := x5) (by rw [wh18]; exact ex5) g_c0_194 (dat dk_X11_tellThread 34 rfl) (I16.atS rfl) (to_iconst (dat dk_X11_tellThread 35 rfl) (to_iadd (dat dk_X11_tellThread 36 rfl) (to_putIw p_c0_194 (dat dk_X11_tellThread 37 rfl) (I16.atS rfl) ?_)))))
          intro h21 wh21
          have I19 : Inv h21 := by rw [wh21]; exact I16.put (a := 1) (j := 14) (x := (x5 + 1)) (0) (60) rfl rfl (show (0 : Int) ≤ (x5 + 1) ∧ (x5 + 1) ≤ 60 by omega)
          have f20 : Fr [59, 124] h h21 := by rw [wh21]; exact Fr.putF (a := 1) (j := 14) (x := (x5 + 1)) f17 rfl
          exact to_vret rfl (dat dk_X11_tellThread 38 rfl) (rv_mk ⟨I19, f20⟩)
      · skip
        refine to_aload_n (dat dk_X11_tellThread 11 rfl) rfl (to_getR 59 g_c0_78 (dat dk_X11_tellThread 12 rfl) (hI.atS rfl) (hI.atE rfl) (to_iload_n (dat dk_X11_tellThread 13 rfl) rfl ?_))
        obtain ⟨x22, ex22⟩ : ∃ y : Int, h.2.2 59 (Int.toNat y1) = y := ⟨_, rfl⟩
        have rx22 := hI.atR (a := 59) (j := Int.toNat y1) rfl
        rw [ex22] at rx22
        refine to_ialdv ex22 (dat dk_X11_tellThread 14 rfl) (hI.atS rfl) rfl (by decide) (by omega) (to_iload_n (dat dk_X11_tellThread 15 rfl) rfl ?_)
        refine to_ine 30 (dat dk_X11_tellThread 16 rfl) rfl (by omega) hn (fun c23 => ?_) (fun c23 => ?_)
        · skip
          refine to_iinc (L' := [(0, .inr (.inr 1)), (1, .inl n), (2, .inl (y1 + 1))]) (dat dk_X11_tellThread 18 rfl) rfl (by decide) rfl (to_goto (dat dk_X11_tellThread 19 rfl) rfl ?_)
          exact ihn3 (n3 - 1) (by omega) (y1 + 1) (by omega) (show 0 ≤ (y1 + 1) by omega) (show 61 - (y1 + 1) ≤ ((n3 - 1 : Nat) : Int) by omega)
        · skip
          exact to_vret rfl (dat dk_X11_tellThread 17 rfl) (rv_mk ⟨hI, (Fr.rf _ _)⟩)
  exact lp2_n3 (61 - (0 : Int)).toNat 0 (by decide) (show 0 ≤ (0 : Int) by omega) (by omega)
abbrev Q_X11_insertFound (h : Hp) (m : Nat) : Option V → Hp → Nat → Nat → Prop := RV (fun H => Inv H ∧ Fr [57, 58, 123] h H)
set_option maxRecDepth 100000 in
theorem ct_X11_insertFound (l : Launch) (h : Hp) (hI : Inv h) (m : Nat) (hm : full h m) : Ct l D_X11_insertFound 0 0 [.inr (.inr 1), .inr (.inr m)] h (Q_X11_insertFound h m) := by
  refine ct_of pn_X11_insertFound (Nat.le_of_ble_eq_true rfl) ?_
  show To l E_X11_insertFound (0, [(0, .inr (.inr 1)), (1, .inr (.inr m))], [], h, 0, 0) _
  obtain ⟨x1, ex1⟩ : ∃ y : Int, h.2.2 1 13 = y := ⟨_, rfl⟩
  have rx1 := hI.atR (a := 1) (j := 13) rfl
  rw [ex1] at rx1
  refine to_aload_n (dat dk_X11_insertFound 0 rfl) rfl (to_getIv (y := x1) ex1 g_c0_188 (dat dk_X11_insertFound 1 rfl) (hI.atS rfl) (to_istore_n (L' := [(0, .inr (.inr 1)), (1, .inr (.inr m)), (2, .inl x1)]) (dat dk_X11_insertFound 2 rfl) (by decide) rfl (to_iload_n (dat dk_X11_insertFound 3 rfl) rfl (to_aload_n (dat dk_X11_insertFound 4 rfl) rfl (to_getR 57 g_c0_71 (dat dk_X11_insertFound 5 rfl) (hI.atS rfl) (hI.atE rfl) (to_alen (dat dk_X11_insertFound 6 rfl) (hI.atS rfl) (by decide) ?_))))))
  refine to_ige 23 (dat dk_X11_insertFound 7 rfl) rfl (by omega) (by decide) (fun c2 => ?_) (fun c2 => ?_)
  · skip
    exact to_vret rfl (dat dk_X11_insertFound 13 rfl) (rv_mk ⟨hI, (Fr.rf _ _)⟩)
  · skip
    refine to_iload_n (dat dk_X11_insertFound 8 rfl) rfl (to_aload_n (dat dk_X11_insertFound 9 rfl) rfl (to_getR 58 g_c0_75 (dat dk_X11_insertFound 10 rfl) (hI.atS rfl) (hI.atE rfl) (to_alen (dat dk_X11_insertFound 11 rfl) (hI.atS rfl) (by decide) ?_)))
    refine to_ilt 24 (dat dk_X11_insertFound 12 rfl) rfl (by omega) (by decide) (fun c3 => ?_) (fun c3 => ?_)
    · skip
      have lp24_n9 : ∀ (n9 : Nat) (y4 : Int) (h5 : Hp), (I32 y4) → (Inv h5) → (Fr [57, 58, 123] h h5) → (0 ≤ y4) → (y4 ≤ h.2.2 1 13) → (h5.2.2 1 13 = h.2.2 1 13) → (y4 ≤ (n9 : Int)) → To l E_X11_insertFound (24, [(0, .inr (.inr 1)), (1, .inr (.inr m)), (2, .inl y4)], [], h5, 0, 0) (Q_X11_insertFound h m) := by
        intro n9
        induction n9 using Nat.strongRecOn with
        | _ n9 ihn9 =>
        intro y4 h5 ry4 Ih5 fh5 c6 c7 c8 c10
        obtain ⟨x11, ex11⟩ : ∃ y : Int, h5.2.2 1 13 = y := ⟨_, rfl⟩
        have rx11 := Ih5.atR (a := 1) (j := 13) rfl
        rw [ex11] at rx11
        refine to_iload_n (dat dk_X11_insertFound 14 rfl) rfl ?_
        refine to_ifle 77 (dat dk_X11_insertFound 15 rfl) rfl ry4 (fun c12 => ?_) (fun c12 => ?_)
        · skip
          refine to_aload_n (dat dk_X11_insertFound 47 rfl) rfl (to_getR 58 g_c0_75 (dat dk_X11_insertFound 48 rfl) (Ih5.atS rfl) (Ih5.atE rfl) (to_iload_n (dat dk_X11_insertFound 49 rfl) rfl (to_aload_np (dat dk_X11_insertFound 50 rfl) (by have := full.big Ih5 (full.fr fh5 rfl hI hm); omega) rfl ?_)))
          obtain ⟨x13, ex13⟩ : ∃ y : Int, h5.2.2 m 3 = y := ⟨_, rfl⟩
          have rx13 := full.f3 Ih5 (full.fr fh5 rfl hI hm)
          rw [ex13] at rx13
          refine to_getIv (y := x13) ex13 g_c0_209 (dat dk_X11_insertFound 51 rfl) (full.fr fh5 rfl hI hm).1 (to_iastw (dat dk_X11_insertFound 52 rfl) (Ih5.atS rfl) rfl (by decide) (by omega) ?_)
          intro h16 wh16
          have I14 : Inv h16 := by rw [wh16]; exact Ih5.put (a := 58) (j := (Int.toNat y4)) (x := x13) (-2147483648) (2147483647) rfl rfl (show (-2147483648 : Int) ≤ x13 ∧ x13 ≤ 2147483647 by omega)
          have f15 : Fr [57, 58, 123] h h16 := by rw [wh16]; exact Fr.putF (a := 58) (j := (Int.toNat y4)) (x := x13) fh5 rfl
          have d17 : full h16 m := by rw [wh16]; exact full.putF Ih5 (by decide) (full.fr fh5 rfl hI hm)
          refine to_aload_n (dat dk_X11_insertFound 53 rfl) rfl (to_getR 57 g_c0_71 (dat dk_X11_insertFound 54 rfl) (I14.atS rfl) (I14.atE rfl) (to_iload_n (dat dk_X11_insertFound 55 rfl) rfl (to_aload_np (dat dk_X11_insertFound 56 rfl) (by have := full.big I14 d17; omega) rfl ?_)))
          obtain ⟨x18, ex18⟩ : ∃ y : Int, h16.2.2 m 0 = y := ⟨_, rfl⟩
          have rx18 := full.f0 I14 d17
          rw [ex18] at rx18
          refine to_getIv (y := x18) ex18 g_c0_246 (dat dk_X11_insertFound 57 rfl) d17.1 (to_iastw (dat dk_X11_insertFound 58 rfl) (I14.atS rfl) rfl (by decide) (by omega) ?_)
          intro h21 wh21
          have I19 : Inv h21 := by rw [wh21]; exact I14.put (a := 57) (j := (Int.toNat y4)) (x := x18) (-2147483648) (2147483647) rfl rfl (show (-2147483648 : Int) ≤ x18 ∧ x18 ≤ 2147483647 by omega)
          have f20 : Fr [57, 58, 123] h h21 := by rw [wh21]; exact Fr.putF (a := 57) (j := (Int.toNat y4)) (x := x18) f15 rfl
          have d22 : full h21 m := by rw [wh21]; exact full.putF I14 (by decide) d17
          refine to_aload_n (dat dk_X11_insertFound 59 rfl) rfl (to_dup (dat dk_X11_insertFound 60 rfl) rfl (to_getIv (y := x11) (by rw [wh21]; exact (show h16.2.2 1 13 = x11 from (by rw [wh16]; exact ex11))) g_c0_188 (dat dk_X11_insertFound 61 rfl) (I19.atS rfl) (to_iconst (dat dk_X11_insertFound 62 rfl) (to_iadd (dat dk_X11_insertFound 63 rfl) (to_putIw p_c0_188 (dat dk_X11_insertFound 64 rfl) (I19.atS rfl) ?_)))))
          intro h25 wh25
          have I23 : Inv h25 := by rw [wh25]; exact I19.put (a := 1) (j := 13) (x := (x11 + 1)) (0) (60) rfl rfl (show (0 : Int) ≤ (x11 + 1) ∧ (x11 + 1) ≤ 60 by omega)
          have f24 : Fr [57, 58, 123] h h25 := by rw [wh25]; exact Fr.putF (a := 1) (j := 13) (x := (x11 + 1)) f20 rfl
          have d26 : full h25 m := by rw [wh25]; exact full.putF I19 (by decide) d22
          exact to_vret rfl (dat dk_X11_insertFound 65 rfl) (rv_mk ⟨I23, f24⟩)
        · skip
          refine to_aload_n (dat dk_X11_insertFound 16 rfl) rfl (to_getR 58 g_c0_75 (dat dk_X11_insertFound 17 rfl) (Ih5.atS rfl) (Ih5.atE rfl) (to_iload_n (dat dk_X11_insertFound 18 rfl) rfl (to_iconst (dat dk_X11_insertFound 19 rfl) (to_isub (dat dk_X11_insertFound 20 rfl) ?_))))
          obtain ⟨x27, ex27⟩ : ∃ y : Int, h5.2.2 58 (Int.toNat (y4 - 1)) = y := ⟨_, rfl⟩
          have rx27 := Ih5.atR (a := 58) (j := Int.toNat (y4 - 1)) rfl
          rw [ex27] at rx27
          refine to_ialdv ex27 (dat dk_X11_insertFound 21 rfl) (Ih5.atS rfl) rfl (by decide) (by omega) (to_aload_np (dat dk_X11_insertFound 22 rfl) (by have := full.big Ih5 (full.fr fh5 rfl hI hm); omega) rfl ?_)
          obtain ⟨x28, ex28⟩ : ∃ y : Int, h5.2.2 m 3 = y := ⟨_, rfl⟩
          have rx28 := full.f3 Ih5 (full.fr fh5 rfl hI hm)
          rw [ex28] at rx28
          refine to_getIv (y := x28) ex28 g_c0_209 (dat dk_X11_insertFound 23 rfl) (full.fr fh5 rfl hI hm).1 ?_
          refine to_ige 77 (dat dk_X11_insertFound 24 rfl) rfl (by omega) rx28 (fun c29 => ?_) (fun c29 => ?_)
          · skip
            refine to_aload_n (dat dk_X11_insertFound 47 rfl) rfl (to_getR 58 g_c0_75 (dat dk_X11_insertFound 48 rfl) (Ih5.atS rfl) (Ih5.atE rfl) (to_iload_n (dat dk_X11_insertFound 49 rfl) rfl (to_aload_np (dat dk_X11_insertFound 50 rfl) (by have := full.big Ih5 (full.fr fh5 rfl hI hm); omega) rfl (to_getIv (y := x28) ex28 g_c0_209 (dat dk_X11_insertFound 51 rfl) (full.fr fh5 rfl hI hm).1 (to_iastw (dat dk_X11_insertFound 52 rfl) (Ih5.atS rfl) rfl (by decide) (by omega) ?_)))))
            intro h32 wh32
            have I30 : Inv h32 := by rw [wh32]; exact Ih5.put (a := 58) (j := (Int.toNat y4)) (x := x28) (-2147483648) (2147483647) rfl rfl (show (-2147483648 : Int) ≤ x28 ∧ x28 ≤ 2147483647 by omega)
            have f31 : Fr [57, 58, 123] h h32 := by rw [wh32]; exact Fr.putF (a := 58) (j := (Int.toNat y4)) (x := x28) fh5 rfl
            have d33 : full h32 m := by rw [wh32]; exact full.putF Ih5 (by decide) (full.fr fh5 rfl hI hm)
            refine to_aload_n (dat dk_X11_insertFound 53 rfl) rfl (to_getR 57 g_c0_71 (dat dk_X11_insertFound 54 rfl) (I30.atS rfl) (I30.atE rfl) (to_iload_n (dat dk_X11_insertFound 55 rfl) rfl (to_aload_np (dat dk_X11_insertFound 56 rfl) (by have := full.big I30 d33; omega) rfl ?_)))
            obtain ⟨x34, ex34⟩ : ∃ y : Int, h32.2.2 m 0 = y := ⟨_, rfl⟩
            have rx34 := full.f0 I30 d33
            rw [ex34] at rx34
            refine to_getIv (y := x34) ex34 g_c0_246 (dat dk_X11_insertFound 57 rfl) d33.1 (to_iastw (dat dk_X11_insertFound 58 rfl) (I30.atS rfl) rfl (by decide) (by omega) ?_)
            intro h37 wh37
            have I35 : Inv h37 := by rw [wh37]; exact I30.put (a := 57) (j := (Int.toNat y4)) (x := x34) (-2147483648) (2147483647) rfl rfl (show (-2147483648 : Int) ≤ x34 ∧ x34 ≤ 2147483647 by omega)
            have f36 : Fr [57, 58, 123] h h37 := by rw [wh37]; exact Fr.putF (a := 57) (j := (Int.toNat y4)) (x := x34) f31 rfl
            have d38 : full h37 m := by rw [wh37]; exact full.putF I30 (by decide) d33
            refine to_aload_n (dat dk_X11_insertFound 59 rfl) rfl (to_dup (dat dk_X11_insertFound 60 rfl) rfl (to_getIv (y := x11) (by rw [wh37]; exact (show h32.2.2 1 13 = x11 from (by rw [wh32]; exact ex11))) g_c0_188 (dat dk_X11_insertFound 61 rfl) (I35.atS rfl) (to_iconst (dat dk_X11_insertFound 62 rfl) (to_iadd (dat dk_X11_insertFound 63 rfl) (to_putIw p_c0_188 (dat dk_X11_insertFound 64 rfl) (I35.atS rfl) ?_)))))
            intro h41 wh41
            have I39 : Inv h41 := by rw [wh41]; exact I35.put (a := 1) (j := 13) (x := (x11 + 1)) (0) (60) rfl rfl (show (0 : Int) ≤ (x11 + 1) ∧ (x11 + 1) ≤ 60 by omega)
            have f40 : Fr [57, 58, 123] h h41 := by rw [wh41]; exact Fr.putF (a := 1) (j := 13) (x := (x11 + 1)) f36 rfl
            have d42 : full h41 m := by rw [wh41]; exact full.putF I35 (by decide) d38
            exact to_vret rfl (dat dk_X11_insertFound 65 rfl) (rv_mk ⟨I39, f40⟩)
          · skip
            refine to_aload_n (dat dk_X11_insertFound 25 rfl) rfl (to_getR 58 g_c0_75 (dat dk_X11_insertFound 26 rfl) (Ih5.atS rfl) (Ih5.atE rfl) (to_iload_n (dat dk_X11_insertFound 27 rfl) rfl (to_aload_n (dat dk_X11_insertFound 28 rfl) rfl (to_getR 58 g_c0_75 (dat dk_X11_insertFound 29 rfl) (Ih5.atS rfl) (Ih5.atE rfl) (to_iload_n (dat dk_X11_insertFound 30 rfl) rfl (to_iconst (dat dk_X11_insertFound 31 rfl) (to_isub (dat dk_X11_insertFound 32 rfl) ?_)))))))
            obtain ⟨x43, ex43⟩ : ∃ y : Int, h5.2.2 58 (Int.toNat (y4 - 1)) = y := ⟨_, rfl⟩
            have rx43 := Ih5.atR (a := 58) (j := Int.toNat (y4 - 1)) rfl
            rw [ex43] at rx43
            refine to_ialdv ex43 (dat dk_X11_insertFound 33 rfl) (Ih5.atS rfl) rfl (by decide) (by omega) (to_iastw (dat dk_X11_insertFound 34 rfl) (Ih5.atS rfl) rfl (by decide) (by omega) ?_)
            intro h46 wh46
            have I44 : Inv h46 := by rw [wh46]; exact Ih5.put (a := 58) (j := (Int.toNat y4)) (x := x43) (-2147483648) (2147483647) rfl rfl (show (-2147483648 : Int) ≤ x43 ∧ x43 ≤ 2147483647 by omega)
            have f45 : Fr [57, 58, 123] h h46 := by rw [wh46]; exact Fr.putF (a := 58) (j := (Int.toNat y4)) (x := x43) fh5 rfl
            have d47 : full h46 m := by rw [wh46]; exact full.putF Ih5 (by decide) (full.fr fh5 rfl hI hm)
            refine to_aload_n (dat dk_X11_insertFound 35 rfl) rfl (to_getR 57 g_c0_71 (dat dk_X11_insertFound 36 rfl) (I44.atS rfl) (I44.atE rfl) (to_iload_n (dat dk_X11_insertFound 37 rfl) rfl (to_aload_n (dat dk_X11_insertFound 38 rfl) rfl (to_getR 57 g_c0_71 (dat dk_X11_insertFound 39 rfl) (I44.atS rfl) (I44.atE rfl) (to_iload_n (dat dk_X11_insertFound 40 rfl) rfl (to_iconst (dat dk_X11_insertFound 41 rfl) (to_isub (dat dk_X11_insertFound 42 rfl) ?_)))))))
            obtain ⟨x48, ex48⟩ : ∃ y : Int, h46.2.2 57 (Int.toNat (y4 - 1)) = y := ⟨_, rfl⟩
            have rx48 := I44.atR (a := 57) (j := Int.toNat (y4 - 1)) rfl
            rw [ex48] at rx48
            refine to_ialdv ex48 (dat dk_X11_insertFound 43 rfl) (I44.atS rfl) rfl (by decide) (by omega) (to_iastw (dat dk_X11_insertFound 44 rfl) (I44.atS rfl) rfl (by decide) (by omega) ?_)
            intro h51 wh51
            have I49 : Inv h51 := by rw [wh51]; exact I44.put (a := 57) (j := (Int.toNat y4)) (x := x48) (-2147483648) (2147483647) rfl rfl (show (-2147483648 : Int) ≤ x48 ∧ x48 ≤ 2147483647 by omega)
            have f50 : Fr [57, 58, 123] h h51 := by rw [wh51]; exact Fr.putF (a := 57) (j := (Int.toNat y4)) (x := x48) f45 rfl
            have d52 : full h51 m := by rw [wh51]; exact full.putF I44 (by decide) d47
            refine to_iinc (L' := [(0, .inr (.inr 1)), (1, .inr (.inr m)), (2, .inl (y4 + (-1)))]) (dat dk_X11_insertFound 45 rfl) rfl (by decide) rfl (to_goto (dat dk_X11_insertFound 46 rfl) rfl ?_)
            have e53 : h51.2.2 1 13 = x11 := (by rw [wh51]; exact (show h46.2.2 1 13 = x11 from (by rw [wh46]; exact ex11)))
            exact ihn9 (n9 - 1) (by omega) (y4 + (-1)) h51 (by omega) I49 f50 (show 0 ≤ (y4 + (-1)) by omega) (show (y4 + (-1)) ≤ h.2.2 1 13 by omega) (show h51.2.2 1 13 = h.2.2 1 13 by omega) (show (y4 + (-1)) ≤ ((n9 - 1 : Nat) : Int) by omega)
      exact lp24_n9 (x1).toNat x1 h (by omega) hI (Fr.rf _ _) (show 0 ≤ x1 by omega) (show x1 ≤ h.2.2 1 13 by omega) (show h.2.2 1 13 = h.2.2 1 13 by omega) (by omega)
    · skip
      exact to_vret rfl (dat dk_X11_insertFound 13 rfl) (rv_mk ⟨hI, (Fr.rf _ _)⟩)
abbrev Q_X11_keepFound (h : Hp) (w : Int) : Option V → Hp → Nat → Nat → Prop := RV (fun H => Inv H ∧ Fr [57, 58, 123] h H)
set_option maxRecDepth 100000 in
theorem ct_X11_keepFound (l : Launch) (h : Hp) (hI : Inv h) (w : Int) : Ct l D_X11_keepFound 3 64 [.inr (.inr 1), .inr (.inl w)] h (Q_X11_keepFound h w) := by
  refine ct_of pn_X11_keepFound (Nat.le_of_ble_eq_true rfl) ?_
  show To l E_X11_keepFound (0, [(0, .inr (.inr 1)), (1, .inr (.inl w))], [], h, 0, 0) _
  obtain ⟨x1, ex1⟩ : ∃ y : Int, h.2.2 26 2 = y := ⟨_, rfl⟩
  have rx1 := hI.atR (a := 26) (j := 2) rfl
  rw [ex1] at rx1
  refine to_aload_n (dat dk_X11_keepFound 0 rfl) rfl (to_iconst (dat dk_X11_keepFound 1 rfl) (to_putIw p_c0_188 (dat dk_X11_keepFound 2 rfl) (hI.atS rfl) ?_))
  intro h4 wh4
  have I2 : Inv h4 := by rw [wh4]; exact hI.put (a := 1) (j := 13) (x := 0) (0) (60) rfl rfl (show (0 : Int) ≤ 0 ∧ 0 ≤ 60 by decide)
  have f3 : Fr [57, 58, 123] h h4 := by rw [wh4]; exact Fr.putF (a := 1) (j := 13) (x := 0) (Fr.rf _ _) rfl
  refine to_aload_n (dat dk_X11_keepFound 3 rfl) rfl (to_getR 26 g_c0_40 (dat dk_X11_keepFound 4 rfl) (I2.atS rfl) (I2.atE rfl) ?_)
  have e5 : h4.2.2 26 2 = x1 := (by rw [wh4]; exact ex1)
  refine to_cI ca_c0_93 (dat dk_X11_keepFound 5 rfl) (ct_Jx4a65c_size_8abf5 l h4 I2 ) rfl ⟨_, _, rfl, (I2.atS rfl)⟩ rfl (fun x6 h7 rx6 p8 => ?_)
  obtain ⟨rfl, p8_0, p8_1⟩ := p8
  refine to_iconst (dat dk_X11_keepFound 6 rfl) (to_isub (dat dk_X11_keepFound 7 rfl) (to_istore_n (L' := [(0, .inr (.inr 1)), (1, .inr (.inl w)), (3, .inl (x6 - 1))]) (dat dk_X11_keepFound 8 rfl) (by decide) rfl ?_))
  have lp15_n13 : ∀ (n13 : Nat) (y9 : Int) (h10 : Hp), (I32 y9) → (Inv h10) → (Fr [57, 58, 123] h h10) → (-1 ≤ y9) → (y9 < h10.2.2 26 2) → (y9 + 1 ≤ (n13 : Int)) → To l E_X11_keepFound (15, [(0, .inr (.inr 1)), (1, .inr (.inl w)), (3, .inl y9)], [], h10, 0, 0) (Q_X11_keepFound h w) := by
    intro n13
    induction n13 using Nat.strongRecOn with
    | _ n13 ihn13 =>
    intro y9 h10 ry9 Ih10 fh10 c11 c12 c14
    have e15 : h10.2.2 26 2 = x1 := ((Fr.get fh10 (by have := hI.1.1; omega) rfl).trans ex1)
    refine to_iload_n (dat dk_X11_keepFound 9 rfl) rfl ?_
    refine to_iflt 50 (dat dk_X11_keepFound 10 rfl) rfl ry9 (fun c16 => ?_) (fun c16 => ?_)
    · skip
      exact to_vret rfl (dat dk_X11_keepFound 28 rfl) (rv_mk ⟨Ih10, fh10⟩)
    · skip
      refine to_lload_n (dat dk_X11_keepFound 11 rfl) rfl (to_iload_n (dat dk_X11_keepFound 12 rfl) rfl ?_)
      refine to_lshr (dat dk_X11_keepFound 13 rfl) (fun w17 => ?_)
      refine to_lconst (v := 1) (dat dk_X11_keepFound 14 rfl) rfl ?_
      refine to_land (dat dk_X11_keepFound 15 rfl) (fun w18 => ?_)
      refine to_lconst (v := 0) (dat dk_X11_keepFound 16 rfl) rfl ?_
      refine to_lcmp (dat dk_X11_keepFound 17 rfl) (fun x19 rx19 => ?_)
      refine to_ifeq 44 (dat dk_X11_keepFound 18 rfl) rfl rx19 (fun c20 => ?_) (fun c20 => ?_)
      · skip
        refine to_iinc (L' := [(0, .inr (.inr 1)), (1, .inr (.inl w)), (3, .inl (y9 + (-1)))]) (dat dk_X11_keepFound 26 rfl) rfl (by decide) rfl (to_goto (dat dk_X11_keepFound 27 rfl) rfl ?_)
        exact ihn13 (n13 - 1) (by omega) (y9 + (-1)) h10 (by omega) Ih10 fh10 (show -1 ≤ (y9 + (-1)) by omega) (show (y9 + (-1)) < h10.2.2 26 2 by omega) (show (y9 + (-1)) + 1 ≤ ((n13 - 1 : Nat) : Int) by omega)
      · skip
        refine to_aload_n (dat dk_X11_keepFound 19 rfl) rfl (to_aload_n (dat dk_X11_keepFound 20 rfl) rfl (to_getR 26 g_c0_40 (dat dk_X11_keepFound 21 rfl) (Ih10.atS rfl) (Ih10.atE rfl) (to_iload_n (dat dk_X11_keepFound 22 rfl) rfl ?_)))
        refine to_cR ca_c0_144 (dat dk_X11_keepFound 23 rfl) (ct_Jx4a65c_get_915e3 l h10 Ih10 y9 ry9 (show 0 ≤ y9 ∧ y9 < h10.2.2 26 2 by omega)) rfl ⟨_, _, rfl, (Ih10.atS rfl)⟩ rfl (fun x21 h22 p23 => ?_)
        obtain ⟨rfl, p23_0⟩ := p23
        refine to_castM (C := RX6) (T := TX6) (N := 8) (ci := 5) rfl (tin 2 235 (by decide +kernel) rfl) (dat dk_X11_keepFound 24 rfl) p23_0.1 ?_
        refine to_cV ca_c0_257 (dat dk_X11_keepFound 25 rfl) (ct_X11_insertFound l h10 Ih10 x21 p23_0) rfl ⟨_, _, rfl, (Ih10.atS rfl)⟩ rfl (fun h25 p26 => ?_)
        obtain ⟨Ih25, fh25⟩ := p26
        have f27 : Fr [57, 58, 123] h h25 := Fr.sub fh10 fh25 (sub_self _)
        have d28 := full.fr fh25 rfl Ih10 p23_0
        refine to_iinc (L' := [(0, .inr (.inr 1)), (1, .inr (.inl w)), (3, .inl (y9 + (-1)))]) (dat dk_X11_keepFound 26 rfl) rfl (by decide) rfl (to_goto (dat dk_X11_keepFound 27 rfl) rfl ?_)
        have e29 : h25.2.2 26 2 = x1 := ((Fr.get fh25 (by have := Ih10.1.1; omega) rfl).trans e15)
        exact ihn13 (n13 - 1) (by omega) (y9 + (-1)) h25 (by omega) Ih25 f27 (show -1 ≤ (y9 + (-1)) by omega) (show (y9 + (-1)) < h25.2.2 26 2 by omega) (show (y9 + (-1)) + 1 ≤ ((n13 - 1 : Nat) : Int) by omega)
  exact lp15_n13 ((x6 - 1) + 1).toNat (x6 - 1) h4 (by omega) I2 f3 (show -1 ≤ (x6 - 1) by omega) (show (x6 - 1) < h4.2.2 26 2 by omega) (by omega)
abbrev Q_X11_conversations (h : Hp) : Option V → Hp → Nat → Nat → Prop := RI (fun x H => Inv H ∧ Fr [27, 28, 29, 30, 31, 59, 124] h H)
set_option maxRecDepth 100000 in
theorem ct_X11_conversations (l : Launch) (h : Hp) (hI : Inv h)  : Ct l D_X11_conversations 5 112 [.inr (.inr 1)] h (Q_X11_conversations h) := by
  refine ct_of pn_X11_conversations (Nat.le_of_ble_eq_true rfl) ?_
  show To l E_X11_conversations (0, [(0, .inr (.inr 1))], [], h, 0, 0) _
  refine to_aload_n (dat dk_X11_conversations 0 rfl) rfl (to_getR 27 g_c0_49 (dat dk_X11_conversations 1 rfl) (hI.atS rfl) (hI.atE rfl) ?_)
  refine to_cV ca_c0_191 (dat dk_X11_conversations 2 rfl) (ct_X10_freshen l h hI ) rfl ⟨_, _, rfl, (hI.atS rfl)⟩ rfl (fun h2 p3 => ?_)
  obtain ⟨Ih2, fh2⟩ := p3
  have f4 : Fr [27, 28, 29, 30, 31, 59, 124] h h2 := Fr.sub (Fr.rf _ _) fh2 rfl
  refine to_aload_n (dat dk_X11_conversations 3 rfl) rfl (to_iconst (dat dk_X11_conversations 4 rfl) (to_putIw p_c0_194 (dat dk_X11_conversations 5 rfl) (Ih2.atS rfl) ?_))
  intro h7 wh7
  have I5 : Inv h7 := by rw [wh7]; exact Ih2.put (a := 1) (j := 14) (x := 0) (0) (60) rfl rfl (show (0 : Int) ≤ 0 ∧ 0 ≤ 60 by decide)
  have f6 : Fr [27, 28, 29, 30, 31, 59, 124] h h7 := by rw [wh7]; exact Fr.putF (a := 1) (j := 14) (x := 0) f4 rfl
  refine to_iconst (dat dk_X11_conversations 6 rfl) (to_istore_n (L' := [(0, .inr (.inr 1)), (1, .inl 0)]) (dat dk_X11_conversations 7 rfl) (by decide) rfl ?_)
  have lp14_n11 : ∀ (n11 : Nat) (y8 : Int) (h9 : Hp), (I32 y8) → (Inv h9) → (Fr [27, 28, 29, 30, 31, 59, 124] h h9) → (0 ≤ y8) → (61 - y8 ≤ (n11 : Int)) → To l E_X11_conversations (14, [(0, .inr (.inr 1)), (1, .inl y8)], [], h9, 0, 0) (Q_X11_conversations h) := by
    intro n11
    induction n11 using Nat.strongRecOn with
    | _ n11 ihn11 =>
    intro y8 h9 ry8 Ih9 fh9 c10 c12
    refine to_iload_n (dat dk_X11_conversations 8 rfl) rfl (to_aload_n (dat dk_X11_conversations 9 rfl) rfl ?_)
    obtain ⟨x13, ex13⟩ : ∃ y : Int, h9.2.2 1 13 = y := ⟨_, rfl⟩
    have rx13 := Ih9.atR (a := 1) (j := 13) rfl
    rw [ex13] at rx13
    refine to_getIv (y := x13) ex13 g_c0_188 (dat dk_X11_conversations 10 rfl) (Ih9.atS rfl) ?_
    refine to_ige 65 (dat dk_X11_conversations 11 rfl) rfl ry8 (by omega) (fun c14 => ?_) (fun c14 => ?_)
    · skip
      refine to_aload_n (dat dk_X11_conversations 35 rfl) rfl ?_
      obtain ⟨x15, ex15⟩ : ∃ y : Int, h9.2.2 1 14 = y := ⟨_, rfl⟩
      have rx15 := Ih9.atR (a := 1) (j := 14) rfl
      rw [ex15] at rx15
      refine to_getIv (y := x15) ex15 g_c0_194 (dat dk_X11_conversations 36 rfl) (Ih9.atS rfl) ?_
      exact to_iret rfl (dat dk_X11_conversations 37 rfl) (ri_mk (by omega) ⟨Ih9, fh9⟩)
    · skip
      refine to_iload_n (dat dk_X11_conversations 12 rfl) rfl (to_aload_n (dat dk_X11_conversations 13 rfl) rfl (to_getR 57 g_c0_71 (dat dk_X11_conversations 14 rfl) (Ih9.atS rfl) (Ih9.atE rfl) (to_alen (dat dk_X11_conversations 15 rfl) (Ih9.atS rfl) (by decide) ?_)))
      refine to_ige 65 (dat dk_X11_conversations 16 rfl) rfl ry8 (by decide) (fun c16 => ?_) (fun c16 => ?_)
      · skip
        refine to_aload_n (dat dk_X11_conversations 35 rfl) rfl ?_
        obtain ⟨x17, ex17⟩ : ∃ y : Int, h9.2.2 1 14 = y := ⟨_, rfl⟩
        have rx17 := Ih9.atR (a := 1) (j := 14) rfl
        rw [ex17] at rx17
        refine to_getIv (y := x17) ex17 g_c0_194 (dat dk_X11_conversations 36 rfl) (Ih9.atS rfl) ?_
        exact to_iret rfl (dat dk_X11_conversations 37 rfl) (ri_mk (by omega) ⟨Ih9, fh9⟩)
      · skip
        refine to_aload_n (dat dk_X11_conversations 17 rfl) rfl (to_aload_n (dat dk_X11_conversations 18 rfl) rfl (to_getR 57 g_c0_71 (dat dk_X11_conversations 19 rfl) (Ih9.atS rfl) (Ih9.atE rfl) (to_iload_n (dat dk_X11_conversations 20 rfl) rfl ?_)))
        obtain ⟨x18, ex18⟩ : ∃ y : Int, h9.2.2 57 (Int.toNat y8) = y := ⟨_, rfl⟩
        have rx18 := Ih9.atR (a := 57) (j := Int.toNat y8) rfl
        rw [ex18] at rx18
        refine to_ialdv ex18 (dat dk_X11_conversations 21 rfl) (Ih9.atS rfl) rfl (by decide) (by omega) ?_
        obtain ⟨x19, ex19⟩ : ∃ y : Int, h9.2.2 26 2 = y := ⟨_, rfl⟩
        have rx19 := Ih9.atR (a := 26) (j := 2) rfl
        rw [ex19] at rx19
        refine to_cI ca_c0_119 (dat dk_X11_conversations 22 rfl) (ct_X11_placeOf l h9 Ih9 x18 (by omega)) rfl ⟨_, _, rfl, (Ih9.atS rfl)⟩ rfl (fun x20 h21 rx20 p22 => ?_)
        obtain ⟨rfl, p22_0⟩ := p22
        refine to_istore_n (L' := [(0, .inr (.inr 1)), (1, .inl y8), (2, .inl x20)]) (dat dk_X11_conversations 23 rfl) (by decide) rfl (to_iload_n (dat dk_X11_conversations 24 rfl) rfl (to_iconst (dat dk_X11_conversations 25 rfl) ?_))
        refine to_ieq 59 (dat dk_X11_conversations 26 rfl) rfl rx20 (by decide) (fun c23 => ?_) (fun c23 => ?_)
        · skip
          refine to_iinc (L' := [(0, .inr (.inr 1)), (1, .inl (y8 + 1)), (2, .inl x20)]) (dat dk_X11_conversations 33 rfl) rfl (by decide) rfl (to_goto (dat dk_X11_conversations 34 rfl) rfl ?_)
          refine to_pick [0, 1] rfl ?_
          exact ihn11 (n11 - 1) (by omega) (y8 + 1) h9 (by omega) Ih9 fh9 (show 0 ≤ (y8 + 1) by omega) (show 61 - (y8 + 1) ≤ ((n11 - 1 : Nat) : Int) by omega)
        · skip
          refine to_aload_n (dat dk_X11_conversations 27 rfl) rfl (to_aload_n (dat dk_X11_conversations 28 rfl) rfl (to_getR 27 g_c0_49 (dat dk_X11_conversations 29 rfl) (Ih9.atS rfl) (Ih9.atE rfl) (to_iload_n (dat dk_X11_conversations 30 rfl) rfl ?_)))
          refine to_cI ca_c0_197 (dat dk_X11_conversations 31 rfl) (ct_X10_threadOf l h9 Ih9 x20 rx20) rfl ⟨_, _, rfl, (Ih9.atS rfl)⟩ rfl (fun x24 h25 rx24 p26 => ?_)
          subst p26
          refine to_cV ca_c0_200 (dat dk_X11_conversations 32 rfl) (ct_X11_tellThread l h9 Ih9 x24 rx24) rfl ⟨_, _, rfl, (Ih9.atS rfl)⟩ rfl (fun h28 p29 => ?_)
          obtain ⟨Ih28, fh28⟩ := p29
          have f30 : Fr [27, 28, 29, 30, 31, 59, 124] h h28 := Fr.sub fh9 fh28 rfl
          refine to_iinc (L' := [(0, .inr (.inr 1)), (1, .inl (y8 + 1)), (2, .inl x20)]) (dat dk_X11_conversations 33 rfl) rfl (by decide) rfl (to_goto (dat dk_X11_conversations 34 rfl) rfl ?_)
          refine to_pick [0, 1] rfl ?_
          exact ihn11 (n11 - 1) (by omega) (y8 + 1) h28 (by omega) Ih28 f30 (show 0 ≤ (y8 + 1) by omega) (show 61 - (y8 + 1) ≤ ((n11 - 1 : Nat) : Int) by omega)
  exact lp14_n11 (61 - (0 : Int)).toNat 0 h7 (by decide) I5 f6 (show 0 ≤ (0 : Int) by omega) (by omega)
abbrev Q_X11_differentWords (h : Hp) : Option V → Hp → Nat → Nat → Prop := RI (fun x H => Inv H ∧ Fr [148, 12, 366] h H)
set_option maxRecDepth 100000 in
theorem ct_X11_differentWords (l : Launch) (h : Hp) (hI : Inv h)  : Ct l D_X11_differentWords 3 64 [.inr (.inr 1)] h (Q_X11_differentWords h) := by
  refine ct_of pn_X11_differentWords (Nat.le_of_ble_eq_true rfl) ?_
  show To l E_X11_differentWords (0, [(0, .inr (.inr 1))], [], h, 0, 0) _
  refine to_iconst (dat dk_X11_differentWords 0 rfl) (to_istore_n (L' := [(0, .inr (.inr 1)), (1, .inl 0)]) (dat dk_X11_differentWords 1 rfl) (by decide) rfl (to_aload_n (dat dk_X11_differentWords 2 rfl) rfl (to_getR 8 g_c0_27 (dat dk_X11_differentWords 3 rfl) (hI.atS rfl) (hI.atE rfl) ?_)))
  refine to_cV ca_c0_261 (dat dk_X11_differentWords 4 rfl) (ct_X0_startRound_v8n l h hI ) rfl ⟨_, _, rfl, (hI.atS rfl)⟩ rfl (fun h2 p3 => ?_)
  obtain ⟨Ih2, fh2⟩ := p3
  have f4 : Fr [148, 12, 366] h h2 := Fr.sub (Fr.rf _ _) fh2 rfl
  refine to_iconst (dat dk_X11_differentWords 5 rfl) (to_istore_n (L' := [(0, .inr (.inr 1)), (1, .inl 0), (2, .inl 0)]) (dat dk_X11_differentWords 6 rfl) (by decide) rfl ?_)
  have lp11_n9 : ∀ (n9 : Nat) (y5 : Int) (y6 : Int) (h7 : Hp), (I32 y5) → (I32 y6) → (Inv h7) → (Fr [148, 12, 366] h h7) → (0 ≤ y6) → (61 - y6 ≤ (n9 : Int)) → To l E_X11_differentWords (11, [(0, .inr (.inr 1)), (1, .inl y5), (2, .inl y6)], [], h7, 0, 0) (Q_X11_differentWords h) := by
    intro n9
    induction n9 using Nat.strongRecOn with
    | _ n9 ihn9 =>
    intro y5 y6 h7 ry5 ry6 Ih7 fh7 c8 c10
    refine to_iload_n (dat dk_X11_differentWords 7 rfl) rfl (to_aload_n (dat dk_X11_differentWords 8 rfl) rfl (to_getR 26 g_c0_40 (dat dk_X11_differentWords 9 rfl) (Ih7.atS rfl) (Ih7.atE rfl) ?_))
    obtain ⟨x11, ex11⟩ : ∃ y : Int, h7.2.2 26 2 = y := ⟨_, rfl⟩
    have rx11 := Ih7.atR (a := 26) (j := 2) rfl
    rw [ex11] at rx11
    refine to_cI ca_c0_93 (dat dk_X11_differentWords 10 rfl) (ct_Jx4a65c_size_8abf5 l h7 Ih7 ) rfl ⟨_, _, rfl, (Ih7.atS rfl)⟩ rfl (fun x12 h13 rx12 p14 => ?_)
    obtain ⟨rfl, p14_0, p14_1⟩ := p14
    refine to_ige 81 (dat dk_X11_differentWords 11 rfl) rfl ry6 rx12 (fun c15 => ?_) (fun c15 => ?_)
    · skip
      refine to_iload_n (dat dk_X11_differentWords 42 rfl) rfl ?_
      exact to_iret rfl (dat dk_X11_differentWords 43 rfl) (ri_mk ry5 ⟨Ih7, fh7⟩)
    · skip
      refine to_aload_n (dat dk_X11_differentWords 12 rfl) rfl (to_getR 26 g_c0_40 (dat dk_X11_differentWords 13 rfl) (Ih7.atS rfl) (Ih7.atE rfl) (to_iload_n (dat dk_X11_differentWords 14 rfl) rfl ?_))
      refine to_cR ca_c0_144 (dat dk_X11_differentWords 15 rfl) (ct_Jx4a65c_get_915e3 l h7 Ih7 y6 ry6 (show 0 ≤ y6 ∧ y6 < h7.2.2 26 2 by omega)) rfl ⟨_, _, rfl, (Ih7.atS rfl)⟩ rfl (fun x16 h17 p18 => ?_)
      obtain ⟨rfl, p18_0⟩ := p18
      refine to_castM (C := RX6) (T := TX6) (N := 8) (ci := 5) rfl (tin 2 235 (by decide +kernel) rfl) (dat dk_X11_differentWords 16 rfl) p18_0.1 ?_
      obtain ⟨q19, nq19, eq19, pq19, tq19⟩ := full.r1 Ih7 p18_0
      have lq19 := Ih7.lenM tq19
      refine to_getR q19 g_c0_264 (dat dk_X11_differentWords 17 rfl) p18_0.1 eq19 (to_astore_n (L' := [(0, .inr (.inr 1)), (1, .inl y5), (2, .inl y6), (3, .inr (.inr q19))]) (dat dk_X11_differentWords 18 rfl) (by omega) (by decide) rfl (to_iconst (dat dk_X11_differentWords 19 rfl) (to_istore (L' := [(0, .inr (.inr 1)), (1, .inl y5), (2, .inl y6), (3, .inr (.inr q19)), (4, .inl 0)]) (dat dk_X11_differentWords 20 rfl) (by decide) rfl ?_)))
      have lp40_n25 : ∀ (n25 : Nat) (y20 : Int) (y21 : Int) (h22 : Hp), (I32 y20) → (I32 y21) → (Inv h22) → (Fr [148, 12, 366] h h22) → (h22.2.1 q19 = some (.inl (0, nq19))) → (0 ≤ y21) → (67108865 - y21 ≤ (n25 : Int)) → To l E_X11_differentWords (40, [(0, .inr (.inr 1)), (1, .inl y20), (2, .inl y6), (3, .inr (.inr q19)), (4, .inl y21)], [], h22, 0, 0) (Q_X11_differentWords h) := by
        intro n25
        induction n25 using Nat.strongRecOn with
        | _ n25 ihn25 =>
        intro y20 y21 h22 ry20 ry21 Ih22 fh22 d23 c24 c26
        refine to_iload (dat dk_X11_differentWords 21 rfl) rfl (to_aload_np (dat dk_X11_differentWords 22 rfl) (by omega) rfl (to_alen (dat dk_X11_differentWords 23 rfl) d23 (by decide) ?_))
        refine to_ige 75 (dat dk_X11_differentWords 24 rfl) rfl ry21 (by omega) (fun c27 => ?_) (fun c27 => ?_)
        · skip
          refine to_iinc (L' := [(0, .inr (.inr 1)), (1, .inl y20), (2, .inl (y6 + 1)), (3, .inr (.inr q19)), (4, .inl y21)]) (dat dk_X11_differentWords 40 rfl) rfl (by decide) rfl (to_goto (dat dk_X11_differentWords 41 rfl) rfl ?_)
          refine to_pick [0, 1, 2] rfl ?_
          exact ihn9 (n9 - 1) (by omega) y20 (y6 + 1) h22 ry20 (by omega) Ih22 fh22 (show 0 ≤ (y6 + 1) by omega) (show 61 - (y6 + 1) ≤ ((n9 - 1 : Nat) : Int) by omega)
        · skip
          refine to_iload_n (dat dk_X11_differentWords 25 rfl) rfl (to_aload_n (dat dk_X11_differentWords 26 rfl) rfl (to_getR 8 g_c0_27 (dat dk_X11_differentWords 27 rfl) (Ih22.atS rfl) (Ih22.atE rfl) (to_aload_np (dat dk_X11_differentWords 28 rfl) (by omega) rfl (to_iload (dat dk_X11_differentWords 29 rfl) rfl ?_))))
          obtain ⟨x28, ex28⟩ : ∃ y : Int, h22.2.2 q19 (Int.toNat y21) = y := ⟨_, rfl⟩
          have rx28 := Ih22.con0 d23 rfl (Int.toNat y21)
          rw [ex28] at rx28
          refine to_ialdv ex28 (dat dk_X11_differentWords 30 rfl) d23 rfl (Ih22.lenN d23) (by omega) ?_
          refine to_cI ca_c0_266 (dat dk_X11_differentWords 31 rfl) (ct_X0_isNewInRound_v8 l h22 Ih22 x28 rx28) rfl ⟨_, _, rfl, (Ih22.atS rfl)⟩ rfl (fun x29 h30 rx29 p31 => ?_)
          obtain ⟨Ih30, fh30, zx29⟩ := p31
          have f32 : Fr [148, 12, 366] h h30 := Fr.sub fh22 fh30 rfl
          have d33 := (fh30.1.2 _ (Ih22.ltN d23)).trans d23
          refine to_ifeq 66 (dat dk_X11_differentWords 32 rfl) rfl rx29 (fun c34 => ?_) (fun c34 => ?_)
          · skip
            refine to_iconst (dat dk_X11_differentWords 35 rfl) ?_
            refine to_iaddA (dat dk_X11_differentWords 36 rfl) (fun x35 rx35 => ?_)
            refine to_istore_n (L' := [(0, .inr (.inr 1)), (1, .inl x35), (2, .inl y6), (3, .inr (.inr q19)), (4, .inl y21)]) (dat dk_X11_differentWords 37 rfl) (by decide) rfl (to_iinc (L' := [(0, .inr (.inr 1)), (1, .inl x35), (2, .inl y6), (3, .inr (.inr q19)), (4, .inl (y21 + 1))]) (dat dk_X11_differentWords 38 rfl) rfl (by decide) rfl (to_goto (dat dk_X11_differentWords 39 rfl) rfl ?_))
            exact ihn25 (n25 - 1) (by omega) x35 (y21 + 1) h30 rx35 (by omega) Ih30 f32 d33 (show 0 ≤ (y21 + 1) by omega) (show 67108865 - (y21 + 1) ≤ ((n25 - 1 : Nat) : Int) by omega)
          · skip
            refine to_iconst (dat dk_X11_differentWords 33 rfl) (to_goto (dat dk_X11_differentWords 34 rfl) rfl ?_)
            refine to_iaddA (dat dk_X11_differentWords 36 rfl) (fun x36 rx36 => ?_)
            refine to_istore_n (L' := [(0, .inr (.inr 1)), (1, .inl x36), (2, .inl y6), (3, .inr (.inr q19)), (4, .inl y21)]) (dat dk_X11_differentWords 37 rfl) (by decide) rfl (to_iinc (L' := [(0, .inr (.inr 1)), (1, .inl x36), (2, .inl y6), (3, .inr (.inr q19)), (4, .inl (y21 + 1))]) (dat dk_X11_differentWords 38 rfl) rfl (by decide) rfl (to_goto (dat dk_X11_differentWords 39 rfl) rfl ?_))
            exact ihn25 (n25 - 1) (by omega) x36 (y21 + 1) h30 rx36 (by omega) Ih30 f32 d33 (show 0 ≤ (y21 + 1) by omega) (show 67108865 - (y21 + 1) ≤ ((n25 - 1 : Nat) : Int) by omega)
      exact lp40_n25 (67108865 - (0 : Int)).toNat y5 0 h7 ry5 (by decide) Ih7 fh7 tq19 (show 0 ≤ (0 : Int) by omega) (by omega)
  exact lp11_n9 (61 - (0 : Int)).toNat 0 0 h2 (by decide) (by decide) Ih2 f4 (show 0 ≤ (0 : Int) by omega) (by omega)
abbrev Q_X11_differentTags (h : Hp) : Option V → Hp → Nat → Nat → Prop := RI (fun x H => Inv H ∧ Fr [160, 24, 368] h H)
set_option maxRecDepth 100000 in
theorem ct_X11_differentTags (l : Launch) (h : Hp) (hI : Inv h)  : Ct l D_X11_differentTags 3 64 [.inr (.inr 1)] h (Q_X11_differentTags h) := by
  refine ct_of pn_X11_differentTags (Nat.le_of_ble_eq_true rfl) ?_
  show To l E_X11_differentTags (0, [(0, .inr (.inr 1))], [], h, 0, 0) _
  refine to_iconst (dat dk_X11_differentTags 0 rfl) (to_istore_n (L' := [(0, .inr (.inr 1)), (1, .inl 0)]) (dat dk_X11_differentTags 1 rfl) (by decide) rfl (to_aload_n (dat dk_X11_differentTags 2 rfl) rfl (to_getR 20 g_c0_34 (dat dk_X11_differentTags 3 rfl) (hI.atS rfl) (hI.atE rfl) ?_)))
  refine to_cV ca_c0_261 (dat dk_X11_differentTags 4 rfl) (ct_X0_startRound_v20n l h hI ) rfl ⟨_, _, rfl, (hI.atS rfl)⟩ rfl (fun h2 p3 => ?_)
  obtain ⟨Ih2, fh2⟩ := p3
  have f4 : Fr [160, 24, 368] h h2 := Fr.sub (Fr.rf _ _) fh2 rfl
  refine to_iconst (dat dk_X11_differentTags 5 rfl) (to_istore_n (L' := [(0, .inr (.inr 1)), (1, .inl 0), (2, .inl 0)]) (dat dk_X11_differentTags 6 rfl) (by decide) rfl ?_)
  have lp11_n9 : ∀ (n9 : Nat) (y5 : Int) (y6 : Int) (h7 : Hp), (I32 y5) → (I32 y6) → (Inv h7) → (Fr [160, 24, 368] h h7) → (0 ≤ y6) → (61 - y6 ≤ (n9 : Int)) → To l E_X11_differentTags (11, [(0, .inr (.inr 1)), (1, .inl y5), (2, .inl y6)], [], h7, 0, 0) (Q_X11_differentTags h) := by
    intro n9
    induction n9 using Nat.strongRecOn with
    | _ n9 ihn9 =>
    intro y5 y6 h7 ry5 ry6 Ih7 fh7 c8 c10
    refine to_iload_n (dat dk_X11_differentTags 7 rfl) rfl (to_aload_n (dat dk_X11_differentTags 8 rfl) rfl (to_getR 26 g_c0_40 (dat dk_X11_differentTags 9 rfl) (Ih7.atS rfl) (Ih7.atE rfl) ?_))
    obtain ⟨x11, ex11⟩ : ∃ y : Int, h7.2.2 26 2 = y := ⟨_, rfl⟩
    have rx11 := Ih7.atR (a := 26) (j := 2) rfl
    rw [ex11] at rx11
    refine to_cI ca_c0_93 (dat dk_X11_differentTags 10 rfl) (ct_Jx4a65c_size_8abf5 l h7 Ih7 ) rfl ⟨_, _, rfl, (Ih7.atS rfl)⟩ rfl (fun x12 h13 rx12 p14 => ?_)
    obtain ⟨rfl, p14_0, p14_1⟩ := p14
    refine to_ige 82 (dat dk_X11_differentTags 11 rfl) rfl ry6 rx12 (fun c15 => ?_) (fun c15 => ?_)
    · skip
      refine to_iload_n (dat dk_X11_differentTags 41 rfl) rfl ?_
      exact to_iret rfl (dat dk_X11_differentTags 42 rfl) (ri_mk ry5 ⟨Ih7, fh7⟩)
    · skip
      refine to_aload_n (dat dk_X11_differentTags 12 rfl) rfl (to_getR 26 g_c0_40 (dat dk_X11_differentTags 13 rfl) (Ih7.atS rfl) (Ih7.atE rfl) (to_iload_n (dat dk_X11_differentTags 14 rfl) rfl ?_))
      refine to_cR ca_c0_144 (dat dk_X11_differentTags 15 rfl) (ct_Jx4a65c_get_915e3 l h7 Ih7 y6 ry6 (show 0 ≤ y6 ∧ y6 < h7.2.2 26 2 by omega)) rfl ⟨_, _, rfl, (Ih7.atS rfl)⟩ rfl (fun x16 h17 p18 => ?_)
      obtain ⟨rfl, p18_0⟩ := p18
      refine to_castM (C := RX6) (T := TX6) (N := 8) (ci := 5) rfl (tin 2 235 (by decide +kernel) rfl) (dat dk_X11_differentTags 16 rfl) p18_0.1 (to_astore_n (L' := [(0, .inr (.inr 1)), (1, .inl y5), (2, .inl y6), (3, .inr (.inr x16))]) (dat dk_X11_differentTags 17 rfl) (by have := full.big Ih7 p18_0; omega) (by decide) rfl (to_iconst (dat dk_X11_differentTags 18 rfl) (to_istore (L' := [(0, .inr (.inr 1)), (1, .inl y5), (2, .inl y6), (3, .inr (.inr x16)), (4, .inl 0)]) (dat dk_X11_differentTags 19 rfl) (by decide) rfl ?_)))
      have lp37_n24 : ∀ (n24 : Nat) (y19 : Int) (y20 : Int) (h21 : Hp), (I32 y19) → (I32 y20) → (Inv h21) → (Fr [160, 24, 368] h h21) → (full h21 x16) → (0 ≤ y20) → (9 - y20 ≤ (n24 : Int)) → To l E_X11_differentTags (37, [(0, .inr (.inr 1)), (1, .inl y19), (2, .inl y6), (3, .inr (.inr x16)), (4, .inl y20)], [], h21, 0, 0) (Q_X11_differentTags h) := by
        intro n24
        induction n24 using Nat.strongRecOn with
        | _ n24 ihn24 =>
        intro y19 y20 h21 ry19 ry20 Ih21 fh21 d22 c23 c25
        refine to_iload (dat dk_X11_differentTags 20 rfl) rfl (to_aload_np (dat dk_X11_differentTags 21 rfl) (by have := full.big Ih21 d22; omega) rfl ?_)
        obtain ⟨x26, ex26⟩ : ∃ y : Int, h21.2.2 x16 7 = y := ⟨_, rfl⟩
        have rx26 := full.f7 Ih21 d22
        rw [ex26] at rx26
        refine to_getIv (y := x26) ex26 g_c0_160 (dat dk_X11_differentTags 22 rfl) d22.1 ?_
        refine to_ige 76 (dat dk_X11_differentTags 23 rfl) rfl ry20 (by omega) (fun c27 => ?_) (fun c27 => ?_)
        · skip
          refine to_iinc (L' := [(0, .inr (.inr 1)), (1, .inl y19), (2, .inl (y6 + 1)), (3, .inr (.inr x16)), (4, .inl y20)]) (dat dk_X11_differentTags 39 rfl) rfl (by decide) rfl (to_goto (dat dk_X11_differentTags 40 rfl) rfl ?_)
          refine to_pick [0, 1, 2] rfl ?_
          exact ihn9 (n9 - 1) (by omega) y19 (y6 + 1) h21 ry19 (by omega) Ih21 fh21 (show 0 ≤ (y6 + 1) by omega) (show 61 - (y6 + 1) ≤ ((n9 - 1 : Nat) : Int) by omega)
        · skip
          refine to_iload_n (dat dk_X11_differentTags 24 rfl) rfl (to_aload_n (dat dk_X11_differentTags 25 rfl) rfl (to_getR 20 g_c0_34 (dat dk_X11_differentTags 26 rfl) (Ih21.atS rfl) (Ih21.atE rfl) (to_aload_np (dat dk_X11_differentTags 27 rfl) (by have := full.big Ih21 d22; omega) rfl (to_iload (dat dk_X11_differentTags 28 rfl) rfl ?_))))
          refine to_cI ca_c0_231 (dat dk_X11_differentTags 29 rfl) (ct_X6_tagAt l h21 Ih21 x16 d22 y20 ry20) rfl ⟨_, _, rfl, d22.1⟩ rfl (fun x28 h29 rx28 p30 => ?_)
          subst p30
          refine to_cI ca_c0_266 (dat dk_X11_differentTags 30 rfl) (ct_X0_isNewInRound_v20 l h21 Ih21 x28 rx28) rfl ⟨_, _, rfl, (Ih21.atS rfl)⟩ rfl (fun x31 h32 rx31 p33 => ?_)
          obtain ⟨Ih32, fh32, zx31⟩ := p33
          have f34 : Fr [160, 24, 368] h h32 := Fr.sub fh21 fh32 rfl
          have d35 := full.fr fh32 rfl Ih21 d22
          refine to_ifeq 67 (dat dk_X11_differentTags 31 rfl) rfl rx31 (fun c36 => ?_) (fun c36 => ?_)
          · skip
            refine to_iconst (dat dk_X11_differentTags 34 rfl) ?_
            refine to_iaddA (dat dk_X11_differentTags 35 rfl) (fun x37 rx37 => ?_)
            refine to_istore_n (L' := [(0, .inr (.inr 1)), (1, .inl x37), (2, .inl y6), (3, .inr (.inr x16)), (4, .inl y20)]) (dat dk_X11_differentTags 36 rfl) (by decide) rfl (to_iinc (L' := [(0, .inr (.inr 1)), (1, .inl x37), (2, .inl y6), (3, .inr (.inr x16)), (4, .inl (y20 + 1))]) (dat dk_X11_differentTags 37 rfl) rfl (by decide) rfl (to_goto (dat dk_X11_differentTags 38 rfl) rfl ?_))
            exact ihn24 (n24 - 1) (by omega) x37 (y20 + 1) h32 rx37 (by omega) Ih32 f34 d35 (show 0 ≤ (y20 + 1) by omega) (show 9 - (y20 + 1) ≤ ((n24 - 1 : Nat) : Int) by omega)
          · skip
            refine to_iconst (dat dk_X11_differentTags 32 rfl) (to_goto (dat dk_X11_differentTags 33 rfl) rfl ?_)
            refine to_iaddA (dat dk_X11_differentTags 35 rfl) (fun x38 rx38 => ?_)
            refine to_istore_n (L' := [(0, .inr (.inr 1)), (1, .inl x38), (2, .inl y6), (3, .inr (.inr x16)), (4, .inl y20)]) (dat dk_X11_differentTags 36 rfl) (by decide) rfl (to_iinc (L' := [(0, .inr (.inr 1)), (1, .inl x38), (2, .inl y6), (3, .inr (.inr x16)), (4, .inl (y20 + 1))]) (dat dk_X11_differentTags 37 rfl) rfl (by decide) rfl (to_goto (dat dk_X11_differentTags 38 rfl) rfl ?_))
            exact ihn24 (n24 - 1) (by omega) x38 (y20 + 1) h32 rx38 (by omega) Ih32 f34 d35 (show 0 ≤ (y20 + 1) by omega) (show 9 - (y20 + 1) ≤ ((n24 - 1 : Nat) : Int) by omega)
      exact lp37_n24 (9 - (0 : Int)).toNat y5 0 h7 ry5 (by decide) Ih7 fh7 p18_0 (show 0 ≤ (0 : Int) by omega) (by omega)
  exact lp11_n9 (61 - (0 : Int)).toNat 0 0 h2 (by decide) (by decide) Ih2 f4 (show 0 ≤ (0 : Int) by omega) (by omega)
abbrev Q_X11_count (h : Hp) (n : Int) : Option V → Hp → Nat → Nat → Prop := RI (fun x H => Inv H ∧ Fr [148, 160, 12, 24, 366, 368] h H ∧ (H.2.2 4 1 = h.2.2 4 1))
set_option maxRecDepth 100000 in
theorem ct_X11_count (l : Launch) (h : Hp) (hI : Inv h) (n : Int) (hn : I32 n) : Ct l D_X11_count 4 88 [.inr (.inr 1), .inl n] h (Q_X11_count h n) := by
  refine ct_of pn_X11_count (Nat.le_of_ble_eq_true rfl) ?_
  show To l E_X11_count (0, [(0, .inr (.inr 1)), (1, .inl n)], [], h, 0, 0) _
  obtain ⟨x1, ex1⟩ : ∃ y : Int, h.2.2 4 1 = y := ⟨_, rfl⟩
  have rx1 := hI.atR (a := 4) (j := 1) rfl
  rw [ex1] at rx1
  refine to_iload_n (dat dk_X11_count 0 rfl) rfl ?_
  refine to_table (d := 76) (ts := [40, 48, 53, 58, 63, 68]) (dat dk_X11_count 1 rfl) rfl rfl rfl hn (fun c2 => ?_) ⟨fun c2 => ?_, fun c2 => ?_, fun c2 => ?_, fun c2 => ?_, fun c2 => ?_, fun c2 => ?_, trivial⟩
  · skip
    refine to_iconst (dat dk_X11_count 22 rfl) ?_
    exact to_iret rfl (dat dk_X11_count 23 rfl) (ri_mk (by decide) ⟨hI, (Fr.rf _ _), (show h.2.2 4 1 = h.2.2 4 1 by omega)⟩)
  · skip
    refine to_aload_n (dat dk_X11_count 2 rfl) rfl (to_getR 26 g_c0_40 (dat dk_X11_count 3 rfl) (hI.atS rfl) (hI.atE rfl) ?_)
    obtain ⟨x3, ex3⟩ : ∃ y : Int, h.2.2 26 2 = y := ⟨_, rfl⟩
    have rx3 := hI.atR (a := 26) (j := 2) rfl
    rw [ex3] at rx3
    refine to_cI ca_c0_93 (dat dk_X11_count 4 rfl) (ct_Jx4a65c_size_8abf5 l h hI ) rfl ⟨_, _, rfl, (hI.atS rfl)⟩ rfl (fun x4 h5 rx4 p6 => ?_)
    obtain ⟨rfl, p6_0, p6_1⟩ := p6
    exact to_iret rfl (dat dk_X11_count 5 rfl) (ri_mk rx4 ⟨hI, (Fr.rf _ _), (show h.2.2 4 1 = h.2.2 4 1 by omega)⟩)
  · skip
    refine to_aload_n (dat dk_X11_count 6 rfl) rfl ?_
    obtain ⟨x7, ex7⟩ : ∃ y : Int, h.2.2 1 15 = y := ⟨_, rfl⟩
    have rx7 := hI.atR (a := 1) (j := 15) rfl
    rw [ex7] at rx7
    refine to_getIv (y := x7) ex7 g_c0_94 (dat dk_X11_count 7 rfl) (hI.atS rfl) ?_
    exact to_iret rfl (dat dk_X11_count 8 rfl) (ri_mk (by omega) ⟨hI, (Fr.rf _ _), (show h.2.2 4 1 = h.2.2 4 1 by omega)⟩)
  · skip
    refine to_aload_n (dat dk_X11_count 9 rfl) rfl ?_
    obtain ⟨x8, ex8⟩ : ∃ y : Int, h.2.2 1 13 = y := ⟨_, rfl⟩
    have rx8 := hI.atR (a := 1) (j := 13) rfl
    rw [ex8] at rx8
    refine to_getIv (y := x8) ex8 g_c0_188 (dat dk_X11_count 10 rfl) (hI.atS rfl) ?_
    exact to_iret rfl (dat dk_X11_count 11 rfl) (ri_mk (by omega) ⟨hI, (Fr.rf _ _), (show h.2.2 4 1 = h.2.2 4 1 by omega)⟩)
  · skip
    refine to_aload_n (dat dk_X11_count 12 rfl) rfl ?_
    refine to_cI ca_c0_237 (dat dk_X11_count 13 rfl) (ct_X11_differentWords l h hI ) rfl ⟨_, _, rfl, (hI.atS rfl)⟩ rfl (fun x9 h10 rx9 p11 => ?_)
    obtain ⟨Ih10, fh10⟩ := p11
    have f12 : Fr [148, 160, 12, 24, 366, 368] h h10 := Fr.sub (Fr.rf _ _) fh10 rfl
    have e13 : h10.2.2 4 1 = x1 := ((Fr.get fh10 (by have := hI.1.1; omega) rfl).trans ex1)
    exact to_iret rfl (dat dk_X11_count 14 rfl) (ri_mk rx9 ⟨Ih10, f12, (show h10.2.2 4 1 = h.2.2 4 1 by omega)⟩)
  · skip
    refine to_aload_n (dat dk_X11_count 15 rfl) rfl ?_
    refine to_cI ca_c0_240 (dat dk_X11_count 16 rfl) (ct_X11_differentTags l h hI ) rfl ⟨_, _, rfl, (hI.atS rfl)⟩ rfl (fun x14 h15 rx14 p16 => ?_)
    obtain ⟨Ih15, fh15⟩ := p16
    have f17 : Fr [148, 160, 12, 24, 366, 368] h h15 := Fr.sub (Fr.rf _ _) fh15 rfl
    have e18 : h15.2.2 4 1 = x1 := ((Fr.get fh15 (by have := hI.1.1; omega) rfl).trans ex1)
    exact to_iret rfl (dat dk_X11_count 17 rfl) (ri_mk rx14 ⟨Ih15, f17, (show h15.2.2 4 1 = h.2.2 4 1 by omega)⟩)
  · skip
    refine to_aload_n (dat dk_X11_count 18 rfl) rfl (to_getR 4 g_c0_18 (dat dk_X11_count 19 rfl) (hI.atS rfl) (hI.atE rfl) ?_)
    refine to_cI ca_c0_85 (dat dk_X11_count 20 rfl) (ct_X1_size l h hI 4 rfl) rfl ⟨_, _, rfl, (hI.atS rfl)⟩ rfl (fun x19 h20 rx19 p21 => ?_)
    obtain ⟨rfl, p21_0⟩ := p21
    exact to_iret rfl (dat dk_X11_count 21 rfl) (ri_mk rx19 ⟨hI, (Fr.rf _ _), (show h.2.2 4 1 = h.2.2 4 1 by omega)⟩)
abbrev Q_X11_about (h : Hp) (n : Int) (q : Int) : Option V → Hp → Nat → Nat → Prop := RI (fun x H => Inv H ∧ Fr [27, 28, 29, 30, 31] h H ∧ (H.2.2 4 1 = h.2.2 4 1))
set_option maxRecDepth 100000 in
theorem ct_X11_about (l : Launch) (h : Hp) (hI : Inv h) (n : Int) (hn : I32 n) (q : Int) (hq : I32 q) : Ct l D_X11_about 5 112 [.inr (.inr 1), .inl n, .inl q] h (Q_X11_about h n q) := by
  refine ct_of pn_X11_about (Nat.le_of_ble_eq_true rfl) ?_
  show To l E_X11_about (0, [(0, .inr (.inr 1)), (1, .inl n), (2, .inl q)], [], h, 0, 0) _
  obtain ⟨x1, ex1⟩ : ∃ y : Int, h.2.2 4 1 = y := ⟨_, rfl⟩
  have rx1 := hI.atR (a := 4) (j := 1) rfl
  rw [ex1] at rx1
  obtain ⟨x2, ex2⟩ : ∃ y : Int, h.2.2 26 2 = y := ⟨_, rfl⟩
  have rx2 := hI.atR (a := 26) (j := 2) rfl
  rw [ex2] at rx2
  refine to_aload_n (dat dk_X11_about 0 rfl) rfl (to_iload_n (dat dk_X11_about 1 rfl) rfl ?_)
  refine to_cI ca_c0_119 (dat dk_X11_about 2 rfl) (ct_X11_placeOf l h hI n hn) rfl ⟨_, _, rfl, (hI.atS rfl)⟩ rfl (fun x3 h4 rx3 p5 => ?_)
  obtain ⟨rfl, p5_0⟩ := p5
  refine to_istore_n (L' := [(0, .inr (.inr 1)), (1, .inl n), (2, .inl q), (3, .inl x3)]) (dat dk_X11_about 3 rfl) (by decide) rfl ?_
  have jn39_n8 : ∀ (h6 : Hp), (Inv h6) → (Fr [27, 28, 29, 30, 31] h h6) → (0 ≤ x3 ∧ x3 < h6.2.2 26 2) → To l E_X11_about (39, [(0, .inr (.inr 1)), (1, .inl n), (2, .inl q), (3, .inl x3)], [], h6, 0, 0) (Q_X11_about h n q) := by
    intro h6 Ih6 fh6 c7
    have e9 : h6.2.2 26 2 = x2 := ((Fr.get fh6 (by have := hI.1.1; omega) rfl).trans ex2)
    refine to_aload_n (dat dk_X11_about 21 rfl) rfl (to_getR 26 g_c0_40 (dat dk_X11_about 22 rfl) (Ih6.atS rfl) (Ih6.atE rfl) (to_iload_n (dat dk_X11_about 23 rfl) rfl ?_))
    refine to_cR ca_c0_144 (dat dk_X11_about 24 rfl) (ct_Jx4a65c_get_915e3 l h6 Ih6 x3 rx3 (show 0 ≤ x3 ∧ x3 < h6.2.2 26 2 by omega)) rfl ⟨_, _, rfl, (Ih6.atS rfl)⟩ rfl (fun x10 h11 p12 => ?_)
    obtain ⟨rfl, p12_0⟩ := p12
    refine to_castM (C := RX6) (T := TX6) (N := 8) (ci := 5) rfl (tin 2 235 (by decide +kernel) rfl) (dat dk_X11_about 25 rfl) p12_0.1 (to_astore (L' := [(0, .inr (.inr 1)), (1, .inl n), (2, .inl q), (3, .inl x3), (4, .inr (.inr x10))]) (dat dk_X11_about 26 rfl) (by have := full.big Ih6 p12_0; omega) (by decide) rfl (to_iload_n (dat dk_X11_about 27 rfl) rfl ?_))
    refine to_table (d := 199) (ts := [112, 121, 130, 139, 145, 151, 158, 165, 172, 179, 192]) (dat dk_X11_about 28 rfl) rfl rfl rfl hq (fun c13 => ?_) ⟨fun c13 => ?_, fun c13 => ?_, fun c13 => ?_, fun c13 => ?_, fun c13 => ?_, fun c13 => ?_, fun c13 => ?_, fun c13 => ?_, fun c13 => ?_, fun c13 => ?_, fun c13 => ?_, trivial⟩
    · skip
      refine to_iconst (dat dk_X11_about 76 rfl) ?_
      have e14 : h6.2.2 4 1 = x1 := ((Fr.get fh6 (by have := hI.1.1; omega) rfl).trans ex1)
      exact to_iret rfl (dat dk_X11_about 77 rfl) (ri_mk (by decide) ⟨Ih6, fh6, (show h6.2.2 4 1 = h.2.2 4 1 by omega)⟩)
    · skip
      refine to_aload_n (dat dk_X11_about 29 rfl) rfl (to_getR 27 g_c0_49 (dat dk_X11_about 30 rfl) (Ih6.atS rfl) (Ih6.atE rfl) (to_iload_n (dat dk_X11_about 31 rfl) rfl ?_))
      refine to_cI ca_c0_197 (dat dk_X11_about 32 rfl) (ct_X10_threadOf l h6 Ih6 x3 rx3) rfl ⟨_, _, rfl, (Ih6.atS rfl)⟩ rfl (fun x15 h16 rx15 p17 => ?_)
      subst p17
      have e18 : h6.2.2 4 1 = x1 := ((Fr.get fh6 (by have := hI.1.1; omega) rfl).trans ex1)
      exact to_iret rfl (dat dk_X11_about 33 rfl) (ri_mk rx15 ⟨Ih6, fh6, (show h6.2.2 4 1 = h.2.2 4 1 by omega)⟩)
    · skip
      refine to_aload_n (dat dk_X11_about 34 rfl) rfl (to_getR 27 g_c0_49 (dat dk_X11_about 35 rfl) (Ih6.atS rfl) (Ih6.atE rfl) (to_iload_n (dat dk_X11_about 36 rfl) rfl ?_))
      refine to_cI ca_c0_203 (dat dk_X11_about 37 rfl) (ct_X10_parentOf l h6 Ih6 x3 rx3) rfl ⟨_, _, rfl, (Ih6.atS rfl)⟩ rfl (fun x19 h20 rx19 p21 => ?_)
      subst p21
      have e22 : h6.2.2 4 1 = x1 := ((Fr.get fh6 (by have := hI.1.1; omega) rfl).trans ex1)
      exact to_iret rfl (dat dk_X11_about 38 rfl) (ri_mk rx19 ⟨Ih6, fh6, (show h6.2.2 4 1 = h.2.2 4 1 by omega)⟩)
    · skip
      refine to_aload_n (dat dk_X11_about 39 rfl) rfl (to_getR 27 g_c0_49 (dat dk_X11_about 40 rfl) (Ih6.atS rfl) (Ih6.atE rfl) (to_iload_n (dat dk_X11_about 41 rfl) rfl ?_))
      refine to_cI ca_c0_206 (dat dk_X11_about 42 rfl) (ct_X10_depthOf l h6 Ih6 x3 rx3) rfl ⟨_, _, rfl, (Ih6.atS rfl)⟩ rfl (fun x23 h24 rx23 p25 => ?_)
      subst p25
      have e26 : h6.2.2 4 1 = x1 := ((Fr.get fh6 (by have := hI.1.1; omega) rfl).trans ex1)
      exact to_iret rfl (dat dk_X11_about 43 rfl) (ri_mk rx23 ⟨Ih6, fh6, (show h6.2.2 4 1 = h.2.2 4 1 by omega)⟩)
    · skip
      refine to_aload_p (dat dk_X11_about 44 rfl) (by have := full.big Ih6 p12_0; omega) rfl ?_
      obtain ⟨x27, ex27⟩ : ∃ y : Int, h6.2.2 x10 3 = y := ⟨_, rfl⟩
      have rx27 := full.f3 Ih6 p12_0
      rw [ex27] at rx27
      refine to_getIv (y := x27) ex27 g_c0_209 (dat dk_X11_about 45 rfl) p12_0.1 ?_
      have e28 : h6.2.2 4 1 = x1 := ((Fr.get fh6 (by have := hI.1.1; omega) rfl).trans ex1)
      exact to_iret rfl (dat dk_X11_about 46 rfl) (ri_mk rx27 ⟨Ih6, fh6, (show h6.2.2 4 1 = h.2.2 4 1 by omega)⟩)
    · skip
      refine to_aload_p (dat dk_X11_about 47 rfl) (by have := full.big Ih6 p12_0; omega) rfl ?_
      obtain ⟨x29, ex29⟩ : ∃ y : Int, h6.2.2 x10 7 = y := ⟨_, rfl⟩
      have rx29 := full.f7 Ih6 p12_0
      rw [ex29] at rx29
      refine to_getIv (y := x29) ex29 g_c0_160 (dat dk_X11_about 48 rfl) p12_0.1 ?_
      have e30 : h6.2.2 4 1 = x1 := ((Fr.get fh6 (by have := hI.1.1; omega) rfl).trans ex1)
      exact to_iret rfl (dat dk_X11_about 49 rfl) (ri_mk (by omega) ⟨Ih6, fh6, (show h6.2.2 4 1 = h.2.2 4 1 by omega)⟩)
    · skip
      refine to_aload_p (dat dk_X11_about 50 rfl) (by have := full.big Ih6 p12_0; omega) rfl (to_iconst (dat dk_X11_about 51 rfl) ?_)
      refine to_cI ca_c0_212 (dat dk_X11_about 52 rfl) (ct_X6_wordsIn l h6 Ih6 x10 p12_0 0 (by decide) (show (0 : Int) ≤ 8 by omega)) rfl ⟨_, _, rfl, p12_0.1⟩ rfl (fun x31 h32 rx31 p33 => ?_)
      obtain ⟨rfl, p33_0⟩ := p33
      have e34 : h6.2.2 4 1 = x1 := ((Fr.get fh6 (by have := hI.1.1; omega) rfl).trans ex1)
      exact to_iret rfl (dat dk_X11_about 53 rfl) (ri_mk rx31 ⟨Ih6, fh6, (show h6.2.2 4 1 = h.2.2 4 1 by omega)⟩)
    · skip
      refine to_aload_p (dat dk_X11_about 54 rfl) (by have := full.big Ih6 p12_0; omega) rfl (to_iconst (dat dk_X11_about 55 rfl) ?_)
      refine to_cI ca_c0_212 (dat dk_X11_about 56 rfl) (ct_X6_wordsIn l h6 Ih6 x10 p12_0 1 (by decide) (show (1 : Int) ≤ 8 by omega)) rfl ⟨_, _, rfl, p12_0.1⟩ rfl (fun x35 h36 rx35 p37 => ?_)
      obtain ⟨rfl, p37_0⟩ := p37
      have e38 : h6.2.2 4 1 = x1 := ((Fr.get fh6 (by have := hI.1.1; omega) rfl).trans ex1)
      exact to_iret rfl (dat dk_X11_about 57 rfl) (ri_mk rx35 ⟨Ih6, fh6, (show h6.2.2 4 1 = h.2.2 4 1 by omega)⟩)
    · skip
      refine to_aload_p (dat dk_X11_about 58 rfl) (by have := full.big Ih6 p12_0; omega) rfl (to_iconst (dat dk_X11_about 59 rfl) ?_)
      refine to_cI ca_c0_212 (dat dk_X11_about 60 rfl) (ct_X6_wordsIn l h6 Ih6 x10 p12_0 2 (by decide) (show (2 : Int) ≤ 8 by omega)) rfl ⟨_, _, rfl, p12_0.1⟩ rfl (fun x39 h40 rx39 p41 => ?_)
      obtain ⟨rfl, p41_0⟩ := p41
      have e42 : h6.2.2 4 1 = x1 := ((Fr.get fh6 (by have := hI.1.1; omega) rfl).trans ex1)
      exact to_iret rfl (dat dk_X11_about 61 rfl) (ri_mk rx39 ⟨Ih6, fh6, (show h6.2.2 4 1 = h.2.2 4 1 by omega)⟩)
    · skip
      refine to_aload_p (dat dk_X11_about 62 rfl) (by have := full.big Ih6 p12_0; omega) rfl (to_iconst (dat dk_X11_about 63 rfl) ?_)
      refine to_cI ca_c0_212 (dat dk_X11_about 64 rfl) (ct_X6_wordsIn l h6 Ih6 x10 p12_0 3 (by decide) (show (3 : Int) ≤ 8 by omega)) rfl ⟨_, _, rfl, p12_0.1⟩ rfl (fun x43 h44 rx43 p45 => ?_)
      obtain ⟨rfl, p45_0⟩ := p45
      have e46 : h6.2.2 4 1 = x1 := ((Fr.get fh6 (by have := hI.1.1; omega) rfl).trans ex1)
      exact to_iret rfl (dat dk_X11_about 65 rfl) (ri_mk rx43 ⟨Ih6, fh6, (show h6.2.2 4 1 = h.2.2 4 1 by omega)⟩)
    · skip
      refine to_aload_n (dat dk_X11_about 66 rfl) rfl (to_getR 14 g_c0_31 (dat dk_X11_about 67 rfl) (Ih6.atS rfl) (Ih6.atE rfl) (to_aload_p (dat dk_X11_about 68 rfl) (by have := full.big Ih6 p12_0; omega) rfl ?_))
      obtain ⟨x47, ex47⟩ : ∃ y : Int, h6.2.2 x10 4 = y := ⟨_, rfl⟩
      have rx47 := full.f4 Ih6 p12_0
      rw [ex47] at rx47
      refine to_getIv (y := x47) ex47 g_c0_215 (dat dk_X11_about 69 rfl) p12_0.1 ?_
      refine to_cI ca_c0_218 (dat dk_X11_about 70 rfl) (ct_X0_sizeOf l h6 Ih6 14 70 rfl x47 rx47) rfl ⟨_, _, rfl, (Ih6.atS rfl)⟩ rfl (fun x48 h49 rx48 p50 => ?_)
      subst p50
      have e51 : h6.2.2 4 1 = x1 := ((Fr.get fh6 (by have := hI.1.1; omega) rfl).trans ex1)
      exact to_iret rfl (dat dk_X11_about 71 rfl) (ri_mk rx48 ⟨Ih6, fh6, (show h6.2.2 4 1 = h.2.2 4 1 by omega)⟩)
    · skip
      refine to_aload_p (dat dk_X11_about 72 rfl) (by have := full.big Ih6 p12_0; omega) rfl ?_
      obtain ⟨q52, nq52, eq52, pq52, tq52⟩ := full.r5 Ih6 p12_0
      have lq52 := Ih6.lenM tq52
      refine to_getR q52 g_c0_221 (dat dk_X11_about 73 rfl) p12_0.1 eq52 (to_alen (dat dk_X11_about 74 rfl) tq52 (by decide) ?_)
      have e53 : h6.2.2 4 1 = x1 := ((Fr.get fh6 (by have := hI.1.1; omega) rfl).trans ex1)
      exact to_iret rfl (dat dk_X11_about 75 rfl) (ri_mk (by omega) ⟨Ih6, fh6, (show h6.2.2 4 1 = h.2.2 4 1 by omega)⟩)
  refine to_iload_n (dat dk_X11_about 4 rfl) rfl ?_
  refine to_iflt 21 (dat dk_X11_about 5 rfl) rfl rx3 (fun c54 => ?_) (fun c54 => ?_)
  · skip
    refine to_iconst (dat dk_X11_about 11 rfl) ?_
    exact to_iret rfl (dat dk_X11_about 12 rfl) (ri_mk (by decide) ⟨hI, (Fr.rf _ _), (show h.2.2 4 1 = h.2.2 4 1 by omega)⟩)
  · skip
    refine to_iload_n (dat dk_X11_about 6 rfl) rfl (to_aload_n (dat dk_X11_about 7 rfl) rfl (to_getR 26 g_c0_40 (dat dk_X11_about 8 rfl) (hI.atS rfl) (hI.atE rfl) ?_))
    refine to_cI ca_c0_93 (dat dk_X11_about 9 rfl) (ct_Jx4a65c_size_8abf5 l h hI ) rfl ⟨_, _, rfl, (hI.atS rfl)⟩ rfl (fun x55 h56 rx55 p57 => ?_)
    obtain ⟨rfl, p57_0, p57_1⟩ := p57
    refine to_ilt 23 (dat dk_X11_about 10 rfl) rfl rx3 rx55 (fun c58 => ?_) (fun c58 => ?_)
    · skip
      refine to_iload_n (dat dk_X11_about 13 rfl) rfl ?_
      refine to_iflt 39 (dat dk_X11_about 14 rfl) rfl hq (fun c59 => ?_) (fun c59 => ?_)
      · skip
        exact jn39_n8 h hI (Fr.rf _ _) (show 0 ≤ x3 ∧ x3 < h.2.2 26 2 by omega)
      · skip
        refine to_iload_n (dat dk_X11_about 15 rfl) rfl (to_iconst (dat dk_X11_about 16 rfl) ?_)
        refine to_igt 39 (dat dk_X11_about 17 rfl) rfl hq (by decide) (fun c60 => ?_) (fun c60 => ?_)
        · skip
          exact jn39_n8 h hI (Fr.rf _ _) (show 0 ≤ x3 ∧ x3 < h.2.2 26 2 by omega)
        · skip
          refine to_aload_n (dat dk_X11_about 18 rfl) rfl (to_getR 27 g_c0_49 (dat dk_X11_about 19 rfl) (hI.atS rfl) (hI.atE rfl) ?_)
          refine to_cV ca_c0_191 (dat dk_X11_about 20 rfl) (ct_X10_freshen l h hI ) rfl ⟨_, _, rfl, (hI.atS rfl)⟩ rfl (fun h62 p63 => ?_)
          obtain ⟨Ih62, fh62⟩ := p63
          have f64 : Fr [27, 28, 29, 30, 31] h h62 := Fr.sub (Fr.rf _ _) fh62 (sub_self _)
          have e65 : h62.2.2 26 2 = x2 := ((Fr.get fh62 (by have := hI.1.1; omega) rfl).trans ex2)
          exact jn39_n8 h62 Ih62 f64 (show 0 ≤ x3 ∧ x3 < h62.2.2 26 2 by omega)
    · skip
      refine to_iconst (dat dk_X11_about 11 rfl) ?_
      exact to_iret rfl (dat dk_X11_about 12 rfl) (ri_mk (by decide) ⟨hI, (Fr.rf _ _), (show h.2.2 4 1 = h.2.2 4 1 by omega)⟩)
abbrev Q_X11_at (h : Hp) (n : Int) (f : Int) (i : Int) (k : Int) : Option V → Hp → Nat → Nat → Prop := RI (fun x H => h = H)
set_option maxRecDepth 100000 in
theorem ct_X11_at (l : Launch) (h : Hp) (hI : Inv h) (n : Int) (hn : I32 n) (f : Int) (hf : I32 f) (i : Int) (hi : I32 i) (k : Int) (hk : I32 k) : Ct l D_X11_at 4 86 [.inr (.inr 1), .inl n, .inl f, .inl i, .inl k] h (Q_X11_at h n f i k) := by
  refine ct_of pn_X11_at (Nat.le_of_ble_eq_true rfl) ?_
  show To l E_X11_at (0, [(0, .inr (.inr 1)), (1, .inl n), (2, .inl f), (3, .inl i), (4, .inl k)], [], h, 0, 0) _
  refine to_aload_n (dat dk_X11_at 0 rfl) rfl (to_iload_n (dat dk_X11_at 1 rfl) rfl ?_)
  obtain ⟨x1, ex1⟩ : ∃ y : Int, h.2.2 26 2 = y := ⟨_, rfl⟩
  have rx1 := hI.atR (a := 26) (j := 2) rfl
  rw [ex1] at rx1
  refine to_cI ca_c0_119 (dat dk_X11_at 2 rfl) (ct_X11_placeOf l h hI n hn) rfl ⟨_, _, rfl, (hI.atS rfl)⟩ rfl (fun x2 h3 rx2 p4 => ?_)
  obtain ⟨rfl, p4_0⟩ := p4
  refine to_istore (L' := [(0, .inr (.inr 1)), (1, .inl n), (2, .inl f), (3, .inl i), (4, .inl k), (5, .inl x2)]) (dat dk_X11_at 3 rfl) (by decide) rfl (to_iload (dat dk_X11_at 4 rfl) rfl ?_)
  refine to_iflt 24 (dat dk_X11_at 5 rfl) rfl rx2 (fun c5 => ?_) (fun c5 => ?_)
  · skip
    refine to_iconst (dat dk_X11_at 11 rfl) ?_
    exact to_iret rfl (dat dk_X11_at 12 rfl) (ri_mk (by decide) rfl)
  · skip
    refine to_iload (dat dk_X11_at 6 rfl) rfl (to_aload_n (dat dk_X11_at 7 rfl) rfl (to_getR 26 g_c0_40 (dat dk_X11_at 8 rfl) (hI.atS rfl) (hI.atE rfl) ?_))
    refine to_cI ca_c0_93 (dat dk_X11_at 9 rfl) (ct_Jx4a65c_size_8abf5 l h hI ) rfl ⟨_, _, rfl, (hI.atS rfl)⟩ rfl (fun x6 h7 rx6 p8 => ?_)
    obtain ⟨rfl, p8_0, p8_1⟩ := p8
    refine to_ilt 26 (dat dk_X11_at 10 rfl) rfl rx2 rx6 (fun c9 => ?_) (fun c9 => ?_)
    · skip
      refine to_aload_n (dat dk_X11_at 13 rfl) rfl (to_getR 26 g_c0_40 (dat dk_X11_at 14 rfl) (hI.atS rfl) (hI.atE rfl) (to_iload (dat dk_X11_at 15 rfl) rfl ?_))
      refine to_cR ca_c0_144 (dat dk_X11_at 16 rfl) (ct_Jx4a65c_get_915e3 l h hI x2 rx2 (show 0 ≤ x2 ∧ x2 < h.2.2 26 2 by omega)) rfl ⟨_, _, rfl, (hI.atS rfl)⟩ rfl (fun x10 h11 p12 => ?_)
      obtain ⟨rfl, p12_0⟩ := p12
      refine to_castM (C := RX6) (T := TX6) (N := 8) (ci := 5) rfl (tin 2 235 (by decide +kernel) rfl) (dat dk_X11_at 17 rfl) p12_0.1 (to_astore (L' := [(0, .inr (.inr 1)), (1, .inl n), (2, .inl f), (3, .inl i), (4, .inl k), (5, .inl x2), (6, .inr (.inr x10))]) (dat dk_X11_at 18 rfl) (by have := full.big hI p12_0; omega) (by decide) rfl (to_iload_n (dat dk_X11_at 19 rfl) rfl ?_))
      refine to_table (d := 156) (ts := [84, 84, 84, 84, 101, 117, 140]) (dat dk_X11_at 20 rfl) rfl rfl rfl hf (fun c13 => ?_) ⟨fun c13 => ?_, fun c13 => ?_, fun c13 => ?_, fun c13 => ?_, fun c13 => ?_, fun c13 => ?_, fun c13 => ?_, trivial⟩
      · skip
        refine to_iconst (dat dk_X11_at 57 rfl) ?_
        exact to_iret rfl (dat dk_X11_at 58 rfl) (ri_mk (by decide) rfl)
      · skip
        refine to_aload_n (dat dk_X11_at 21 rfl) rfl (to_getR 8 g_c0_27 (dat dk_X11_at 22 rfl) (hI.atS rfl) (hI.atE rfl) (to_aload_p (dat dk_X11_at 23 rfl) (by have := full.big hI p12_0; omega) rfl (to_iload_n (dat dk_X11_at 24 rfl) rfl (to_iload_n (dat dk_X11_at 25 rfl) rfl ?_))))
        refine to_cI ca_c0_224 (dat dk_X11_at 26 rfl) (ct_X6_wordAt l h hI x10 p12_0 f hf i hi (show f ≤ 8 by omega)) rfl ⟨_, _, rfl, p12_0.1⟩ rfl (fun x14 h15 rx14 p16 => ?_)
        subst p16
        refine to_iload (dat dk_X11_at 27 rfl) rfl ?_
        refine to_cI ca_c0_228 (dat dk_X11_at 28 rfl) (ct_X0_byteOf l h hI 8 60 rfl x14 rx14 k hk) rfl ⟨_, _, rfl, (hI.atS rfl)⟩ rfl (fun x17 h18 rx17 p19 => ?_)
        obtain ⟨rfl, p19_0⟩ := p19
        exact to_iret rfl (dat dk_X11_at 29 rfl) (ri_mk rx17 rfl)
      · skip
        refine to_aload_n (dat dk_X11_at 21 rfl) rfl (to_getR 8 g_c0_27 (dat dk_X11_at 22 rfl) (hI.atS rfl) (hI.atE rfl) (to_aload_p (dat dk_X11_at 23 rfl) (by have := full.big hI p12_0; omega) rfl (to_iload_n (dat dk_X11_at 24 rfl) rfl (to_iload_n (dat dk_X11_at 25 rfl) rfl ?_))))
        refine to_cI ca_c0_224 (dat dk_X11_at 26 rfl) (ct_X6_wordAt l h hI x10 p12_0 f hf i hi (show f ≤ 8 by omega)) rfl ⟨_, _, rfl, p12_0.1⟩ rfl (fun x20 h21 rx20 p22 => ?_)
        subst p22
        refine to_iload (dat dk_X11_at 27 rfl) rfl ?_
        refine to_cI ca_c0_228 (dat dk_X11_at 28 rfl) (ct_X0_byteOf l h hI 8 60 rfl x20 rx20 k hk) rfl ⟨_, _, rfl, (hI.atS rfl)⟩ rfl (fun x23 h24 rx23 p25 => ?_)
        obtain ⟨rfl, p25_0⟩ := p25
        exact to_iret rfl (dat dk_X11_at 29 rfl) (ri_mk rx23 rfl)
      · skip
        refine to_aload_n (dat dk_X11_at 21 rfl) rfl (to_getR 8 g_c0_27 (dat dk_X11_at 22 rfl) (hI.atS rfl) (hI.atE rfl) (to_aload_p (dat dk_X11_at 23 rfl) (by have := full.big hI p12_0; omega) rfl (to_iload_n (dat dk_X11_at 24 rfl) rfl (to_iload_n (dat dk_X11_at 25 rfl) rfl ?_))))
        refine to_cI ca_c0_224 (dat dk_X11_at 26 rfl) (ct_X6_wordAt l h hI x10 p12_0 f hf i hi (show f ≤ 8 by omega)) rfl ⟨_, _, rfl, p12_0.1⟩ rfl (fun x26 h27 rx26 p28 => ?_)
        subst p28
        refine to_iload (dat dk_X11_at 27 rfl) rfl ?_
        refine to_cI ca_c0_228 (dat dk_X11_at 28 rfl) (ct_X0_byteOf l h hI 8 60 rfl x26 rx26 k hk) rfl ⟨_, _, rfl, (hI.atS rfl)⟩ rfl (fun x29 h30 rx29 p31 => ?_)
        obtain ⟨rfl, p31_0⟩ := p31
        exact to_iret rfl (dat dk_X11_at 29 rfl) (ri_mk rx29 rfl)
      · skip
        refine to_aload_n (dat dk_X11_at 21 rfl) rfl (to_getR 8 g_c0_27 (dat dk_X11_at 22 rfl) (hI.atS rfl) (hI.atE rfl) (to_aload_p (dat dk_X11_at 23 rfl) (by have := full.big hI p12_0; omega) rfl (to_iload_n (dat dk_X11_at 24 rfl) rfl (to_iload_n (dat dk_X11_at 25 rfl) rfl ?_))))
        refine to_cI ca_c0_224 (dat dk_X11_at 26 rfl) (ct_X6_wordAt l h hI x10 p12_0 f hf i hi (show f ≤ 8 by omega)) rfl ⟨_, _, rfl, p12_0.1⟩ rfl (fun x32 h33 rx32 p34 => ?_)
        subst p34
        refine to_iload (dat dk_X11_at 27 rfl) rfl ?_
        refine to_cI ca_c0_228 (dat dk_X11_at 28 rfl) (ct_X0_byteOf l h hI 8 60 rfl x32 rx32 k hk) rfl ⟨_, _, rfl, (hI.atS rfl)⟩ rfl (fun x35 h36 rx35 p37 => ?_)
        obtain ⟨rfl, p37_0⟩ := p37
        exact to_iret rfl (dat dk_X11_at 29 rfl) (ri_mk rx35 rfl)
      · skip
        refine to_aload_n (dat dk_X11_at 30 rfl) rfl (to_getR 20 g_c0_34 (dat dk_X11_at 31 rfl) (hI.atS rfl) (hI.atE rfl) (to_aload_p (dat dk_X11_at 32 rfl) (by have := full.big hI p12_0; omega) rfl (to_iload_n (dat dk_X11_at 33 rfl) rfl ?_)))
        refine to_cI ca_c0_231 (dat dk_X11_at 34 rfl) (ct_X6_tagAt l h hI x10 p12_0 i hi) rfl ⟨_, _, rfl, p12_0.1⟩ rfl (fun x38 h39 rx38 p40 => ?_)
        subst p40
        refine to_iload (dat dk_X11_at 35 rfl) rfl ?_
        refine to_cI ca_c0_228 (dat dk_X11_at 36 rfl) (ct_X0_byteOf l h hI 20 80 rfl x38 rx38 k hk) rfl ⟨_, _, rfl, (hI.atS rfl)⟩ rfl (fun x41 h42 rx41 p43 => ?_)
        obtain ⟨rfl, p43_0⟩ := p43
        exact to_iret rfl (dat dk_X11_at 37 rfl) (ri_mk rx41 rfl)
      · skip
        refine to_iload_n (dat dk_X11_at 38 rfl) rfl ?_
        refine to_ifne 138 (dat dk_X11_at 39 rfl) rfl hi (fun c44 => ?_) (fun c44 => ?_)
        · skip
          refine to_iconst (dat dk_X11_at 47 rfl) ?_
          exact to_iret rfl (dat dk_X11_at 48 rfl) (ri_mk (by decide) rfl)
        · skip
          refine to_aload_n (dat dk_X11_at 40 rfl) rfl (to_getR 14 g_c0_31 (dat dk_X11_at 41 rfl) (hI.atS rfl) (hI.atE rfl) (to_aload_p (dat dk_X11_at 42 rfl) (by have := full.big hI p12_0; omega) rfl ?_))
          obtain ⟨x45, ex45⟩ : ∃ y : Int, h.2.2 x10 4 = y := ⟨_, rfl⟩
          have rx45 := full.f4 hI p12_0
          rw [ex45] at rx45
          refine to_getIv (y := x45) ex45 g_c0_215 (dat dk_X11_at 43 rfl) p12_0.1 (to_iload (dat dk_X11_at 44 rfl) rfl ?_)
          refine to_cI ca_c0_228 (dat dk_X11_at 45 rfl) (ct_X0_byteOf l h hI 14 70 rfl x45 rx45 k hk) rfl ⟨_, _, rfl, (hI.atS rfl)⟩ rfl (fun x46 h47 rx46 p48 => ?_)
          obtain ⟨rfl, p48_0⟩ := p48
          refine to_goto (dat dk_X11_at 46 rfl) rfl ?_
          exact to_iret rfl (dat dk_X11_at 48 rfl) (ri_mk rx46 rfl)
      · skip
        refine to_aload_n (dat dk_X11_at 49 rfl) rfl (to_getR 14 g_c0_31 (dat dk_X11_at 50 rfl) (hI.atS rfl) (hI.atE rfl) (to_aload_p (dat dk_X11_at 51 rfl) (by have := full.big hI p12_0; omega) rfl (to_iload_n (dat dk_X11_at 52 rfl) rfl ?_)))
        refine to_cI ca_c0_234 (dat dk_X11_at 53 rfl) (ct_X6_referenceAt l h hI x10 p12_0 i hi) rfl ⟨_, _, rfl, p12_0.1⟩ rfl (fun x49 h50 rx49 p51 => ?_)
        subst p51
        refine to_iload (dat dk_X11_at 54 rfl) rfl ?_
        refine to_cI ca_c0_228 (dat dk_X11_at 55 rfl) (ct_X0_byteOf l h hI 14 70 rfl x49 rx49 k hk) rfl ⟨_, _, rfl, (hI.atS rfl)⟩ rfl (fun x52 h53 rx52 p54 => ?_)
        obtain ⟨rfl, p54_0⟩ := p54
        exact to_iret rfl (dat dk_X11_at 56 rfl) (ri_mk rx52 rfl)
    · skip
      refine to_iconst (dat dk_X11_at 11 rfl) ?_
      exact to_iret rfl (dat dk_X11_at 12 rfl) (ri_mk (by decide) rfl)
