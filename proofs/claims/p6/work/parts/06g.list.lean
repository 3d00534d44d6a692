/-! Contracts, by program. -/
abbrev Q_Jx4a65c_size_8abf5 (h : Hp) : Option V → Hp → Nat → Nat → Prop := RI (fun x H => h = H ∧ (x = H.2.2 26 2) ∧ (0 ≤ x ∧ x ≤ 60))
set_option maxRecDepth 100000 in
theorem ct_Jx4a65c_size_8abf5 (l : Launch) (h : Hp) (hI : Inv h)  : Ct l D_Jx4a65c_size_8abf5 0 0 [.inr (.inr 26)] h (Q_Jx4a65c_size_8abf5 h) := by
  refine ct_of pn_Jx4a65c_size_8abf5 (Nat.le_of_ble_eq_true rfl) ?_
  show To l E_Jx4a65c_size_8abf5 (0, [(0, .inr (.inr 26))], [], h, 0, 0) _
  refine to_aload_n (dat dk_Jx4a65c_size_8abf5 0 rfl) rfl ?_
  obtain ⟨x1, ex1⟩ : ∃ y : Int, h.2.2 26 2 = y := ⟨_, rfl⟩
  have rx1 := hI.atR (a := 26) (j := 2) rfl
  rw [ex1] at rx1
  refine to_getIv (y := x1) ex1 g_c28_48 (dat dk_Jx4a65c_size_8abf5 1 rfl) (hI.atS rfl) ?_
  exact to_iret rfl (dat dk_Jx4a65c_size_8abf5 2 rfl) (ri_mk (by omega) ⟨rfl, (show x1 = h.2.2 26 2 by omega), (by have := hI.lsz; omega)⟩)
abbrev Q_Jx4a65c_elementData_915e3 (h : Hp) (i : Int) : Option V → Hp → Nat → Nat → Prop := RR (fun x H => h = H ∧ (full H x))
set_option maxRecDepth 100000 in
theorem ct_Jx4a65c_elementData_915e3 (l : Launch) (h : Hp) (hI : Inv h) (i : Int) (hi : I32 i) (g0 : 0 ≤ i ∧ i < h.2.2 26 2) : Ct l D_Jx4a65c_elementData_915e3 0 0 [.inr (.inr 26), .inl i] h (Q_Jx4a65c_elementData_915e3 h i) := by
  refine ct_of pn_Jx4a65c_elementData_915e3 (Nat.le_of_ble_eq_true rfl) ?_
  show To l E_Jx4a65c_elementData_915e3 (0, [(0, .inr (.inr 26)), (1, .inl i)], [], h, 0, 0) _
  refine to_aload_n (dat dk_Jx4a65c_elementData_915e3 0 rfl) rfl ?_
  obtain ⟨q1, nq1, m2, eq1, pq1, tq1, iq1, vq1, fq1⟩ := hI.led (i := i) g0
  refine to_getR q1 g_c28_9 (dat dk_Jx4a65c_elementData_915e3 1 rfl) (hI.atS rfl) eq1 (to_iload_n (dat dk_Jx4a65c_elementData_915e3 2 rfl) rfl (to_aaldv m2 (dat dk_Jx4a65c_elementData_915e3 3 rfl) tq1 rfl (hI.lenN tq1) (by omega) vq1 ?_))
  exact to_aret rfl (Or.inl ⟨_, rfl⟩) (dat dk_Jx4a65c_elementData_915e3 4 rfl) (rr_mk ⟨rfl, fq1⟩)
abbrev Q_Jx4a65c_get_915e3 (h : Hp) (i : Int) : Option V → Hp → Nat → Nat → Prop := RR (fun x H => h = H ∧ (full H x))
set_option maxRecDepth 100000 in
theorem ct_Jx4a65c_get_915e3 (l : Launch) (h : Hp) (hI : Inv h) (i : Int) (hi : I32 i) (g0 : 0 ≤ i ∧ i < h.2.2 26 2) : Ct l D_Jx4a65c_get_915e3 2 43 [.inr (.inr 26), .inl i] h (Q_Jx4a65c_get_915e3 h i) := by
  refine ct_of pn_Jx4a65c_get_915e3 (Nat.le_of_ble_eq_true rfl) ?_
  show To l E_Jx4a65c_get_915e3 (0, [(0, .inr (.inr 26)), (1, .inl i)], [], h, 0, 0) _
  refine to_iload_n (dat dk_Jx4a65c_get_915e3 0 rfl) rfl (to_aload_n (dat dk_Jx4a65c_get_915e3 1 rfl) rfl ?_)
  obtain ⟨x1, ex1⟩ : ∃ y : Int, h.2.2 26 2 = y := ⟨_, rfl⟩
  have rx1 := hI.atR (a := 26) (j := 2) rfl
  rw [ex1] at rx1
  refine to_getIv (y := x1) ex1 g_c28_48 (dat dk_Jx4a65c_get_915e3 2 rfl) (hI.atS rfl) ?_
  refine to_cI ca_c28_118 (dat dk_Jx4a65c_get_915e3 3 rfl) (ct_J15_checkIndex_7cf53 l h hI i hi x1 (by omega) (show 0 ≤ i ∧ i < x1 by omega)) rfl trivial rfl (fun x2 h3 rx2 p4 => ?_)
  obtain ⟨rfl, p4_0⟩ := p4
  refine to_pop (dat dk_Jx4a65c_get_915e3 4 rfl) rfl (to_aload_n (dat dk_Jx4a65c_get_915e3 5 rfl) rfl (to_iload_n (dat dk_Jx4a65c_get_915e3 6 rfl) rfl ?_))
  refine to_cR ca_c28_123 (dat dk_Jx4a65c_get_915e3 7 rfl) (ct_Jx4a65c_elementData_915e3 l h hI i hi (show 0 ≤ i ∧ i < h.2.2 26 2 by omega)) rfl ⟨_, _, rfl, (hI.atS rfl)⟩ rfl (fun x5 h6 p7 => ?_)
  obtain ⟨rfl, p7_0⟩ := p7
  exact to_aret rfl (Or.inl ⟨_, rfl⟩) (dat dk_Jx4a65c_get_915e3 8 rfl) (rr_mk ⟨rfl, p7_0⟩)
abbrev Q_X6_wordsIn (h : Hp) (m : Nat) (f : Int) : Option V → Hp → Nat → Nat → Prop := RI (fun x H => h = H ∧ (-1200 ≤ x ∧ x ≤ 1200))
set_option maxRecDepth 100000 in
theorem ct_X6_wordsIn (l : Launch) (h : Hp) (hI : Inv h) (m : Nat) (hm : full h m) (f : Int) (hf : I32 f) (g0 : f ≤ 8) : Ct l D_X6_wordsIn 0 0 [.inr (.inr m), .inl f] h (Q_X6_wordsIn h m f) := by
  refine ct_of pn_X6_wordsIn (Nat.le_of_ble_eq_true rfl) ?_
  show To l E_X6_wordsIn (0, [(0, .inr (.inr m)), (1, .inl f)], [], h, 0, 0) _
  refine to_iload_n (dat dk_X6_wordsIn 0 rfl) rfl ?_
  refine to_iflt 15 (dat dk_X6_wordsIn 1 rfl) rfl hf (fun c1 => ?_) (fun c1 => ?_)
  · skip
    refine to_iconst (dat dk_X6_wordsIn 9 rfl) ?_
    exact to_iret rfl (dat dk_X6_wordsIn 10 rfl) (ri_mk (by decide) ⟨rfl, (show -1200 ≤ (0 : Int) ∧ (0 : Int) ≤ 1200 by omega)⟩)
  · skip
    refine to_iload_n (dat dk_X6_wordsIn 2 rfl) rfl (to_iconst (dat dk_X6_wordsIn 3 rfl) (to_iadd (dat dk_X6_wordsIn 4 rfl) (to_aload_np (dat dk_X6_wordsIn 5 rfl) (by have := full.big hI hm; omega) rfl ?_)))
    obtain ⟨q2, nq2, eq2, pq2, tq2⟩ := full.r2 hI hm
    have lq2 := hI.lenM tq2
    refine to_getR q2 g_c7_22 (dat dk_X6_wordsIn 6 rfl) hm.1 eq2 (to_alen (dat dk_X6_wordsIn 7 rfl) tq2 (by decide) ?_)
    refine to_ilt 17 (dat dk_X6_wordsIn 8 rfl) rfl (by omega) (by omega) (fun c3 => ?_) (fun c3 => ?_)
    · skip
      refine to_aload_np (dat dk_X6_wordsIn 11 rfl) (by have := full.big hI hm; omega) rfl (to_getR q2 g_c7_22 (dat dk_X6_wordsIn 12 rfl) hm.1 eq2 (to_iload_n (dat dk_X6_wordsIn 13 rfl) rfl (to_iconst (dat dk_X6_wordsIn 14 rfl) (to_iadd (dat dk_X6_wordsIn 15 rfl) ?_))))
      obtain ⟨x4, ex4⟩ : ∃ y : Int, h.2.2 q2 (Int.toNat (f + 1)) = y := ⟨_, rfl⟩
      have rx4 := (hI.2.2.2.2.1 _ _ tq2).2 (Int.toNat (f + 1))
      rw [ex4] at rx4
      refine to_ialdv ex4 (dat dk_X6_wordsIn 16 rfl) tq2 rfl (hI.lenN tq2) (by omega) (to_aload_np (dat dk_X6_wordsIn 17 rfl) (by have := full.big hI hm; omega) rfl (to_getR q2 g_c7_22 (dat dk_X6_wordsIn 18 rfl) hm.1 eq2 (to_iload_n (dat dk_X6_wordsIn 19 rfl) rfl ?_)))
      obtain ⟨x5, ex5⟩ : ∃ y : Int, h.2.2 q2 (Int.toNat f) = y := ⟨_, rfl⟩
      have rx5 := (hI.2.2.2.2.1 _ _ tq2).2 (Int.toNat f)
      rw [ex5] at rx5
      refine to_ialdv ex5 (dat dk_X6_wordsIn 20 rfl) tq2 rfl (hI.lenN tq2) (by omega) (to_isub (dat dk_X6_wordsIn 21 rfl) ?_)
      exact to_iret rfl (dat dk_X6_wordsIn 22 rfl) (ri_mk (by omega) ⟨rfl, (show -1200 ≤ (x4 - x5) ∧ (x4 - x5) ≤ 1200 by omega)⟩)
    · skip
      refine to_iconst (dat dk_X6_wordsIn 9 rfl) ?_
      exact to_iret rfl (dat dk_X6_wordsIn 10 rfl) (ri_mk (by decide) ⟨rfl, (show -1200 ≤ (0 : Int) ∧ (0 : Int) ≤ 1200 by omega)⟩)
abbrev Q_X6_wordAt (h : Hp) (m : Nat) (f : Int) (i : Int) : Option V → Hp → Nat → Nat → Prop := RI (fun x H => h = H)
set_option maxRecDepth 100000 in
theorem ct_X6_wordAt (l : Launch) (h : Hp) (hI : Inv h) (m : Nat) (hm : full h m) (f : Int) (hf : I32 f) (i : Int) (hi : I32 i) (g0 : f ≤ 8) : Ct l D_X6_wordAt 1 21 [.inr (.inr m), .inl f, .inl i] h (Q_X6_wordAt h m f i) := by
  refine ct_of pn_X6_wordAt (Nat.le_of_ble_eq_true rfl) ?_
  show To l E_X6_wordAt (0, [(0, .inr (.inr m)), (1, .inl f), (2, .inl i)], [], h, 0, 0) _
  refine to_iload_n (dat dk_X6_wordAt 0 rfl) rfl ?_
  refine to_iflt 26 (dat dk_X6_wordAt 1 rfl) rfl hi (fun c1 => ?_) (fun c1 => ?_)
  · skip
    refine to_iconst (dat dk_X6_wordAt 14 rfl) ?_
    exact to_iret rfl (dat dk_X6_wordAt 15 rfl) (ri_mk (by decide) rfl)
  · skip
    refine to_iload_n (dat dk_X6_wordAt 2 rfl) rfl (to_aload_np (dat dk_X6_wordAt 3 rfl) (by have := full.big hI hm; omega) rfl (to_iload_n (dat dk_X6_wordAt 4 rfl) rfl ?_))
    refine to_cI ca_c7_34 (dat dk_X6_wordAt 5 rfl) (ct_X6_wordsIn l h hI m hm f hf (show f ≤ 8 by omega)) rfl ⟨_, _, rfl, hm.1⟩ rfl (fun x2 h3 rx2 p4 => ?_)
    obtain ⟨rfl, p4_0⟩ := p4
    refine to_ige 26 (dat dk_X6_wordAt 6 rfl) rfl hi rx2 (fun c5 => ?_) (fun c5 => ?_)
    · skip
      refine to_iconst (dat dk_X6_wordAt 14 rfl) ?_
      exact to_iret rfl (dat dk_X6_wordAt 15 rfl) (ri_mk (by decide) rfl)
    · skip
      refine to_iload_n (dat dk_X6_wordAt 7 rfl) rfl ?_
      refine to_iflt 26 (dat dk_X6_wordAt 8 rfl) rfl hf (fun c6 => ?_) (fun c6 => ?_)
      · skip
        refine to_iconst (dat dk_X6_wordAt 14 rfl) ?_
        exact to_iret rfl (dat dk_X6_wordAt 15 rfl) (ri_mk (by decide) rfl)
      · skip
        refine to_iload_n (dat dk_X6_wordAt 9 rfl) rfl (to_aload_np (dat dk_X6_wordAt 10 rfl) (by have := full.big hI hm; omega) rfl ?_)
        obtain ⟨q7, nq7, eq7, pq7, tq7⟩ := full.r2 hI hm
        have lq7 := hI.lenM tq7
        refine to_getR q7 g_c7_22 (dat dk_X6_wordAt 11 rfl) hm.1 eq7 (to_alen (dat dk_X6_wordAt 12 rfl) tq7 (by decide) ?_)
        refine to_ilt 28 (dat dk_X6_wordAt 13 rfl) rfl hf (by omega) (fun c8 => ?_) (fun c8 => ?_)
        · skip
          refine to_aload_np (dat dk_X6_wordAt 16 rfl) (by have := full.big hI hm; omega) rfl (to_getR q7 g_c7_22 (dat dk_X6_wordAt 17 rfl) hm.1 eq7 (to_iload_n (dat dk_X6_wordAt 18 rfl) rfl ?_))
          obtain ⟨x9, ex9⟩ : ∃ y : Int, h.2.2 q7 (Int.toNat f) = y := ⟨_, rfl⟩
          have rx9 := (hI.2.2.2.2.1 _ _ tq7).2 (Int.toNat f)
          rw [ex9] at rx9
          refine to_ialdv ex9 (dat dk_X6_wordAt 19 rfl) tq7 rfl (hI.lenN tq7) (by omega) (to_iload_n (dat dk_X6_wordAt 20 rfl) rfl (to_iadd (dat dk_X6_wordAt 21 rfl) (to_istore_n (L' := [(0, .inr (.inr m)), (1, .inl f), (2, .inl i), (3, .inl (x9 + i))]) (dat dk_X6_wordAt 22 rfl) (by decide) rfl (to_iload_n (dat dk_X6_wordAt 23 rfl) rfl ?_))))
          refine to_iflt 59 (dat dk_X6_wordAt 24 rfl) rfl (by omega) (fun c10 => ?_) (fun c10 => ?_)
          · skip
            refine to_iconst (dat dk_X6_wordAt 35 rfl) ?_
            exact to_iret rfl (dat dk_X6_wordAt 36 rfl) (ri_mk (by decide) rfl)
          · skip
            refine to_iload_n (dat dk_X6_wordAt 25 rfl) rfl (to_aload_np (dat dk_X6_wordAt 26 rfl) (by have := full.big hI hm; omega) rfl ?_)
            obtain ⟨q11, nq11, eq11, pq11, tq11⟩ := full.r1 hI hm
            have lq11 := hI.lenM tq11
            refine to_getR q11 g_c7_19 (dat dk_X6_wordAt 27 rfl) hm.1 eq11 (to_alen (dat dk_X6_wordAt 28 rfl) tq11 (by decide) ?_)
            refine to_ige 59 (dat dk_X6_wordAt 29 rfl) rfl (by omega) (by omega) (fun c12 => ?_) (fun c12 => ?_)
            · skip
              refine to_iconst (dat dk_X6_wordAt 35 rfl) ?_
              exact to_iret rfl (dat dk_X6_wordAt 36 rfl) (ri_mk (by decide) rfl)
            · skip
              refine to_aload_np (dat dk_X6_wordAt 30 rfl) (by have := full.big hI hm; omega) rfl (to_getR q11 g_c7_19 (dat dk_X6_wordAt 31 rfl) hm.1 eq11 (to_iload_n (dat dk_X6_wordAt 32 rfl) rfl ?_))
              obtain ⟨x13, ex13⟩ : ∃ y : Int, h.2.2 q11 (Int.toNat (x9 + i)) = y := ⟨_, rfl⟩
              have rx13 := hI.con0 tq11 rfl (Int.toNat (x9 + i))
              rw [ex13] at rx13
              refine to_ialdv ex13 (dat dk_X6_wordAt 33 rfl) tq11 rfl (hI.lenN tq11) (by omega) (to_goto (dat dk_X6_wordAt 34 rfl) rfl ?_)
              exact to_iret rfl (dat dk_X6_wordAt 36 rfl) (ri_mk rx13 rfl)
        · skip
          refine to_iconst (dat dk_X6_wordAt 14 rfl) ?_
          exact to_iret rfl (dat dk_X6_wordAt 15 rfl) (ri_mk (by decide) rfl)
abbrev Q_X6_referenceAt (h : Hp) (m : Nat) (i : Int) : Option V → Hp → Nat → Nat → Prop := RI (fun x H => h = H)
set_option maxRecDepth 100000 in
theorem ct_X6_referenceAt (l : Launch) (h : Hp) (hI : Inv h) (m : Nat) (hm : full h m) (i : Int) (hi : I32 i) : Ct l D_X6_referenceAt 0 0 [.inr (.inr m), .inl i] h (Q_X6_referenceAt h m i) := by
  refine ct_of pn_X6_referenceAt (Nat.le_of_ble_eq_true rfl) ?_
  show To l E_X6_referenceAt (0, [(0, .inr (.inr m)), (1, .inl i)], [], h, 0, 0) _
  refine to_iload_n (dat dk_X6_referenceAt 0 rfl) rfl ?_
  refine to_iflt 22 (dat dk_X6_referenceAt 1 rfl) rfl hi (fun c1 => ?_) (fun c1 => ?_)
  · skip
    refine to_iconst (dat dk_X6_referenceAt 12 rfl) ?_
    exact to_iret rfl (dat dk_X6_referenceAt 13 rfl) (ri_mk (by decide) rfl)
  · skip
    refine to_iload_n (dat dk_X6_referenceAt 2 rfl) rfl (to_aload_np (dat dk_X6_referenceAt 3 rfl) (by have := full.big hI hm; omega) rfl ?_)
    obtain ⟨q2, nq2, eq2, pq2, tq2⟩ := full.r5 hI hm
    have lq2 := hI.lenM tq2
    refine to_getR q2 g_c7_31 (dat dk_X6_referenceAt 4 rfl) hm.1 eq2 (to_alen (dat dk_X6_referenceAt 5 rfl) tq2 (by decide) ?_)
    refine to_ige 22 (dat dk_X6_referenceAt 6 rfl) rfl hi (by omega) (fun c3 => ?_) (fun c3 => ?_)
    · skip
      refine to_iconst (dat dk_X6_referenceAt 12 rfl) ?_
      exact to_iret rfl (dat dk_X6_referenceAt 13 rfl) (ri_mk (by decide) rfl)
    · skip
      refine to_aload_np (dat dk_X6_referenceAt 7 rfl) (by have := full.big hI hm; omega) rfl (to_getR q2 g_c7_31 (dat dk_X6_referenceAt 8 rfl) hm.1 eq2 (to_iload_n (dat dk_X6_referenceAt 9 rfl) rfl ?_))
      obtain ⟨x4, ex4⟩ : ∃ y : Int, h.2.2 q2 (Int.toNat i) = y := ⟨_, rfl⟩
      have rx4 := hI.con0 tq2 rfl (Int.toNat i)
      rw [ex4] at rx4
      refine to_ialdv ex4 (dat dk_X6_referenceAt 10 rfl) tq2 rfl (hI.lenN tq2) (by omega) (to_goto (dat dk_X6_referenceAt 11 rfl) rfl ?_)
      exact to_iret rfl (dat dk_X6_referenceAt 13 rfl) (ri_mk rx4 rfl)
abbrev Q_X6_tagAt (h : Hp) (m : Nat) (i : Int) : Option V → Hp → Nat → Nat → Prop := RI (fun x H => h = H)
set_option maxRecDepth 100000 in
theorem ct_X6_tagAt (l : Launch) (h : Hp) (hI : Inv h) (m : Nat) (hm : full h m) (i : Int) (hi : I32 i) : Ct l D_X6_tagAt 0 0 [.inr (.inr m), .inl i] h (Q_X6_tagAt h m i) := by
  refine ct_of pn_X6_tagAt (Nat.le_of_ble_eq_true rfl) ?_
  show To l E_X6_tagAt (0, [(0, .inr (.inr m)), (1, .inl i)], [], h, 0, 0) _
  refine to_iload_n (dat dk_X6_tagAt 0 rfl) rfl ?_
  refine to_iflt 30 (dat dk_X6_tagAt 1 rfl) rfl hi (fun c1 => ?_) (fun c1 => ?_)
  · skip
    refine to_iconst (dat dk_X6_tagAt 16 rfl) ?_
    exact to_iret rfl (dat dk_X6_tagAt 17 rfl) (ri_mk (by decide) rfl)
  · skip
    refine to_iload_n (dat dk_X6_tagAt 2 rfl) rfl (to_aload_np (dat dk_X6_tagAt 3 rfl) (by have := full.big hI hm; omega) rfl ?_)
    obtain ⟨x2, ex2⟩ : ∃ y : Int, h.2.2 m 7 = y := ⟨_, rfl⟩
    have rx2 := full.f7 hI hm
    rw [ex2] at rx2
    refine to_getIv (y := x2) ex2 g_c7_38 (dat dk_X6_tagAt 4 rfl) hm.1 ?_
    refine to_ige 30 (dat dk_X6_tagAt 5 rfl) rfl hi (by omega) (fun c3 => ?_) (fun c3 => ?_)
    · skip
      refine to_iconst (dat dk_X6_tagAt 16 rfl) ?_
      exact to_iret rfl (dat dk_X6_tagAt 17 rfl) (ri_mk (by decide) rfl)
    · skip
      refine to_iload_n (dat dk_X6_tagAt 6 rfl) rfl (to_aload_np (dat dk_X6_tagAt 7 rfl) (by have := full.big hI hm; omega) rfl ?_)
      obtain ⟨q4, nq4, eq4, pq4, tq4⟩ := full.r6 hI hm
      have lq4 := hI.lenM tq4
      refine to_getR q4 g_c7_9 (dat dk_X6_tagAt 8 rfl) hm.1 eq4 (to_alen (dat dk_X6_tagAt 9 rfl) tq4 (by decide) ?_)
      refine to_ige 30 (dat dk_X6_tagAt 10 rfl) rfl hi (by omega) (fun c5 => ?_) (fun c5 => ?_)
      · skip
        refine to_iconst (dat dk_X6_tagAt 16 rfl) ?_
        exact to_iret rfl (dat dk_X6_tagAt 17 rfl) (ri_mk (by decide) rfl)
      · skip
        refine to_aload_np (dat dk_X6_tagAt 11 rfl) (by have := full.big hI hm; omega) rfl (to_getR q4 g_c7_9 (dat dk_X6_tagAt 12 rfl) hm.1 eq4 (to_iload_n (dat dk_X6_tagAt 13 rfl) rfl ?_))
        obtain ⟨x6, ex6⟩ : ∃ y : Int, h.2.2 q4 (Int.toNat i) = y := ⟨_, rfl⟩
        have rx6 := hI.con0 tq4 rfl (Int.toNat i)
        rw [ex6] at rx6
        refine to_ialdv ex6 (dat dk_X6_tagAt 14 rfl) tq4 rfl (hI.lenN tq4) (by omega) (to_goto (dat dk_X6_tagAt 15 rfl) rfl ?_)
        exact to_iret rfl (dat dk_X6_tagAt 17 rfl) (ri_mk rx6 rfl)
abbrev Q_X6_tagPlace (h : Hp) (m : Nat) (n : Int) : Option V → Hp → Nat → Nat → Prop := RI (fun x H => h = H ∧ (0 ≤ x ∧ x ≤ H.2.2 m 7))
set_option maxRecDepth 100000 in
theorem ct_X6_tagPlace (l : Launch) (h : Hp) (hI : Inv h) (m : Nat) (hm : full h m) (n : Int) (hn : I32 n) : Ct l D_X6_tagPlace 0 0 [.inr (.inr m), .inl n] h (Q_X6_tagPlace h m n) := by
  refine ct_of pn_X6_tagPlace (Nat.le_of_ble_eq_true rfl) ?_
  show To l E_X6_tagPlace (0, [(0, .inr (.inr m)), (1, .inl n)], [], h, 0, 0) _
  refine to_iconst (dat dk_X6_tagPlace 0 rfl) (to_istore_n (L' := [(0, .inr (.inr m)), (1, .inl n), (2, .inl 0)]) (dat dk_X6_tagPlace 1 rfl) (by decide) rfl ?_)
  have lp2_n3 : ∀ (n3 : Nat) (y1 : Int), (I32 y1) → (0 ≤ y1) → (h.2.2 m 7 - y1 ≤ (n3 : Int)) → To l E_X6_tagPlace (2, [(0, .inr (.inr m)), (1, .inl n), (2, .inl y1)], [], h, 0, 0) (Q_X6_tagPlace h m n) := by
    intro n3
    induction n3 using Nat.strongRecOn with
    | _ n3 ihn3 =>
    intro y1 ry1 c2 c4
    refine to_iload_n (dat dk_X6_tagPlace 2 rfl) rfl (to_aload_np (dat dk_X6_tagPlace 3 rfl) (by have := full.big hI hm; omega) rfl ?_)
    obtain ⟨x5, ex5⟩ : ∃ y : Int, h.2.2 m 7 = y := ⟨_, rfl⟩
    have rx5 := full.f7 hI hm
    rw [ex5] at rx5
    refine to_getIv (y := x5) ex5 g_c7_38 (dat dk_X6_tagPlace 4 rfl) hm.1 ?_
    refine to_ige 37 (dat dk_X6_tagPlace 5 rfl) rfl ry1 (by omega) (fun c6 => ?_) (fun c6 => ?_)
    · skip
      refine to_aload_np (dat dk_X6_tagPlace 21 rfl) (by have := full.big hI hm; omega) rfl (to_getIv (y := x5) ex5 g_c7_38 (dat dk_X6_tagPlace 22 rfl) hm.1 ?_)
      exact to_iret rfl (dat dk_X6_tagPlace 23 rfl) (ri_mk (by omega) ⟨rfl, (show 0 ≤ x5 ∧ x5 ≤ h.2.2 m 7 by omega)⟩)
    · skip
      refine to_iload_n (dat dk_X6_tagPlace 6 rfl) rfl (to_aload_np (dat dk_X6_tagPlace 7 rfl) (by have := full.big hI hm; omega) rfl ?_)
      obtain ⟨q7, nq7, eq7, pq7, tq7⟩ := full.r6 hI hm
      have lq7 := hI.lenM tq7
      refine to_getR q7 g_c7_9 (dat dk_X6_tagPlace 8 rfl) hm.1 eq7 (to_alen (dat dk_X6_tagPlace 9 rfl) tq7 (by decide) ?_)
      refine to_ige 37 (dat dk_X6_tagPlace 10 rfl) rfl ry1 (by omega) (fun c8 => ?_) (fun c8 => ?_)
      · skip
        refine to_aload_np (dat dk_X6_tagPlace 21 rfl) (by have := full.big hI hm; omega) rfl (to_getIv (y := x5) ex5 g_c7_38 (dat dk_X6_tagPlace 22 rfl) hm.1 ?_)
        exact to_iret rfl (dat dk_X6_tagPlace 23 rfl) (ri_mk (by omega) ⟨rfl, (show 0 ≤ x5 ∧ x5 ≤ h.2.2 m 7 by omega)⟩)
      · skip
        refine to_aload_np (dat dk_X6_tagPlace 11 rfl) (by have := full.big hI hm; omega) rfl (to_getR q7 g_c7_9 (dat dk_X6_tagPlace 12 rfl) hm.1 eq7 (to_iload_n (dat dk_X6_tagPlace 13 rfl) rfl ?_))
        obtain ⟨x9, ex9⟩ : ∃ y : Int, h.2.2 q7 (Int.toNat y1) = y := ⟨_, rfl⟩
        have rx9 := hI.con0 tq7 rfl (Int.toNat y1)
        rw [ex9] at rx9
        refine to_ialdv ex9 (dat dk_X6_tagPlace 14 rfl) tq7 rfl (hI.lenN tq7) (by omega) (to_iload_n (dat dk_X6_tagPlace 15 rfl) rfl ?_)
        refine to_ine 31 (dat dk_X6_tagPlace 16 rfl) rfl rx9 hn (fun c10 => ?_) (fun c10 => ?_)
        · skip
          refine to_iinc (L' := [(0, .inr (.inr m)), (1, .inl n), (2, .inl (y1 + 1))]) (dat dk_X6_tagPlace 19 rfl) rfl (by decide) rfl (to_goto (dat dk_X6_tagPlace 20 rfl) rfl ?_)
          exact ihn3 (n3 - 1) (by omega) (y1 + 1) (by omega) (show 0 ≤ (y1 + 1) by omega) (show h.2.2 m 7 - (y1 + 1) ≤ ((n3 - 1 : Nat) : Int) by omega)
        · skip
          refine to_iload_n (dat dk_X6_tagPlace 17 rfl) rfl ?_
          exact to_iret rfl (dat dk_X6_tagPlace 18 rfl) (ri_mk ry1 ⟨rfl, (show 0 ≤ y1 ∧ y1 ≤ h.2.2 m 7 by omega)⟩)
  exact lp2_n3 (h.2.2 m 7 - (0 : Int)).toNat 0 (by decide) (show 0 ≤ (0 : Int) by omega) (by omega)
abbrev Q_X6_hasTag (h : Hp) (m : Nat) (n : Int) : Option V → Hp → Nat → Nat → Prop := RI (fun x H => h = H ∧ (x = 0 ∨ x = 1))
set_option maxRecDepth 100000 in
theorem ct_X6_hasTag (l : Launch) (h : Hp) (hI : Inv h) (m : Nat) (hm : full h m) (n : Int) (hn : I32 n) : Ct l D_X6_hasTag 1 22 [.inr (.inr m), .inl n] h (Q_X6_hasTag h m n) := by
  refine ct_of pn_X6_hasTag (Nat.le_of_ble_eq_true rfl) ?_
  show To l E_X6_hasTag (0, [(0, .inr (.inr m)), (1, .inl n)], [], h, 0, 0) _
  refine to_iload_n (dat dk_X6_hasTag 0 rfl) rfl (to_iconst (dat dk_X6_hasTag 1 rfl) ?_)
  refine to_ieq 21 (dat dk_X6_hasTag 2 rfl) rfl hn (by decide) (fun c1 => ?_) (fun c1 => ?_)
  · skip
    refine to_iconst (dat dk_X6_hasTag 11 rfl) ?_
    exact to_zret rfl (dat dk_X6_hasTag 12 rfl) (by decide) (ri_mk (by decide) ⟨rfl, (by decide)⟩)
  · skip
    refine to_aload_np (dat dk_X6_hasTag 3 rfl) (by have := full.big hI hm; omega) rfl (to_iload_n (dat dk_X6_hasTag 4 rfl) rfl ?_)
    obtain ⟨x2, ex2⟩ : ∃ y : Int, h.2.2 m 7 = y := ⟨_, rfl⟩
    have rx2 := full.f7 hI hm
    rw [ex2] at rx2
    refine to_cI ca_c7_41 (dat dk_X6_hasTag 5 rfl) (ct_X6_tagPlace l h hI m hm n hn) rfl ⟨_, _, rfl, hm.1⟩ rfl (fun x3 h4 rx3 p5 => ?_)
    obtain ⟨rfl, p5_0⟩ := p5
    refine to_aload_np (dat dk_X6_hasTag 6 rfl) (by have := full.big hI hm; omega) rfl (to_getIv (y := x2) ex2 g_c7_38 (dat dk_X6_hasTag 7 rfl) hm.1 ?_)
    refine to_ige 21 (dat dk_X6_hasTag 8 rfl) rfl rx3 (by omega) (fun c6 => ?_) (fun c6 => ?_)
    · skip
      refine to_iconst (dat dk_X6_hasTag 11 rfl) ?_
      exact to_zret rfl (dat dk_X6_hasTag 12 rfl) (by decide) (ri_mk (by decide) ⟨rfl, (by decide)⟩)
    · skip
      refine to_iconst (dat dk_X6_hasTag 9 rfl) (to_goto (dat dk_X6_hasTag 10 rfl) rfl ?_)
      exact to_zret rfl (dat dk_X6_hasTag 12 rfl) (by decide) (ri_mk (by decide) ⟨rfl, (by decide)⟩)
abbrev Q_X6_dropTag (h : Hp) (m : Nat) (n : Int) : Option V → Hp → Nat → Nat → Prop := RV (fun H => Inv H ∧ Fr [311, 337] h H)
set_option maxRecDepth 100000 in
theorem ct_X6_dropTag (l : Launch) (h : Hp) (hI : Inv h) (m : Nat) (hm : full h m) (n : Int) (hn : I32 n) : Ct l D_X6_dropTag 1 22 [.inr (.inr m), .inl n] h (Q_X6_dropTag h m n) := by
  refine ct_of pn_X6_dropTag (Nat.le_of_ble_eq_true rfl) ?_
  show To l E_X6_dropTag (0, [(0, .inr (.inr m)), (1, .inl n)], [], h, 0, 0) _
  obtain ⟨x1, ex1⟩ : ∃ y : Int, h.2.2 m 7 = y := ⟨_, rfl⟩
  have rx1 := full.f7 hI hm
  rw [ex1] at rx1
  refine to_aload_np (dat dk_X6_dropTag 0 rfl) (by have := full.big hI hm; omega) rfl (to_iload_n (dat dk_X6_dropTag 1 rfl) rfl ?_)
  refine to_cI ca_c7_41 (dat dk_X6_dropTag 2 rfl) (ct_X6_tagPlace l h hI m hm n hn) rfl ⟨_, _, rfl, hm.1⟩ rfl (fun x2 h3 rx2 p4 => ?_)
  obtain ⟨rfl, p4_0⟩ := p4
  refine to_istore_n (L' := [(0, .inr (.inr m)), (1, .inl n), (2, .inl x2)]) (dat dk_X6_dropTag 3 rfl) (by decide) rfl (to_iload_n (dat dk_X6_dropTag 4 rfl) rfl (to_aload_np (dat dk_X6_dropTag 5 rfl) (by have := full.big hI hm; omega) rfl (to_getIv (y := x1) ex1 g_c7_38 (dat dk_X6_dropTag 6 rfl) hm.1 ?_)))
  refine to_ilt 15 (dat dk_X6_dropTag 7 rfl) rfl rx2 (by omega) (fun c5 => ?_) (fun c5 => ?_)
  · skip
    refine to_iload_n (dat dk_X6_dropTag 9 rfl) rfl (to_istore_n (L' := [(0, .inr (.inr m)), (1, .inl n), (2, .inl x2), (3, .inl x2)]) (dat dk_X6_dropTag 10 rfl) (by decide) rfl ?_)
    have lp17_n10 : ∀ (n10 : Nat) (y6 : Int) (h7 : Hp), (I32 y6) → (Inv h7) → (Fr [311, 337] h h7) → (0 ≤ y6) → (y6 < h7.2.2 m 7) → (9 - y6 ≤ (n10 : Int)) → To l E_X6_dropTag (17, [(0, .inr (.inr m)), (1, .inl n), (2, .inl x2), (3, .inl y6)], [], h7, 0, 0) (Q_X6_dropTag h m n) := by
      intro n10
      induction n10 using Nat.strongRecOn with
      | _ n10 ihn10 =>
      intro y6 h7 ry6 Ih7 fh7 c8 c9 c11
      obtain ⟨x12, ex12⟩ : ∃ y : Int, h7.2.2 m 7 = y := ⟨_, rfl⟩
      have rx12 := full.f7 Ih7 (full.fr fh7 rfl hI hm)
      rw [ex12] at rx12
      refine to_iload_n (dat dk_X6_dropTag 11 rfl) rfl (to_iconst (dat dk_X6_dropTag 12 rfl) (to_iadd (dat dk_X6_dropTag 13 rfl) (to_aload_np (dat dk_X6_dropTag 14 rfl) (by have := full.big Ih7 (full.fr fh7 rfl hI hm); omega) rfl (to_getIv (y := x12) ex12 g_c7_38 (dat dk_X6_dropTag 15 rfl) (full.fr fh7 rfl hI hm).1 ?_))))
      refine to_ige 58 (dat dk_X6_dropTag 16 rfl) rfl (by omega) (by omega) (fun c13 => ?_) (fun c13 => ?_)
      · skip
        refine to_aload_np (dat dk_X6_dropTag 36 rfl) (by have := full.big Ih7 (full.fr fh7 rfl hI hm); omega) rfl (to_dup (dat dk_X6_dropTag 37 rfl) rfl (to_getIv (y := x12) ex12 g_c7_38 (dat dk_X6_dropTag 38 rfl) (full.fr fh7 rfl hI hm).1 (to_iconst (dat dk_X6_dropTag 39 rfl) (to_isub (dat dk_X6_dropTag 40 rfl) (to_putIw p_c7_38 (dat dk_X6_dropTag 41 rfl) (full.fr fh7 rfl hI hm).1 ?_)))))
        intro h16 wh16
        have I14 : Inv h16 := by rw [wh16]; exact Ih7.putM (x := (x12 - 1)) (full.fr fh7 rfl hI hm).1 (by omega)
        have f15 : Fr [311, 337] h h16 := by rw [wh16]; exact Fr.putM (x := (x12 - 1)) fh7 Ih7 (full.fr fh7 rfl hI hm).1 rfl
        have d17 : full h16 m := by rw [wh16]; exact full.put7 (full.fr fh7 rfl hI hm)
        exact to_vret rfl (dat dk_X6_dropTag 42 rfl) (rv_mk ⟨I14, f15⟩)
      · skip
        refine to_iload_n (dat dk_X6_dropTag 17 rfl) rfl (to_iconst (dat dk_X6_dropTag 18 rfl) (to_iadd (dat dk_X6_dropTag 19 rfl) (to_aload_np (dat dk_X6_dropTag 20 rfl) (by have := full.big Ih7 (full.fr fh7 rfl hI hm); omega) rfl ?_)))
        obtain ⟨q18, nq18, eq18, pq18, tq18⟩ := full.r6 Ih7 (full.fr fh7 rfl hI hm)
        have lq18 := Ih7.lenM tq18
        refine to_getR q18 g_c7_9 (dat dk_X6_dropTag 21 rfl) (full.fr fh7 rfl hI hm).1 eq18 (to_alen (dat dk_X6_dropTag 22 rfl) tq18 (by decide) ?_)
        refine to_ige 58 (dat dk_X6_dropTag 23 rfl) rfl (by omega) (by omega) (fun c19 => ?_) (fun c19 => ?_)
        · skip
          refine to_aload_np (dat dk_X6_dropTag 36 rfl) (by have := full.big Ih7 (full.fr fh7 rfl hI hm); omega) rfl (to_dup (dat dk_X6_dropTag 37 rfl) rfl (to_getIv (y := x12) ex12 g_c7_38 (dat dk_X6_dropTag 38 rfl) (full.fr fh7 rfl hI hm).1 (to_iconst (dat dk_X6_dropTag 39 rfl) (to_isub (dat dk_X6_dropTag 40 rfl) (to_putIw p_c7_38 (dat dk_X6_dropTag 41 rfl) (full.fr fh7 rfl hI hm).1 ?_)))))
          intro h22 wh22
          have I20 : Inv h22 := by rw [wh22]; exact Ih7.putM (x := (x12 - 1)) (full.fr fh7 rfl hI hm).1 (by omega)
          have f21 : Fr [311, 337] h h22 := by rw [wh22]; exact Fr.putM (x := (x12 - 1)) fh7 Ih7 (full.fr fh7 rfl hI hm).1 rfl
          have d23 : full h22 m := by rw [wh22]; exact full.put7 (full.fr fh7 rfl hI hm)
          have d24 : h22.2.1 q18 = some (.inl (10, nq18)) := by rw [wh22]; exact tq18
          exact to_vret rfl (dat dk_X6_dropTag 42 rfl) (rv_mk ⟨I20, f21⟩)
        · skip
          refine to_aload_np (dat dk_X6_dropTag 24 rfl) (by have := full.big Ih7 (full.fr fh7 rfl hI hm); omega) rfl (to_getR q18 g_c7_9 (dat dk_X6_dropTag 25 rfl) (full.fr fh7 rfl hI hm).1 eq18 (to_iload_n (dat dk_X6_dropTag 26 rfl) rfl (to_aload_np (dat dk_X6_dropTag 27 rfl) (by have := full.big Ih7 (full.fr fh7 rfl hI hm); omega) rfl (to_getR q18 g_c7_9 (dat dk_X6_dropTag 28 rfl) (full.fr fh7 rfl hI hm).1 eq18 (to_iload_n (dat dk_X6_dropTag 29 rfl) rfl (to_iconst (dat dk_X6_dropTag 30 rfl) (to_iadd (dat dk_X6_dropTag 31 rfl) ?_)))))))
          obtain ⟨x25, ex25⟩ : ∃ y : Int, h7.2.2 q18 (Int.toNat (y6 + 1)) = y := ⟨_, rfl⟩
          have rx25 := Ih7.con0 tq18 rfl (Int.toNat (y6 + 1))
          rw [ex25] at rx25
          refine to_ialdv ex25 (dat dk_X6_dropTag 32 rfl) tq18 rfl (Ih7.lenN tq18) (by omega) (to_iastw (dat dk_X6_dropTag 33 rfl) tq18 rfl (Ih7.lenN tq18) (by omega) ?_)
          intro h28 wh28
          have I26 : Inv h28 := by rw [wh28]; exact Ih7.putA (j := (Int.toNat y6)) (x := x25) tq18 (by decide +kernel) rfl rx25
          have f27 : Fr [311, 337] h h28 := by rw [wh28]; exact Fr.putA (j := (Int.toNat y6)) (x := x25) fh7 Ih7 tq18 (by decide +kernel)
          have d29 : full h28 m := by rw [wh28]; exact full.putA tq18 (full.fr fh7 rfl hI hm)
          have d30 : h28.2.1 q18 = some (.inl (10, nq18)) := by rw [wh28]; exact tq18
          refine to_iinc (L' := [(0, .inr (.inr m)), (1, .inl n), (2, .inl x2), (3, .inl (y6 + 1))]) (dat dk_X6_dropTag 34 rfl) rfl (by decide) rfl (to_goto (dat dk_X6_dropTag 35 rfl) rfl ?_)
          have e31 : h28.2.2 m 7 = x12 := (by rw [wh28]; exact (wr_ne (ne_ty (full.fr fh7 rfl hI hm).1 tq18 (by intro e; cases e))).trans ex12)
          exact ihn10 (n10 - 1) (by omega) (y6 + 1) h28 (by omega) I26 f27 (show 0 ≤ (y6 + 1) by omega) (show (y6 + 1) < h28.2.2 m 7 by omega) (show 9 - (y6 + 1) ≤ ((n10 - 1 : Nat) : Int) by omega)
    exact lp17_n10 (9 - x2).toNat x2 h rx2 hI (Fr.rf _ _) (show 0 ≤ x2 by omega) (show x2 < h.2.2 m 7 by omega) (by omega)
  · skip
    exact to_vret rfl (dat dk_X6_dropTag 8 rfl) (rv_mk ⟨hI, (Fr.rf _ _)⟩)
