/-! Contracts, by program. -/
abbrev Q_J7_fill_53178_v47 (h : Hp) (v : Int) : Option V → Hp → Nat → Nat → Prop := RV (fun H => Inv H ∧ Fr [47] h H)
set_option maxRecDepth 100000 in
theorem ct_J7_fill_53178_v47 (l : Launch) (h : Hp) (hI : Inv h) (v : Int) (hv : I32 v) (g0 : 0 ≤ v ∧ v ≤ 1201) : Ct l D_J7_fill_53178 0 0 [.inr (.inr 47), .inl v] h (Q_J7_fill_53178_v47 h v) := by
  refine ct_of pn_J7_fill_53178 (Nat.le_of_ble_eq_true rfl) ?_
  show To l E_J7_fill_53178 (0, [(0, .inr (.inr 47)), (1, .inl v)], [], h, 0, 0) _
  refine to_iconst (dat dk_J7_fill_53178 0 rfl) (to_istore_n (L' := [(0, .inr (.inr 47)), (1, .inl v), (2, .inl 0)]) (dat dk_J7_fill_53178 1 rfl) (by decide) rfl (to_aload_n (dat dk_J7_fill_53178 2 rfl) rfl (to_alen (dat dk_J7_fill_53178 3 rfl) (hI.atS rfl) (by decide) (to_istore_n (L' := [(0, .inr (.inr 47)), (1, .inl v), (2, .inl 0), (3, .inl 9)]) (dat dk_J7_fill_53178 4 rfl) (by decide) rfl ?_))))
  have lp5_n4 : ∀ (n4 : Nat) (y1 : Int) (h2 : Hp), (I32 y1) → (Inv h2) → (Fr [47] h h2) → (0 ≤ y1) → (9 - y1 ≤ (n4 : Int)) → To l E_J7_fill_53178 (5, [(0, .inr (.inr 47)), (1, .inl v), (2, .inl y1), (3, .inl 9)], [], h2, 0, 0) (Q_J7_fill_53178_v47 h v) := by
    intro n4
    induction n4 using Nat.strongRecOn with
    | _ n4 ihn4 =>
    intro y1 h2 ry1 Ih2 fh2 c3 c5
    refine to_iload_n (dat dk_J7_fill_53178 5 rfl) rfl (to_iload_n (dat dk_J7_fill_53178 6 rfl) rfl ?_)
    refine to_ige 20 (dat dk_J7_fill_53178 7 rfl) rfl ry1 (by decide) (fun c6 => ?_) (fun c6 => ?_)
    · skip
      exact to_vret rfl (dat dk_J7_fill_53178 14 rfl) (rv_mk ⟨Ih2, fh2⟩)
    · skip
      refine to_aload_n (dat dk_J7_fill_53178 8 rfl) rfl (to_iload_n (dat dk_J7_fill_53178 9 rfl) rfl (to_iload_n (dat dk_J7_fill_53178 10 rfl) rfl (to_iastw (dat dk_J7_fill_53178 11 rfl) (Ih2.atS rfl) rfl (by decide) (by omega) ?_)))
      intro h9 wh9
      have I7 : Inv h9 := by rw [wh9]; exact Ih2.put (a := 47) (j := (Int.toNat y1)) (x := v) (0) (1201) rfl rfl (show (0 : Int) ≤ v ∧ v ≤ 1201 by omega)
      have f8 : Fr [47] h h9 := by rw [wh9]; exact Fr.putF (a := 47) (j := (Int.toNat y1)) (x := v) fh2 rfl
      refine to_iinc (L' := [(0, .inr (.inr 47)), (1, .inl v), (2, .inl (y1 + 1)), (3, .inl 9)]) (dat dk_J7_fill_53178 12 rfl) rfl (by decide) rfl (to_goto (dat dk_J7_fill_53178 13 rfl) rfl ?_)
      exact ihn4 (n4 - 1) (by omega) (y1 + 1) h9 (by omega) I7 f8 (show 0 ≤ (y1 + 1) by omega) (show 9 - (y1 + 1) ≤ ((n4 - 1 : Nat) : Int) by omega)
  exact lp5_n4 (9 - (0 : Int)).toNat 0 h (by decide) hI (Fr.rf _ _) (show 0 ≤ (0 : Int) by omega) (by omega)
abbrev Q_J7_fill_53178_v48 (h : Hp) (v : Int) : Option V → Hp → Nat → Nat → Prop := RV (fun H => Inv H ∧ Fr [48] h H)
set_option maxRecDepth 100000 in
theorem ct_J7_fill_53178_v48 (l : Launch) (h : Hp) (hI : Inv h) (v : Int) (hv : I32 v) (g0 : 0 ≤ v ∧ v ≤ 1201) : Ct l D_J7_fill_53178 0 0 [.inr (.inr 48), .inl v] h (Q_J7_fill_53178_v48 h v) := by
  refine ct_of pn_J7_fill_53178 (Nat.le_of_ble_eq_true rfl) ?_
  show To l E_J7_fill_53178 (0, [(0, .inr (.inr 48)), (1, .inl v)], [], h, 0, 0) _
  refine to_iconst (dat dk_J7_fill_53178 0 rfl) (to_istore_n (L' := [(0, .inr (.inr 48)), (1, .inl v), (2, .inl 0)]) (dat dk_J7_fill_53178 1 rfl) (by decide) rfl (to_aload_n (dat dk_J7_fill_53178 2 rfl) rfl (to_alen (dat dk_J7_fill_53178 3 rfl) (hI.atS rfl) (by decide) (to_istore_n (L' := [(0, .inr (.inr 48)), (1, .inl v), (2, .inl 0), (3, .inl 9)]) (dat dk_J7_fill_53178 4 rfl) (by decide) rfl ?_))))
  have lp5_n4 : ∀ (n4 : Nat) (y1 : Int) (h2 : Hp), (I32 y1) → (Inv h2) → (Fr [48] h h2) → (0 ≤ y1) → (9 - y1 ≤ (n4 : Int)) → To l E_J7_fill_53178 (5, [(0, .inr (.inr 48)), (1, .inl v), (2, .inl y1), (3, .inl 9)], [], h2, 0, 0) (Q_J7_fill_53178_v48 h v) := by
    intro n4
    induction n4 using Nat.strongRecOn with
    | _ n4 ihn4 =>
    intro y1 h2 ry1 Ih2 fh2 c3 c5
    refine to_iload_n (dat dk_J7_fill_53178 5 rfl) rfl (to_iload_n (dat dk_J7_fill_53178 6 rfl) rfl ?_)
    refine to_ige 20 (dat dk_J7_fill_53178 7 rfl) rfl ry1 (by decide) (fun c6 => ?_) (fun c6 => ?_)
    · skip
      exact to_vret rfl (dat dk_J7_fill_53178 14 rfl) (rv_mk ⟨Ih2, fh2⟩)
    · skip
      refine to_aload_n (dat dk_J7_fill_53178 8 rfl) rfl (to_iload_n (dat dk_J7_fill_53178 9 rfl) rfl (to_iload_n (dat dk_J7_fill_53178 10 rfl) rfl (to_iastw (dat dk_J7_fill_53178 11 rfl) (Ih2.atS rfl) rfl (by decide) (by omega) ?_)))
      intro h9 wh9
      have I7 : Inv h9 := by rw [wh9]; exact Ih2.put (a := 48) (j := (Int.toNat y1)) (x := v) (0) (1201) rfl rfl (show (0 : Int) ≤ v ∧ v ≤ 1201 by omega)
      have f8 : Fr [48] h h9 := by rw [wh9]; exact Fr.putF (a := 48) (j := (Int.toNat y1)) (x := v) fh2 rfl
      refine to_iinc (L' := [(0, .inr (.inr 48)), (1, .inl v), (2, .inl (y1 + 1)), (3, .inl 9)]) (dat dk_J7_fill_53178 12 rfl) rfl (by decide) rfl (to_goto (dat dk_J7_fill_53178 13 rfl) rfl ?_)
      exact ihn4 (n4 - 1) (by omega) (y1 + 1) h9 (by omega) I7 f8 (show 0 ≤ (y1 + 1) by omega) (show 9 - (y1 + 1) ≤ ((n4 - 1 : Nat) : Int) by omega)
  exact lp5_n4 (9 - (0 : Int)).toNat 0 h (by decide) hI (Fr.rf _ _) (show 0 ≤ (0 : Int) by omega) (by omega)
abbrev Q_X4_colonOf (h : Hp) (f : Int) (t : Int) : Option V → Hp → Nat → Nat → Prop := RI (fun x H => h = H ∧ (x = -1 ∨ (f < x ∧ x < t)))
set_option maxRecDepth 100000 in
theorem ct_X4_colonOf (l : Launch) (h : Hp) (hI : Inv h) (f : Int) (hf : I32 f) (t : Int) (ht : I32 t) : Ct l D_X4_colonOf 2 40 [.inr (.inr 46), .inl f, .inl t] h (Q_X4_colonOf h f t) := by
  refine ct_of pn_X4_colonOf (Nat.le_of_ble_eq_true rfl) ?_
  show To l E_X4_colonOf (0, [(0, .inr (.inr 46)), (1, .inl f), (2, .inl t)], [], h, 0, 0) _
  refine to_iload_n (dat dk_X4_colonOf 0 rfl) rfl (to_istore_n (L' := [(0, .inr (.inr 46)), (1, .inl f), (2, .inl t), (3, .inl f)]) (dat dk_X4_colonOf 1 rfl) (by decide) rfl ?_)
  have lp2_n3 : ∀ (n3 : Nat) (y1 : Int), (I32 y1) → (f ≤ y1) → (t - y1 ≤ (n3 : Int)) → To l E_X4_colonOf (2, [(0, .inr (.inr 46)), (1, .inl f), (2, .inl t), (3, .inl y1)], [], h, 0, 0) (Q_X4_colonOf h f t) := by
    intro n3
    induction n3 using Nat.strongRecOn with
    | _ n3 ihn3 =>
    intro y1 ry1 c2 c4
    refine to_iload_n (dat dk_X4_colonOf 2 rfl) rfl (to_iload_n (dat dk_X4_colonOf 3 rfl) rfl ?_)
    refine to_ige 27 (dat dk_X4_colonOf 4 rfl) rfl ry1 ht (fun c5 => ?_) (fun c5 => ?_)
    · skip
      refine to_iload_n (dat dk_X4_colonOf 13 rfl) rfl (to_iload_n (dat dk_X4_colonOf 14 rfl) rfl ?_)
      refine to_ile 54 (dat dk_X4_colonOf 15 rfl) rfl ry1 hf (fun c6 => ?_) (fun c6 => ?_)
      · skip
        refine to_iconst (dat dk_X4_colonOf 27 rfl) ?_
        exact to_iret rfl (dat dk_X4_colonOf 28 rfl) (ri_mk (by decide) ⟨rfl, (show (-1 : Int) = -1 ∨ (f < (-1 : Int) ∧ (-1 : Int) < t) by omega)⟩)
      · skip
        refine to_iload_n (dat dk_X4_colonOf 16 rfl) rfl (to_iload_n (dat dk_X4_colonOf 17 rfl) rfl ?_)
        refine to_ige 54 (dat dk_X4_colonOf 18 rfl) rfl ry1 ht (fun c7 => ?_) (fun c7 => ?_)
        · skip
          refine to_iconst (dat dk_X4_colonOf 27 rfl) ?_
          exact to_iret rfl (dat dk_X4_colonOf 28 rfl) (ri_mk (by decide) ⟨rfl, (show (-1 : Int) = -1 ∨ (f < (-1 : Int) ∧ (-1 : Int) < t) by omega)⟩)
        · skip
          refine to_aload_n (dat dk_X4_colonOf 19 rfl) rfl (to_getR 4 g_c5_18 (dat dk_X4_colonOf 20 rfl) (hI.atS rfl) (hI.atE rfl) (to_iload_n (dat dk_X4_colonOf 21 rfl) rfl ?_))
          obtain ⟨x8, ex8⟩ : ∃ y : Int, h.2.2 4 1 = y := ⟨_, rfl⟩
          have rx8 := hI.atR (a := 4) (j := 1) rfl
          rw [ex8] at rx8
          refine to_cI ca_c5_60 (dat dk_X4_colonOf 22 rfl) (ct_X1_byteAt l h hI 4 rfl y1 ry1) rfl ⟨_, _, rfl, (hI.atS rfl)⟩ rfl (fun x9 h10 rx9 p11 => ?_)
          obtain ⟨rfl, p11_0⟩ := p11
          refine to_bipush (dat dk_X4_colonOf 23 rfl) (by decide) ?_
          refine to_ine 54 (dat dk_X4_colonOf 24 rfl) rfl rx9 (by decide) (fun c12 => ?_) (fun c12 => ?_)
          · skip
            refine to_iconst (dat dk_X4_colonOf 27 rfl) ?_
            exact to_iret rfl (dat dk_X4_colonOf 28 rfl) (ri_mk (by decide) ⟨rfl, (show (-1 : Int) = -1 ∨ (f < (-1 : Int) ∧ (-1 : Int) < t) by omega)⟩)
          · skip
            refine to_iload_n (dat dk_X4_colonOf 25 rfl) rfl (to_goto (dat dk_X4_colonOf 26 rfl) rfl ?_)
            exact to_iret rfl (dat dk_X4_colonOf 28 rfl) (ri_mk ry1 ⟨rfl, (show y1 = -1 ∨ (f < y1 ∧ y1 < t) by omega)⟩)
    · skip
      refine to_aload_n (dat dk_X4_colonOf 5 rfl) rfl (to_getR 4 g_c5_18 (dat dk_X4_colonOf 6 rfl) (hI.atS rfl) (hI.atE rfl) (to_iload_n (dat dk_X4_colonOf 7 rfl) rfl ?_))
      obtain ⟨x13, ex13⟩ : ∃ y : Int, h.2.2 4 1 = y := ⟨_, rfl⟩
      have rx13 := hI.atR (a := 4) (j := 1) rfl
      rw [ex13] at rx13
      refine to_cI ca_c5_60 (dat dk_X4_colonOf 8 rfl) (ct_X1_byteAt l h hI 4 rfl y1 ry1) rfl ⟨_, _, rfl, (hI.atS rfl)⟩ rfl (fun x14 h15 rx14 p16 => ?_)
      obtain ⟨rfl, p16_0⟩ := p16
      refine to_cI ca_c5_87 (dat dk_X4_colonOf 9 rfl) (ct_X9_isOfName l h hI x14 rx14) rfl trivial rfl (fun x17 h18 rx17 p19 => ?_)
      obtain ⟨rfl, zx17⟩ := p19
      refine to_ifeq 27 (dat dk_X4_colonOf 10 rfl) rfl rx17 (fun c20 => ?_) (fun c20 => ?_)
      · skip
        refine to_iload_n (dat dk_X4_colonOf 13 rfl) rfl (to_iload_n (dat dk_X4_colonOf 14 rfl) rfl ?_)
        refine to_ile 54 (dat dk_X4_colonOf 15 rfl) rfl ry1 hf (fun c21 => ?_) (fun c21 => ?_)
        · skip
          refine to_iconst (dat dk_X4_colonOf 27 rfl) ?_
          exact to_iret rfl (dat dk_X4_colonOf 28 rfl) (ri_mk (by decide) ⟨rfl, (show (-1 : Int) = -1 ∨ (f < (-1 : Int) ∧ (-1 : Int) < t) by omega)⟩)
        · skip
          refine to_iload_n (dat dk_X4_colonOf 16 rfl) rfl (to_iload_n (dat dk_X4_colonOf 17 rfl) rfl ?_)
          refine to_ige 54 (dat dk_X4_colonOf 18 rfl) rfl ry1 ht (fun c22 => ?_) (fun c22 => ?_)
          · skip
            refine to_iconst (dat dk_X4_colonOf 27 rfl) ?_
            exact to_iret rfl (dat dk_X4_colonOf 28 rfl) (ri_mk (by decide) ⟨rfl, (show (-1 : Int) = -1 ∨ (f < (-1 : Int) ∧ (-1 : Int) < t) by omega)⟩)
          · skip
            refine to_aload_n (dat dk_X4_colonOf 19 rfl) rfl (to_getR 4 g_c5_18 (dat dk_X4_colonOf 20 rfl) (hI.atS rfl) (hI.atE rfl) (to_iload_n (dat dk_X4_colonOf 21 rfl) rfl ?_))
            refine to_cI ca_c5_60 (dat dk_X4_colonOf 22 rfl) (ct_X1_byteAt l h hI 4 rfl y1 ry1) rfl ⟨_, _, rfl, (hI.atS rfl)⟩ rfl (fun x23 h24 rx23 p25 => ?_)
            obtain ⟨rfl, p25_0⟩ := p25
            refine to_bipush (dat dk_X4_colonOf 23 rfl) (by decide) ?_
            refine to_ine 54 (dat dk_X4_colonOf 24 rfl) rfl rx23 (by decide) (fun c26 => ?_) (fun c26 => ?_)
            · skip
              refine to_iconst (dat dk_X4_colonOf 27 rfl) ?_
              exact to_iret rfl (dat dk_X4_colonOf 28 rfl) (ri_mk (by decide) ⟨rfl, (show (-1 : Int) = -1 ∨ (f < (-1 : Int) ∧ (-1 : Int) < t) by omega)⟩)
            · skip
              refine to_iload_n (dat dk_X4_colonOf 25 rfl) rfl (to_goto (dat dk_X4_colonOf 26 rfl) rfl ?_)
              exact to_iret rfl (dat dk_X4_colonOf 28 rfl) (ri_mk ry1 ⟨rfl, (show y1 = -1 ∨ (f < y1 ∧ y1 < t) by omega)⟩)
      · skip
        refine to_iinc (L' := [(0, .inr (.inr 46)), (1, .inl f), (2, .inl t), (3, .inl (y1 + 1))]) (dat dk_X4_colonOf 11 rfl) rfl (by decide) rfl (to_goto (dat dk_X4_colonOf 12 rfl) rfl ?_)
        exact ihn3 (n3 - 1) (by omega) (y1 + 1) (by omega) (show f ≤ (y1 + 1) by omega) (show t - (y1 + 1) ≤ ((n3 - 1 : Nat) : Int) by omega)
  exact lp2_n3 (t - f).toNat f hf (show f ≤ f by omega) (by omega)
abbrev Q_X4_nameText (h : Hp) (n : Int) : Option V → Hp → Nat → Nat → Prop := RR (fun x H => h = H ∧ (∃ n : Nat, (x, n) ∈ strL))
set_option maxRecDepth 100000 in
theorem ct_X4_nameText (l : Launch) (h : Hp) (hI : Inv h) (n : Int) (hn : I32 n) : Ct l D_X4_nameText 0 0 [.inl n] h (Q_X4_nameText h n) := by
  refine ct_of pn_X4_nameText (Nat.le_of_ble_eq_true rfl) ?_
  show To l E_X4_nameText (0, [(0, .inl n)], [], h, 0, 0) _
  refine to_iload_n (dat dk_X4_nameText 0 rfl) rfl ?_
  refine to_table (d := 72) (ts := [48, 51, 54, 57, 60, 63, 66, 69]) (dat dk_X4_nameText 1 rfl) rfl rfl rfl hn (fun c1 => ?_) ⟨fun c1 => ?_, fun c1 => ?_, fun c1 => ?_, fun c1 => ?_, fun c1 => ?_, fun c1 => ?_, fun c1 => ?_, fun c1 => ?_, trivial⟩
  · skip
    refine to_ldcS (q := 135) (tx := "content-transfer-encoding") (List.mem_of_getElem? (i := 17) rfl) (dat dk_X4_nameText 18 rfl) ?_
    exact to_aret rfl (Or.inl ⟨_, rfl⟩) (dat dk_X4_nameText 19 rfl) (rr_mk ⟨rfl, ⟨25, (List.mem_of_getElem? (i := 17) rfl)⟩⟩)
  · skip
    refine to_ldcS (q := 119) (tx := "from") (List.mem_of_getElem? (i := 9) rfl) (dat dk_X4_nameText 2 rfl) ?_
    exact to_aret rfl (Or.inl ⟨_, rfl⟩) (dat dk_X4_nameText 3 rfl) (rr_mk ⟨rfl, ⟨4, (List.mem_of_getElem? (i := 9) rfl)⟩⟩)
  · skip
    refine to_ldcS (q := 121) (tx := "to") (List.mem_of_getElem? (i := 10) rfl) (dat dk_X4_nameText 4 rfl) ?_
    exact to_aret rfl (Or.inl ⟨_, rfl⟩) (dat dk_X4_nameText 5 rfl) (rr_mk ⟨rfl, ⟨2, (List.mem_of_getElem? (i := 10) rfl)⟩⟩)
  · skip
    refine to_ldcS (q := 123) (tx := "subject") (List.mem_of_getElem? (i := 11) rfl) (dat dk_X4_nameText 6 rfl) ?_
    exact to_aret rfl (Or.inl ⟨_, rfl⟩) (dat dk_X4_nameText 7 rfl) (rr_mk ⟨rfl, ⟨7, (List.mem_of_getElem? (i := 11) rfl)⟩⟩)
  · skip
    refine to_ldcS (q := 125) (tx := "date") (List.mem_of_getElem? (i := 12) rfl) (dat dk_X4_nameText 8 rfl) ?_
    exact to_aret rfl (Or.inl ⟨_, rfl⟩) (dat dk_X4_nameText 9 rfl) (rr_mk ⟨rfl, ⟨4, (List.mem_of_getElem? (i := 12) rfl)⟩⟩)
  · skip
    refine to_ldcS (q := 127) (tx := "message-id") (List.mem_of_getElem? (i := 13) rfl) (dat dk_X4_nameText 10 rfl) ?_
    exact to_aret rfl (Or.inl ⟨_, rfl⟩) (dat dk_X4_nameText 11 rfl) (rr_mk ⟨rfl, ⟨10, (List.mem_of_getElem? (i := 13) rfl)⟩⟩)
  · skip
    refine to_ldcS (q := 129) (tx := "references") (List.mem_of_getElem? (i := 14) rfl) (dat dk_X4_nameText 12 rfl) ?_
    exact to_aret rfl (Or.inl ⟨_, rfl⟩) (dat dk_X4_nameText 13 rfl) (rr_mk ⟨rfl, ⟨10, (List.mem_of_getElem? (i := 14) rfl)⟩⟩)
  · skip
    refine to_ldcS (q := 131) (tx := "in-reply-to") (List.mem_of_getElem? (i := 15) rfl) (dat dk_X4_nameText 14 rfl) ?_
    exact to_aret rfl (Or.inl ⟨_, rfl⟩) (dat dk_X4_nameText 15 rfl) (rr_mk ⟨rfl, ⟨11, (List.mem_of_getElem? (i := 15) rfl)⟩⟩)
  · skip
    refine to_ldcS (q := 133) (tx := "content-type") (List.mem_of_getElem? (i := 16) rfl) (dat dk_X4_nameText 16 rfl) ?_
    exact to_aret rfl (Or.inl ⟨_, rfl⟩) (dat dk_X4_nameText 17 rfl) (rr_mk ⟨rfl, ⟨12, (List.mem_of_getElem? (i := 16) rfl)⟩⟩)
abbrev Q_X4_nameOf (h : Hp) (f : Int) (c : Int) : Option V → Hp → Nat → Nat → Prop := RI (fun x H => h = H)
set_option maxRecDepth 100000 in
theorem ct_X4_nameOf (l : Launch) (h : Hp) (hI : Inv h) (f : Int) (hf : I32 f) (c : Int) (hc : I32 c) (g0 : 0 ≤ f ∧ f ≤ 1201) (g1 : 0 ≤ c ∧ c ≤ 1201) : Ct l D_X4_nameOf 6 131 [.inr (.inr 46), .inl f, .inl c] h (Q_X4_nameOf h f c) := by
  refine ct_of pn_X4_nameOf (Nat.le_of_ble_eq_true rfl) ?_
  show To l E_X4_nameOf (0, [(0, .inr (.inr 46)), (1, .inl f), (2, .inl c)], [], h, 0, 0) _
  refine to_iconst (dat dk_X4_nameOf 0 rfl) (to_istore_n (L' := [(0, .inr (.inr 46)), (1, .inl f), (2, .inl c), (3, .inl 0)]) (dat dk_X4_nameOf 1 rfl) (by decide) rfl ?_)
  have lp2_n3 : ∀ (n3 : Nat) (y1 : Int), (I32 y1) → (0 ≤ y1) → (9 - y1 ≤ (n3 : Int)) → To l E_X4_nameOf (2, [(0, .inr (.inr 46)), (1, .inl f), (2, .inl c), (3, .inl y1)], [], h, 0, 0) (Q_X4_nameOf h f c) := by
    intro n3
    induction n3 using Nat.strongRecOn with
    | _ n3 ihn3 =>
    intro y1 ry1 c2 c4
    refine to_iload_n (dat dk_X4_nameOf 2 rfl) rfl (to_bipush (dat dk_X4_nameOf 3 rfl) (by decide) ?_)
    refine to_ige 60 (dat dk_X4_nameOf 4 rfl) rfl ry1 (by decide) (fun c5 => ?_) (fun c5 => ?_)
    · skip
      refine to_iconst (dat dk_X4_nameOf 32 rfl) ?_
      exact to_iret rfl (dat dk_X4_nameOf 33 rfl) (ri_mk (by decide) rfl)
    · skip
      refine to_iload_n (dat dk_X4_nameOf 5 rfl) rfl ?_
      refine to_cR ca_c5_90 (dat dk_X4_nameOf 6 rfl) (ct_X4_nameText l h hI y1 ry1) rfl trivial rfl (fun x6 h7 p8 => ?_)
      obtain ⟨rfl, p8_0⟩ := p8
      obtain ⟨nx6, mx6⟩ := p8_0
      have lx6 := str_n mx6
      refine to_astore (L' := [(0, .inr (.inr 46)), (1, .inl f), (2, .inl c), (3, .inl y1), (4, .inr (.inr x6))]) (dat dk_X4_nameOf 7 rfl) (str_pos mx6) (by decide) rfl (to_iload_n (dat dk_X4_nameOf 8 rfl) rfl (to_iload_n (dat dk_X4_nameOf 9 rfl) rfl (to_isub (dat dk_X4_nameOf 10 rfl) (to_aload_p (dat dk_X4_nameOf 11 rfl) (str_pos mx6) rfl ?_))))
      refine to_cI ca_c5_94 (dat dk_X4_nameOf 12 rfl) (ct_J0_length_8abf5 l h hI x6 nx6 mx6) rfl (recvS mx6) rfl (fun x9 h10 rx9 p11 => ?_)
      obtain ⟨rfl, p11_0⟩ := p11
      refine to_ine 54 (dat dk_X4_nameOf 13 rfl) rfl (by omega) rx9 (fun c12 => ?_) (fun c12 => ?_)
      · skip
        refine to_iinc (L' := [(0, .inr (.inr 46)), (1, .inl f), (2, .inl c), (3, .inl (y1 + 1)), (4, .inr (.inr x6))]) (dat dk_X4_nameOf 30 rfl) rfl (by decide) rfl (to_goto (dat dk_X4_nameOf 31 rfl) rfl ?_)
        refine to_pick [0, 1, 2, 3] rfl ?_
        exact ihn3 (n3 - 1) (by omega) (y1 + 1) (by omega) (show 0 ≤ (y1 + 1) by omega) (show 9 - (y1 + 1) ≤ ((n3 - 1 : Nat) : Int) by omega)
      · skip
        refine to_aload_n (dat dk_X4_nameOf 14 rfl) rfl (to_getR 4 g_c5_18 (dat dk_X4_nameOf 15 rfl) (hI.atS rfl) (hI.atE rfl) (to_iload_n (dat dk_X4_nameOf 16 rfl) rfl (to_aload_p (dat dk_X4_nameOf 17 rfl) (str_pos mx6) rfl (to_iconst (dat dk_X4_nameOf 18 rfl) ?_))))
        refine to_cI ca_c5_99 (dat dk_X4_nameOf 19 rfl) (ct_X1_hasAt l h hI 4 rfl f hf x6 nx6 mx6 1 (by decide)) rfl ⟨_, _, rfl, (hI.atS rfl)⟩ rfl (fun x13 h14 rx13 p15 => ?_)
        obtain ⟨rfl, zx13⟩ := p15
        refine to_ifeq 54 (dat dk_X4_nameOf 20 rfl) rfl rx13 (fun c16 => ?_) (fun c16 => ?_)
        · skip
          refine to_iinc (L' := [(0, .inr (.inr 46)), (1, .inl f), (2, .inl c), (3, .inl (y1 + 1)), (4, .inr (.inr x6))]) (dat dk_X4_nameOf 30 rfl) rfl (by decide) rfl (to_goto (dat dk_X4_nameOf 31 rfl) rfl ?_)
          refine to_pick [0, 1, 2, 3] rfl ?_
          exact ihn3 (n3 - 1) (by omega) (y1 + 1) (by omega) (show 0 ≤ (y1 + 1) by omega) (show 9 - (y1 + 1) ≤ ((n3 - 1 : Nat) : Int) by omega)
        · skip
          refine to_aload_n (dat dk_X4_nameOf 21 rfl) rfl (to_getR 47 g_c5_11 (dat dk_X4_nameOf 22 rfl) (hI.atS rfl) (hI.atE rfl) (to_iload_n (dat dk_X4_nameOf 23 rfl) rfl ?_))
          obtain ⟨x17, ex17⟩ : ∃ y : Int, h.2.2 47 (Int.toNat y1) = y := ⟨_, rfl⟩
          have rx17 := hI.atR (a := 47) (j := Int.toNat y1) rfl
          rw [ex17] at rx17
          refine to_ialdv ex17 (dat dk_X4_nameOf 24 rfl) (hI.atS rfl) rfl (by decide) (by omega) ?_
          refine to_ifne 52 (dat dk_X4_nameOf 25 rfl) rfl (by omega) (fun c18 => ?_) (fun c18 => ?_)
          · skip
            refine to_iconst (dat dk_X4_nameOf 28 rfl) ?_
            exact to_iret rfl (dat dk_X4_nameOf 29 rfl) (ri_mk (by decide) rfl)
          · skip
            refine to_iload_n (dat dk_X4_nameOf 26 rfl) rfl (to_goto (dat dk_X4_nameOf 27 rfl) rfl ?_)
            exact to_iret rfl (dat dk_X4_nameOf 29 rfl) (ri_mk ry1 rfl)
  exact lp2_n3 (9 - (0 : Int)).toNat 0 (by decide) (show 0 ≤ (0 : Int) by omega) (by omega)
abbrev Q_X4_startValue (h : Hp) (n : Int) (v : Int) : Option V → Hp → Nat → Nat → Prop := RV (fun H => Inv H ∧ Fr [47] h H)
set_option maxRecDepth 100000 in
theorem ct_X4_startValue (l : Launch) (h : Hp) (hI : Inv h) (n : Int) (hn : I32 n) (v : Int) (hv : I32 v) (g0 : 0 ≤ v ∧ v ≤ 1201) : Ct l D_X4_startValue 0 0 [.inr (.inr 46), .inl n, .inl v] h (Q_X4_startValue h n v) := by
  refine ct_of pn_X4_startValue (Nat.le_of_ble_eq_true rfl) ?_
  show To l E_X4_startValue (0, [(0, .inr (.inr 46)), (1, .inl n), (2, .inl v)], [], h, 0, 0) _
  refine to_iload_n (dat dk_X4_startValue 0 rfl) rfl ?_
  refine to_iflt 17 (dat dk_X4_startValue 1 rfl) rfl hn (fun c1 => ?_) (fun c1 => ?_)
  · skip
    exact to_vret rfl (dat dk_X4_startValue 10 rfl) (rv_mk ⟨hI, (Fr.rf _ _)⟩)
  · skip
    refine to_iload_n (dat dk_X4_startValue 2 rfl) rfl (to_bipush (dat dk_X4_startValue 3 rfl) (by decide) ?_)
    refine to_ige 17 (dat dk_X4_startValue 4 rfl) rfl hn (by decide) (fun c2 => ?_) (fun c2 => ?_)
    · skip
      exact to_vret rfl (dat dk_X4_startValue 10 rfl) (rv_mk ⟨hI, (Fr.rf _ _)⟩)
    · skip
      refine to_aload_n (dat dk_X4_startValue 5 rfl) rfl (to_getR 47 g_c5_11 (dat dk_X4_startValue 6 rfl) (hI.atS rfl) (hI.atE rfl) (to_iload_n (dat dk_X4_startValue 7 rfl) rfl (to_iload_n (dat dk_X4_startValue 8 rfl) rfl (to_iastw (dat dk_X4_startValue 9 rfl) (hI.atS rfl) rfl (by decide) (by omega) ?_))))
      intro h5 wh5
      have I3 : Inv h5 := by rw [wh5]; exact hI.put (a := 47) (j := (Int.toNat n)) (x := v) (0) (1201) rfl rfl (show (0 : Int) ≤ v ∧ v ≤ 1201 by omega)
      have f4 : Fr [47] h h5 := by rw [wh5]; exact Fr.putF (a := 47) (j := (Int.toNat n)) (x := v) (Fr.rf _ _) rfl
      exact to_vret rfl (dat dk_X4_startValue 10 rfl) (rv_mk ⟨I3, f4⟩)
abbrev Q_X4_stopValue (h : Hp) (n : Int) (v : Int) : Option V → Hp → Nat → Nat → Prop := RV (fun H => Inv H ∧ Fr [48] h H)
set_option maxRecDepth 100000 in
theorem ct_X4_stopValue (l : Launch) (h : Hp) (hI : Inv h) (n : Int) (hn : I32 n) (v : Int) (hv : I32 v) (g0 : 0 ≤ v ∧ v ≤ 1201) : Ct l D_X4_stopValue 0 0 [.inr (.inr 46), .inl n, .inl v] h (Q_X4_stopValue h n v) := by
  refine ct_of pn_X4_stopValue (Nat.le_of_ble_eq_true rfl) ?_
  show To l E_X4_stopValue (0, [(0, .inr (.inr 46)), (1, .inl n), (2, .inl v)], [], h, 0, 0) _
  refine to_iload_n (dat dk_X4_stopValue 0 rfl) rfl ?_
  refine to_iflt 17 (dat dk_X4_stopValue 1 rfl) rfl hn (fun c1 => ?_) (fun c1 => ?_)
  · skip
    exact to_vret rfl (dat dk_X4_stopValue 10 rfl) (rv_mk ⟨hI, (Fr.rf _ _)⟩)
  · skip
    refine to_iload_n (dat dk_X4_stopValue 2 rfl) rfl (to_bipush (dat dk_X4_stopValue 3 rfl) (by decide) ?_)
    refine to_ige 17 (dat dk_X4_stopValue 4 rfl) rfl hn (by decide) (fun c2 => ?_) (fun c2 => ?_)
    · skip
      exact to_vret rfl (dat dk_X4_stopValue 10 rfl) (rv_mk ⟨hI, (Fr.rf _ _)⟩)
    · skip
      refine to_aload_n (dat dk_X4_stopValue 5 rfl) rfl (to_getR 48 g_c5_15 (dat dk_X4_stopValue 6 rfl) (hI.atS rfl) (hI.atE rfl) (to_iload_n (dat dk_X4_stopValue 7 rfl) rfl (to_iload_n (dat dk_X4_stopValue 8 rfl) rfl (to_iastw (dat dk_X4_stopValue 9 rfl) (hI.atS rfl) rfl (by decide) (by omega) ?_))))
      intro h5 wh5
      have I3 : Inv h5 := by rw [wh5]; exact hI.put (a := 48) (j := (Int.toNat n)) (x := v) (0) (1201) rfl rfl (show (0 : Int) ≤ v ∧ v ≤ 1201 by omega)
      have f4 : Fr [48] h h5 := by rw [wh5]; exact Fr.putF (a := 48) (j := (Int.toNat n)) (x := v) (Fr.rf _ _) rfl
      exact to_vret rfl (dat dk_X4_stopValue 10 rfl) (rv_mk ⟨I3, f4⟩)
abbrev Q_X4_readLines (h : Hp) (f : Int) (t : Int) : Option V → Hp → Nat → Nat → Prop := RV (fun H => Inv H ∧ Fr [46, 47, 48] h H)
set_option maxRecDepth 100000 in
theorem ct_X4_readLines (l : Launch) (h : Hp) (hI : Inv h) (f : Int) (hf : I32 f) (t : Int) (ht : I32 t) (g0 : 0 ≤ f ∧ f ≤ 1201) (g1 : 0 ≤ t ∧ t ≤ 1200) : Ct l D_X4_readLines 7 155 [.inr (.inr 46), .inl f, .inl t] h (Q_X4_readLines h f t) := by
  refine ct_of pn_X4_readLines (Nat.le_of_ble_eq_true rfl) ?_
  show To l E_X4_readLines (0, [(0, .inr (.inr 46)), (1, .inl f), (2, .inl t)], [], h, 0, 0) _
  refine to_aload_n (dat dk_X4_readLines 0 rfl) rfl (to_iload_n (dat dk_X4_readLines 1 rfl) rfl (to_putIw p_c5_22 (dat dk_X4_readLines 2 rfl) (hI.atS rfl) ?_))
  intro h3 wh3
  have I1 : Inv h3 := by rw [wh3]; exact hI.put (a := 46) (j := 4) (x := t) (0) (1200) rfl rfl (show (0 : Int) ≤ t ∧ t ≤ 1200 by omega)
  have f2 : Fr [46, 47, 48] h h3 := by rw [wh3]; exact Fr.putF (a := 46) (j := 4) (x := t) (Fr.rf _ _) rfl
  refine to_aload_n (dat dk_X4_readLines 3 rfl) rfl (to_getR 47 g_c5_11 (dat dk_X4_readLines 4 rfl) (I1.atS rfl) (I1.atE rfl) (to_iconst (dat dk_X4_readLines 5 rfl) ?_))
  refine to_cV ca_c5_26 (dat dk_X4_readLines 6 rfl) (ct_J7_fill_53178_v47 l h3 I1 0 (by decide) (show 0 ≤ (0 : Int) ∧ (0 : Int) ≤ 1201 by omega)) rfl trivial rfl (fun h5 p6 => ?_)
  obtain ⟨Ih5, fh5⟩ := p6
  have f7 : Fr [46, 47, 48] h h5 := Fr.sub f2 fh5 rfl
  refine to_aload_n (dat dk_X4_readLines 7 rfl) rfl (to_getR 48 g_c5_15 (dat dk_X4_readLines 8 rfl) (Ih5.atS rfl) (Ih5.atE rfl) (to_iconst (dat dk_X4_readLines 9 rfl) ?_))
  refine to_cV ca_c5_26 (dat dk_X4_readLines 10 rfl) (ct_J7_fill_53178_v48 l h5 Ih5 0 (by decide) (show 0 ≤ (0 : Int) ∧ (0 : Int) ≤ 1201 by omega)) rfl trivial rfl (fun h9 p10 => ?_)
  obtain ⟨Ih9, fh9⟩ := p10
  have f11 : Fr [46, 47, 48] h h9 := Fr.sub f7 fh9 rfl
  refine to_aload_n (dat dk_X4_readLines 11 rfl) rfl (to_iload_n (dat dk_X4_readLines 12 rfl) rfl (to_putIw p_c5_32 (dat dk_X4_readLines 13 rfl) (Ih9.atS rfl) ?_))
  intro h14 wh14
  have I12 : Inv h14 := by rw [wh14]; exact Ih9.put (a := 46) (j := 3) (x := f) (0) (1201) rfl rfl (show (0 : Int) ≤ f ∧ f ≤ 1201 by omega)
  have f13 : Fr [46, 47, 48] h h14 := by rw [wh14]; exact Fr.putF (a := 46) (j := 3) (x := f) f11 rfl
  refine to_iconst (dat dk_X4_readLines 14 rfl) (to_istore_n (L' := [(0, .inr (.inr 46)), (1, .inl f), (2, .inl t), (3, .inl (-1))]) (dat dk_X4_readLines 15 rfl) (by decide) rfl (to_iconst (dat dk_X4_readLines 16 rfl) (to_istore (L' := [(0, .inr (.inr 46)), (1, .inl f), (2, .inl t), (3, .inl (-1)), (4, .inl 0)]) (dat dk_X4_readLines 17 rfl) (by decide) rfl (to_iload_n (dat dk_X4_readLines 18 rfl) rfl (to_istore (L' := [(0, .inr (.inr 46)), (1, .inl f), (2, .inl t), (3, .inl (-1)), (4, .inl 0), (5, .inl f)]) (dat dk_X4_readLines 19 rfl) (by decide) rfl ?_)))))
  have e19 : h14.2.2 46 4 = t := (by rw [wh14]; exact ((Fr.get fh9 (by have := Ih5.1.1; omega) rfl).trans ((Fr.get fh5 (by have := I1.1.1; omega) rfl).trans (by rw [wh3]; exact wr_eq))))
  have lp34_n21 : ∀ (n21 : Nat) (y15 : Int) (y16 : Int) (y17 : Int) (h18 : Hp), (I32 y15) → (y16 = 0 ∨ y16 = 1) → (I32 y17) → (Inv h18) → (Fr [46, 47, 48] h h18) → (h18.2.2 46 4 = t) → (t - y17 ≤ (n21 : Int)) → To l E_X4_readLines (34, [(0, .inr (.inr 46)), (1, .inl f), (2, .inl t), (3, .inl y15), (4, .inl y16), (5, .inl y17)], [], h18, 0, 0) (Q_X4_readLines h f t) := by
    intro n21
    induction n21 using Nat.strongRecOn with
    | _ n21 ihn21 =>
    intro y15 y16 y17 h18 ry15 ry16 ry17 Ih18 fh18 c20 c22
    refine to_iload (dat dk_X4_readLines 20 rfl) rfl (to_aload_n (dat dk_X4_readLines 21 rfl) rfl ?_)
    obtain ⟨x23, ex23⟩ : ∃ y : Int, h18.2.2 46 4 = y := ⟨_, rfl⟩
    have rx23 := Ih18.atR (a := 46) (j := 4) rfl
    rw [ex23] at rx23
    refine to_getIv (y := x23) ex23 g_c5_22 (dat dk_X4_readLines 22 rfl) (Ih18.atS rfl) ?_
    refine to_ige 205 (dat dk_X4_readLines 23 rfl) rfl ry17 (by omega) (fun c24 => ?_) (fun c24 => ?_)
    · skip
      exact to_vret rfl (dat dk_X4_readLines 104 rfl) (rv_mk ⟨Ih18, fh18⟩)
    · skip
      refine to_aload_n (dat dk_X4_readLines 24 rfl) rfl ?_
      obtain ⟨x25, ex25⟩ : ∃ y : Int, h18.2.2 46 3 = y := ⟨_, rfl⟩
      have rx25 := Ih18.atR (a := 46) (j := 3) rfl
      rw [ex25] at rx25
      refine to_getIv (y := x25) ex25 g_c5_32 (dat dk_X4_readLines 25 rfl) (Ih18.atS rfl) (to_aload_n (dat dk_X4_readLines 26 rfl) rfl (to_getIv (y := x23) ex23 g_c5_22 (dat dk_X4_readLines 27 rfl) (Ih18.atS rfl) ?_))
      refine to_ige 205 (dat dk_X4_readLines 28 rfl) rfl (by omega) (by omega) (fun c26 => ?_) (fun c26 => ?_)
      · skip
        exact to_vret rfl (dat dk_X4_readLines 104 rfl) (rv_mk ⟨Ih18, fh18⟩)
      · skip
        refine to_aload_n (dat dk_X4_readLines 29 rfl) rfl (to_getR 4 g_c5_18 (dat dk_X4_readLines 30 rfl) (Ih18.atS rfl) (Ih18.atE rfl) (to_aload_n (dat dk_X4_readLines 31 rfl) rfl (to_getIv (y := x25) ex25 g_c5_32 (dat dk_X4_readLines 32 rfl) (Ih18.atS rfl) (to_aload_n (dat dk_X4_readLines 33 rfl) rfl (to_getIv (y := x23) ex23 g_c5_22 (dat dk_X4_readLines 34 rfl) (Ih18.atS rfl) ?_)))))
        refine to_cI ca_c5_35 (dat dk_X4_readLines 35 rfl) (ct_X1_lineStop l h18 Ih18 4 rfl x25 (by omega) x23 (by omega)) rfl ⟨_, _, rfl, (Ih18.atS rfl)⟩ rfl (fun x27 h28 rx27 p29 => ?_)
        obtain ⟨rfl, p29_0, p29_1⟩ := p29
        refine to_istore (L' := [(0, .inr (.inr 46)), (1, .inl f), (2, .inl t), (3, .inl y15), (4, .inl y16), (5, .inl y17), (6, .inl x27)]) (dat dk_X4_readLines 36 rfl) (by decide) rfl (to_aload_n (dat dk_X4_readLines 37 rfl) rfl (to_getR 4 g_c5_18 (dat dk_X4_readLines 38 rfl) (Ih18.atS rfl) (Ih18.atE rfl) (to_aload_n (dat dk_X4_readLines 39 rfl) rfl (to_getIv (y := x25) ex25 g_c5_32 (dat dk_X4_readLines 40 rfl) (Ih18.atS rfl) (to_iload (dat dk_X4_readLines 41 rfl) rfl (to_aload_n (dat dk_X4_readLines 42 rfl) rfl (to_getIv (y := x23) ex23 g_c5_22 (dat dk_X4_readLines 43 rfl) (Ih18.atS rfl) ?_)))))))
        refine to_cI ca_c5_41 (dat dk_X4_readLines 44 rfl) (ct_X1_lineEnd l h18 Ih18 4 rfl x25 (by omega) x27 rx27 x23 (by omega)) rfl ⟨_, _, rfl, (Ih18.atS rfl)⟩ rfl (fun x30 h31 rx30 p32 => ?_)
        obtain ⟨rfl, p32_0, p32_1⟩ := p32
        refine to_istore (L' := [(0, .inr (.inr 46)), (1, .inl f), (2, .inl t), (3, .inl y15), (4, .inl y16), (5, .inl y17), (6, .inl x27), (7, .inl x30)]) (dat dk_X4_readLines 45 rfl) (by decide) rfl (to_iload (dat dk_X4_readLines 46 rfl) rfl (to_iconst (dat dk_X4_readLines 47 rfl) (to_iadd (dat dk_X4_readLines 48 rfl) (to_aload_n (dat dk_X4_readLines 49 rfl) rfl (to_getIv (y := x23) ex23 g_c5_22 (dat dk_X4_readLines 50 rfl) (Ih18.atS rfl) ?_)))))
        refine to_mmin (tin 3 169 (by decide +kernel) rfl) (tin 3 170 (by decide +kernel) rfl) (tin 1 18 (by decide +kernel) rfl) (tin 3 171 (by decide +kernel) rfl) (dat dk_X4_readLines 51 rfl) (by omega) (by omega) rfl (fun x33 ax33 bx33 => ?_)
        refine to_istore (L' := [(0, .inr (.inr 46)), (1, .inl f), (2, .inl t), (3, .inl y15), (4, .inl y16), (5, .inl y17), (6, .inl x27), (7, .inl x30), (8, .inl x33)]) (dat dk_X4_readLines 52 rfl) (by decide) rfl (to_aload_n (dat dk_X4_readLines 53 rfl) rfl (to_aload_n (dat dk_X4_readLines 54 rfl) rfl (to_getIv (y := x25) ex25 g_c5_32 (dat dk_X4_readLines 55 rfl) (Ih18.atS rfl) (to_iload (dat dk_X4_readLines 56 rfl) rfl ?_))))
        refine to_cI ca_c5_50 (dat dk_X4_readLines 57 rfl) (ct_X4_colonOf l h18 Ih18 x25 (by omega) x30 rx30) rfl ⟨_, _, rfl, (Ih18.atS rfl)⟩ rfl (fun x34 h35 rx34 p36 => ?_)
        obtain ⟨rfl, p36_0⟩ := p36
        refine to_istore (L' := [(0, .inr (.inr 46)), (1, .inl f), (2, .inl t), (3, .inl y15), (4, .inl y16), (5, .inl y17), (6, .inl x27), (7, .inl x30), (8, .inl x33), (9, .inl x34)]) (dat dk_X4_readLines 58 rfl) (by decide) rfl (to_iload (dat dk_X4_readLines 59 rfl) rfl (to_aload_n (dat dk_X4_readLines 60 rfl) rfl (to_getIv (y := x25) ex25 g_c5_32 (dat dk_X4_readLines 61 rfl) (Ih18.atS rfl) ?_)))
        refine to_ine 131 (dat dk_X4_readLines 62 rfl) rfl rx30 (by omega) (fun c37 => ?_) (fun c37 => ?_)
        · skip
          refine to_iload (dat dk_X4_readLines 67 rfl) rfl (to_iconst (dat dk_X4_readLines 68 rfl) ?_)
          refine to_ieq 163 (dat dk_X4_readLines 69 rfl) rfl rx34 (by decide) (fun c38 => ?_) (fun c38 => ?_)
          · skip
            refine to_iload (dat dk_X4_readLines 85 rfl) rfl ?_
            refine to_ifeq 185 (dat dk_X4_readLines 86 rfl) rfl (by omega) (fun c39 => ?_) (fun c39 => ?_)
            · skip
              exact to_vret rfl (dat dk_X4_readLines 94 rfl) (rv_mk ⟨Ih18, fh18⟩)
            · skip
              refine to_aload_n (dat dk_X4_readLines 87 rfl) rfl (to_getR 4 g_c5_18 (dat dk_X4_readLines 88 rfl) (Ih18.atS rfl) (Ih18.atE rfl) (to_aload_n (dat dk_X4_readLines 89 rfl) rfl (to_getIv (y := x25) ex25 g_c5_32 (dat dk_X4_readLines 90 rfl) (Ih18.atS rfl) ?_)))
              obtain ⟨x40, ex40⟩ : ∃ y : Int, h18.2.2 4 1 = y := ⟨_, rfl⟩
              have rx40 := Ih18.atR (a := 4) (j := 1) rfl
              rw [ex40] at rx40
              refine to_cI ca_c5_60 (dat dk_X4_readLines 91 rfl) (ct_X1_byteAt l h18 Ih18 4 rfl x25 (by omega)) rfl ⟨_, _, rfl, (Ih18.atS rfl)⟩ rfl (fun x41 h42 rx41 p43 => ?_)
              obtain ⟨rfl, p43_0⟩ := p43
              refine to_cI ca_c5_64 (dat dk_X4_readLines 92 rfl) (ct_X9_isBlank l h18 Ih18 x41 rx41) rfl trivial rfl (fun x44 h45 rx44 p46 => ?_)
              obtain ⟨rfl, zx44⟩ := p46
              refine to_ifne 186 (dat dk_X4_readLines 93 rfl) rfl rx44 (fun c47 => ?_) (fun c47 => ?_)
              · skip
                refine to_aload_n (dat dk_X4_readLines 95 rfl) rfl (to_iload_n (dat dk_X4_readLines 96 rfl) rfl (to_iload (dat dk_X4_readLines 97 rfl) rfl ?_))
                refine to_cV ca_c5_70 (dat dk_X4_readLines 98 rfl) (ct_X4_stopValue l h18 Ih18 y15 ry15 x30 rx30 (show 0 ≤ x30 ∧ x30 ≤ 1201 by omega)) rfl ⟨_, _, rfl, (Ih18.atS rfl)⟩ rfl (fun h49 p50 => ?_)
                obtain ⟨Ih49, fh49⟩ := p50
                have f51 : Fr [46, 47, 48] h h49 := Fr.sub fh18 fh49 rfl
                refine to_aload_n (dat dk_X4_readLines 99 rfl) rfl (to_iload (dat dk_X4_readLines 100 rfl) rfl (to_putIw p_c5_32 (dat dk_X4_readLines 101 rfl) (Ih49.atS rfl) ?_))
                intro h54 wh54
                have I52 : Inv h54 := by rw [wh54]; exact Ih49.put (a := 46) (j := 3) (x := x33) (0) (1201) rfl rfl (show (0 : Int) ≤ x33 ∧ x33 ≤ 1201 by omega)
                have f53 : Fr [46, 47, 48] h h54 := by rw [wh54]; exact Fr.putF (a := 46) (j := 3) (x := x33) f51 rfl
                refine to_iinc (L' := [(0, .inr (.inr 46)), (1, .inl f), (2, .inl t), (3, .inl y15), (4, .inl y16), (5, .inl (y17 + 1)), (6, .inl x27), (7, .inl x30), (8, .inl x33), (9, .inl x34)]) (dat dk_X4_readLines 102 rfl) rfl (by decide) rfl (to_goto (dat dk_X4_readLines 103 rfl) rfl ?_)
                refine to_pick [0, 1, 2, 3, 4, 5] rfl ?_
                have e55 : h54.2.2 46 4 = x23 := (by rw [wh54]; exact ((Fr.get fh49 (by have := Ih18.1.1; omega) rfl).trans ex23))
                exact ihn21 (n21 - 1) (by omega) y15 y16 (y17 + 1) h54 ry15 (by omega) (by omega) I52 f53 (show h54.2.2 46 4 = t by omega) (show t - (y17 + 1) ≤ ((n21 - 1 : Nat) : Int) by omega)
              · skip
                exact to_vret rfl (dat dk_X4_readLines 94 rfl) (rv_mk ⟨Ih18, fh18⟩)
          · skip
            refine to_aload_n (dat dk_X4_readLines 70 rfl) rfl (to_aload_n (dat dk_X4_readLines 71 rfl) rfl (to_getIv (y := x25) ex25 g_c5_32 (dat dk_X4_readLines 72 rfl) (Ih18.atS rfl) (to_iload (dat dk_X4_readLines 73 rfl) rfl ?_)))
            refine to_cI ca_c5_53 (dat dk_X4_readLines 74 rfl) (ct_X4_nameOf l h18 Ih18 x25 (by omega) x34 rx34 (show 0 ≤ x25 ∧ x25 ≤ 1201 by omega) (show 0 ≤ x34 ∧ x34 ≤ 1201 by omega)) rfl ⟨_, _, rfl, (Ih18.atS rfl)⟩ rfl (fun x56 h57 rx56 p58 => ?_)
            subst p58
            refine to_istore_n (L' := [(0, .inr (.inr 46)), (1, .inl f), (2, .inl t), (3, .inl x56), (4, .inl y16), (5, .inl y17), (6, .inl x27), (7, .inl x30), (8, .inl x33), (9, .inl x34)]) (dat dk_X4_readLines 75 rfl) (by decide) rfl (to_iconst (dat dk_X4_readLines 76 rfl) (to_istore (L' := [(0, .inr (.inr 46)), (1, .inl f), (2, .inl t), (3, .inl x56), (4, .inl 1), (5, .inl y17), (6, .inl x27), (7, .inl x30), (8, .inl x33), (9, .inl x34)]) (dat dk_X4_readLines 77 rfl) (by decide) rfl (to_aload_n (dat dk_X4_readLines 78 rfl) rfl (to_iload_n (dat dk_X4_readLines 79 rfl) rfl (to_iload (dat dk_X4_readLines 80 rfl) rfl (to_iconst (dat dk_X4_readLines 81 rfl) (to_iadd (dat dk_X4_readLines 82 rfl) ?_)))))))
            refine to_cV ca_c5_56 (dat dk_X4_readLines 83 rfl) (ct_X4_startValue l h18 Ih18 x56 rx56 (x34 + 1) (by omega) (show 0 ≤ (x34 + 1) ∧ (x34 + 1) ≤ 1201 by omega)) rfl ⟨_, _, rfl, (Ih18.atS rfl)⟩ rfl (fun h60 p61 => ?_)
            obtain ⟨Ih60, fh60⟩ := p61
            have f62 : Fr [46, 47, 48] h h60 := Fr.sub fh18 fh60 rfl
            refine to_goto (dat dk_X4_readLines 84 rfl) rfl (to_aload_n (dat dk_X4_readLines 95 rfl) rfl (to_iload_n (dat dk_X4_readLines 96 rfl) rfl (to_iload (dat dk_X4_readLines 97 rfl) rfl ?_)))
            refine to_cV ca_c5_70 (dat dk_X4_readLines 98 rfl) (ct_X4_stopValue l h60 Ih60 x56 rx56 x30 rx30 (show 0 ≤ x30 ∧ x30 ≤ 1201 by omega)) rfl ⟨_, _, rfl, (Ih60.atS rfl)⟩ rfl (fun h64 p65 => ?_)
            obtain ⟨Ih64, fh64⟩ := p65
            have f66 : Fr [46, 47, 48] h h64 := Fr.sub f62 fh64 rfl
            refine to_aload_n (dat dk_X4_readLines 99 rfl) rfl (to_iload (dat dk_X4_readLines 100 rfl) rfl (to_putIw p_c5_32 (dat dk_X4_readLines 101 rfl) (Ih64.atS rfl) ?_))
            intro h69 wh69
            have I67 : Inv h69 := by rw [wh69]; exact Ih64.put (a := 46) (j := 3) (x := x33) (0) (1201) rfl rfl (show (0 : Int) ≤ x33 ∧ x33 ≤ 1201 by omega)
            have f68 : Fr [46, 47, 48] h h69 := by rw [wh69]; exact Fr.putF (a := 46) (j := 3) (x := x33) f66 rfl
            refine to_iinc (L' := [(0, .inr (.inr 46)), (1, .inl f), (2, .inl t), (3, .inl x56), (4, .inl 1), (5, .inl (y17 + 1)), (6, .inl x27), (7, .inl x30), (8, .inl x33), (9, .inl x34)]) (dat dk_X4_readLines 102 rfl) rfl (by decide) rfl (to_goto (dat dk_X4_readLines 103 rfl) rfl ?_)
            refine to_pick [0, 1, 2, 3, 4, 5] rfl ?_
            have e70 : h69.2.2 46 4 = x23 := (by rw [wh69]; exact ((Fr.get fh64 (by have := Ih60.1.1; omega) rfl).trans ((Fr.get fh60 (by have := Ih18.1.1; omega) rfl).trans ex23)))
            exact ihn21 (n21 - 1) (by omega) x56 1 (y17 + 1) h69 rx56 (by decide) (by omega) I67 f68 (show h69.2.2 46 4 = t by omega) (show t - (y17 + 1) ≤ ((n21 - 1 : Nat) : Int) by omega)
        · skip
          refine to_aload_n (dat dk_X4_readLines 63 rfl) rfl (to_iload (dat dk_X4_readLines 64 rfl) rfl (to_putIw p_c5_32 (dat dk_X4_readLines 65 rfl) (Ih18.atS rfl) ?_))
          intro h73 wh73
          have I71 : Inv h73 := by rw [wh73]; exact Ih18.put (a := 46) (j := 3) (x := x33) (0) (1201) rfl rfl (show (0 : Int) ≤ x33 ∧ x33 ≤ 1201 by omega)
          have f72 : Fr [46, 47, 48] h h73 := by rw [wh73]; exact Fr.putF (a := 46) (j := 3) (x := x33) fh18 rfl
          exact to_vret rfl (dat dk_X4_readLines 66 rfl) (rv_mk ⟨I71, f72⟩)
  exact lp34_n21 (t - f).toNat (-1) 0 f h14 (by decide) (by decide) hf I12 f13 (show h14.2.2 46 4 = t by omega) (by omega)
abbrev Q_X4_writeValue (h : Hp) (n : Int) (v : Nat) : Option V → Hp → Nat → Nat → Prop := RV (fun H => Inv H ∧ Fr [v] h H)
set_option maxRecDepth 100000 in
theorem ct_X4_writeValue (l : Launch) (h : Hp) (hI : Inv h) (n : Int) (hn : I32 n) (v : Nat) (hv : isB v = true) : Ct l D_X4_writeValue 2 41 [.inr (.inr 46), .inl n, .inr (.inr v)] h (Q_X4_writeValue h n v) := by
  refine ct_of pn_X4_writeValue (Nat.le_of_ble_eq_true rfl) ?_
  show To l E_X4_writeValue (0, [(0, .inr (.inr 46)), (1, .inl n), (2, .inr (.inr v))], [], h, 0, 0) _
  refine to_aload_np (dat dk_X4_writeValue 0 rfl) (hI.1.2.2.2 _ _ (hI.bty hv)).1 rfl ?_
  refine to_cV ca_c5_73 (dat dk_X4_writeValue 1 rfl) (ct_X1_clear l h hI v hv) rfl ⟨_, _, rfl, (hI.bty hv)⟩ rfl (fun h2 p3 => ?_)
  obtain ⟨Ih2, fh2, p3_0⟩ := p3
  have f4 : Fr [v] h h2 := Fr.sub (Fr.rf _ _) fh2 (sub_self _)
  refine to_iload_n (dat dk_X4_writeValue 2 rfl) rfl ?_
  refine to_iflt 14 (dat dk_X4_writeValue 3 rfl) rfl hn (fun c5 => ?_) (fun c5 => ?_)
  · skip
    exact to_vret rfl (dat dk_X4_writeValue 7 rfl) (rv_mk ⟨Ih2, f4⟩)
  · skip
    refine to_iload_n (dat dk_X4_writeValue 4 rfl) rfl (to_bipush (dat dk_X4_writeValue 5 rfl) (by decide) ?_)
    refine to_ilt 15 (dat dk_X4_writeValue 6 rfl) rfl hn (by decide) (fun c6 => ?_) (fun c6 => ?_)
    · skip
      refine to_iconst (dat dk_X4_writeValue 8 rfl) (to_istore_n (L' := [(0, .inr (.inr 46)), (1, .inl n), (2, .inr (.inr v)), (3, .inl 1)]) (dat dk_X4_writeValue 9 rfl) (by decide) rfl (to_aload_n (dat dk_X4_writeValue 10 rfl) rfl (to_getR 47 g_c5_11 (dat dk_X4_writeValue 11 rfl) (Ih2.atS rfl) (Ih2.atE rfl) (to_iload_n (dat dk_X4_writeValue 12 rfl) rfl ?_))))
      obtain ⟨x7, ex7⟩ : ∃ y : Int, h2.2.2 47 (Int.toNat n) = y := ⟨_, rfl⟩
      have rx7 := Ih2.atR (a := 47) (j := Int.toNat n) rfl
      rw [ex7] at rx7
      refine to_ialdv ex7 (dat dk_X4_writeValue 13 rfl) (Ih2.atS rfl) rfl (by decide) (by omega) (to_istore (L' := [(0, .inr (.inr 46)), (1, .inl n), (2, .inr (.inr v)), (3, .inl 1), (4, .inl x7)]) (dat dk_X4_writeValue 14 rfl) (by decide) rfl ?_)
      have lp25_n12 : ∀ (n12 : Nat) (y8 : Int) (y9 : Int) (h10 : Hp), (y8 = 0 ∨ y8 = 1) → (I32 y9) → (Inv h10) → (Fr [v] h h10) → (0 ≤ y9) → (1202 - y9 ≤ (n12 : Int)) → To l E_X4_writeValue (25, [(0, .inr (.inr 46)), (1, .inl n), (2, .inr (.inr v)), (3, .inl y8), (4, .inl y9)], [], h10, 0, 0) (Q_X4_writeValue h n v) := by
        intro n12
        induction n12 using Nat.strongRecOn with
        | _ n12 ihn12 =>
        intro y8 y9 h10 ry8 ry9 Ih10 fh10 c11 c13
        refine to_iload (dat dk_X4_writeValue 15 rfl) rfl (to_aload_n (dat dk_X4_writeValue 16 rfl) rfl (to_getR 48 g_c5_15 (dat dk_X4_writeValue 17 rfl) (Ih10.atS rfl) (Ih10.atE rfl) (to_iload_n (dat dk_X4_writeValue 18 rfl) rfl ?_)))
        obtain ⟨x14, ex14⟩ : ∃ y : Int, h10.2.2 48 (Int.toNat n) = y := ⟨_, rfl⟩
        have rx14 := Ih10.atR (a := 48) (j := Int.toNat n) rfl
        rw [ex14] at rx14
        refine to_ialdv ex14 (dat dk_X4_writeValue 19 rfl) (Ih10.atS rfl) rfl (by decide) (by omega) ?_
        refine to_ige 121 (dat dk_X4_writeValue 20 rfl) rfl ry9 (by omega) (fun c15 => ?_) (fun c15 => ?_)
        · skip
          refine to_aload_np (dat dk_X4_writeValue 61 rfl) (Ih10.1.2.2.2 _ _ (Ih10.bty hv)).1 rfl ?_
          refine to_cV ca_c5_84 (dat dk_X4_writeValue 62 rfl) (ct_X1_cutBlanksAtEnd l h10 Ih10 v hv) rfl ⟨_, _, rfl, (Ih10.bty hv)⟩ rfl (fun h17 p18 => ?_)
          obtain ⟨Ih17, fh17⟩ := p18
          have f19 : Fr [v] h h17 := Fr.sub fh10 fh17 (sub_self _)
          exact to_vret rfl (dat dk_X4_writeValue 63 rfl) (rv_mk ⟨Ih17, f19⟩)
        · skip
          refine to_aload_n (dat dk_X4_writeValue 21 rfl) rfl (to_getR 4 g_c5_18 (dat dk_X4_writeValue 22 rfl) (Ih10.atS rfl) (Ih10.atE rfl) (to_iload (dat dk_X4_writeValue 23 rfl) rfl ?_))
          obtain ⟨x20, ex20⟩ : ∃ y : Int, h10.2.2 4 1 = y := ⟨_, rfl⟩
          have rx20 := Ih10.atR (a := 4) (j := 1) rfl
          rw [ex20] at rx20
          refine to_cI ca_c5_60 (dat dk_X4_writeValue 24 rfl) (ct_X1_byteAt l h10 Ih10 4 rfl y9 ry9) rfl ⟨_, _, rfl, (Ih10.atS rfl)⟩ rfl (fun x21 h22 rx21 p23 => ?_)
          obtain ⟨rfl, p23_0⟩ := p23
          refine to_istore (L' := [(0, .inr (.inr 46)), (1, .inl n), (2, .inr (.inr v)), (3, .inl y8), (4, .inl y9), (5, .inl x21)]) (dat dk_X4_writeValue 25 rfl) (by decide) rfl (to_iload (dat dk_X4_writeValue 26 rfl) rfl (to_bipush (dat dk_X4_writeValue 27 rfl) (by decide) ?_))
          refine to_ine 72 (dat dk_X4_writeValue 28 rfl) rfl rx21 (by decide) (fun c24 => ?_) (fun c24 => ?_)
          · skip
            refine to_iload (dat dk_X4_writeValue 38 rfl) rfl (to_bipush (dat dk_X4_writeValue 39 rfl) (by decide) ?_)
            refine to_ine 95 (dat dk_X4_writeValue 40 rfl) rfl rx21 (by decide) (fun c25 => ?_) (fun c25 => ?_)
            · skip
              refine to_iload_n (dat dk_X4_writeValue 49 rfl) rfl ?_
              refine to_ifeq 107 (dat dk_X4_writeValue 50 rfl) rfl (by omega) (fun c26 => ?_) (fun c26 => ?_)
              · skip
                refine to_iconst (dat dk_X4_writeValue 54 rfl) (to_istore_n (L' := [(0, .inr (.inr 46)), (1, .inl n), (2, .inr (.inr v)), (3, .inl 0), (4, .inl y9), (5, .inl x21)]) (dat dk_X4_writeValue 55 rfl) (by decide) rfl (to_aload_np (dat dk_X4_writeValue 56 rfl) (Ih10.1.2.2.2 _ _ (Ih10.bty hv)).1 rfl (to_iload (dat dk_X4_writeValue 57 rfl) rfl ?_)))
                obtain ⟨x27, ex27⟩ : ∃ y : Int, h10.2.2 v 1 = y := ⟨_, rfl⟩
                have rx27 := Ih10.blen hv
                rw [ex27] at rx27
                refine to_cV ca_c5_80 (dat dk_X4_writeValue 58 rfl) (ct_X1_put l h10 Ih10 v hv x21 rx21) rfl ⟨_, _, rfl, (Ih10.bty hv)⟩ rfl (fun h29 p30 => ?_)
                obtain ⟨Ih29, fh29, p30_0⟩ := p30
                have f31 : Fr [v] h h29 := Fr.sub fh10 fh29 (sub_self _)
                refine to_iinc (L' := [(0, .inr (.inr 46)), (1, .inl n), (2, .inr (.inr v)), (3, .inl 0), (4, .inl (y9 + 1)), (5, .inl x21)]) (dat dk_X4_writeValue 59 rfl) rfl (by decide) rfl (to_goto (dat dk_X4_writeValue 60 rfl) rfl ?_)
                refine to_pick [0, 1, 2, 3, 4] rfl ?_
                exact ihn12 (n12 - 1) (by omega) 0 (y9 + 1) h29 (by decide) (by omega) Ih29 f31 (show 0 ≤ (y9 + 1) by omega) (show 1202 - (y9 + 1) ≤ ((n12 - 1 : Nat) : Int) by omega)
              · skip
                refine to_iload (dat dk_X4_writeValue 51 rfl) rfl ?_
                refine to_cI ca_c5_64 (dat dk_X4_writeValue 52 rfl) (ct_X9_isBlank l h10 Ih10 x21 rx21) rfl trivial rfl (fun x32 h33 rx32 p34 => ?_)
                obtain ⟨rfl, zx32⟩ := p34
                refine to_ifne 115 (dat dk_X4_writeValue 53 rfl) rfl rx32 (fun c35 => ?_) (fun c35 => ?_)
                · skip
                  refine to_iinc (L' := [(0, .inr (.inr 46)), (1, .inl n), (2, .inr (.inr v)), (3, .inl y8), (4, .inl (y9 + 1)), (5, .inl x21)]) (dat dk_X4_writeValue 59 rfl) rfl (by decide) rfl (to_goto (dat dk_X4_writeValue 60 rfl) rfl ?_)
                  refine to_pick [0, 1, 2, 3, 4] rfl ?_
                  exact ihn12 (n12 - 1) (by omega) y8 (y9 + 1) h10 (by omega) (by omega) Ih10 fh10 (show 0 ≤ (y9 + 1) by omega) (show 1202 - (y9 + 1) ≤ ((n12 - 1 : Nat) : Int) by omega)
                · skip
                  refine to_iconst (dat dk_X4_writeValue 54 rfl) (to_istore_n (L' := [(0, .inr (.inr 46)), (1, .inl n), (2, .inr (.inr v)), (3, .inl 0), (4, .inl y9), (5, .inl x21)]) (dat dk_X4_writeValue 55 rfl) (by decide) rfl (to_aload_np (dat dk_X4_writeValue 56 rfl) (Ih10.1.2.2.2 _ _ (Ih10.bty hv)).1 rfl (to_iload (dat dk_X4_writeValue 57 rfl) rfl ?_)))
                  obtain ⟨x36, ex36⟩ : ∃ y : Int, h10.2.2 v 1 = y := ⟨_, rfl⟩
                  have rx36 := Ih10.blen hv
                  rw [ex36] at rx36
                  refine to_cV ca_c5_80 (dat dk_X4_writeValue 58 rfl) (ct_X1_put l h10 Ih10 v hv x21 rx21) rfl ⟨_, _, rfl, (Ih10.bty hv)⟩ rfl (fun h38 p39 => ?_)
                  obtain ⟨Ih38, fh38, p39_0⟩ := p39
                  have f40 : Fr [v] h h38 := Fr.sub fh10 fh38 (sub_self _)
                  refine to_iinc (L' := [(0, .inr (.inr 46)), (1, .inl n), (2, .inr (.inr v)), (3, .inl 0), (4, .inl (y9 + 1)), (5, .inl x21)]) (dat dk_X4_writeValue 59 rfl) rfl (by decide) rfl (to_goto (dat dk_X4_writeValue 60 rfl) rfl ?_)
                  refine to_pick [0, 1, 2, 3, 4] rfl ?_
                  exact ihn12 (n12 - 1) (by omega) 0 (y9 + 1) h38 (by decide) (by omega) Ih38 f40 (show 0 ≤ (y9 + 1) by omega) (show 1202 - (y9 + 1) ≤ ((n12 - 1 : Nat) : Int) by omega)
            · skip
              refine to_aload_n (dat dk_X4_writeValue 41 rfl) rfl (to_getR 4 g_c5_18 (dat dk_X4_writeValue 42 rfl) (Ih10.atS rfl) (Ih10.atE rfl) (to_iload (dat dk_X4_writeValue 43 rfl) rfl (to_iconst (dat dk_X4_writeValue 44 rfl) (to_iadd (dat dk_X4_writeValue 45 rfl) ?_))))
              refine to_cI ca_c5_60 (dat dk_X4_writeValue 46 rfl) (ct_X1_byteAt l h10 Ih10 4 rfl (y9 + 1) (by omega)) rfl ⟨_, _, rfl, (Ih10.atS rfl)⟩ rfl (fun x41 h42 rx41 p43 => ?_)
              obtain ⟨rfl, p43_0⟩ := p43
              refine to_bipush (dat dk_X4_writeValue 47 rfl) (by decide) ?_
              refine to_ieq 115 (dat dk_X4_writeValue 48 rfl) rfl rx41 (by decide) (fun c44 => ?_) (fun c44 => ?_)
              · skip
                refine to_iinc (L' := [(0, .inr (.inr 46)), (1, .inl n), (2, .inr (.inr v)), (3, .inl y8), (4, .inl (y9 + 1)), (5, .inl x21)]) (dat dk_X4_writeValue 59 rfl) rfl (by decide) rfl (to_goto (dat dk_X4_writeValue 60 rfl) rfl ?_)
                refine to_pick [0, 1, 2, 3, 4] rfl ?_
                exact ihn12 (n12 - 1) (by omega) y8 (y9 + 1) h10 (by omega) (by omega) Ih10 fh10 (show 0 ≤ (y9 + 1) by omega) (show 1202 - (y9 + 1) ≤ ((n12 - 1 : Nat) : Int) by omega)
              · skip
                refine to_iload_n (dat dk_X4_writeValue 49 rfl) rfl ?_
                refine to_ifeq 107 (dat dk_X4_writeValue 50 rfl) rfl (by omega) (fun c45 => ?_) (fun c45 => ?_)
                · skip
                  refine to_iconst (dat dk_X4_writeValue 54 rfl) (to_istore_n (L' := [(0, .inr (.inr 46)), (1, .inl n), (2, .inr (.inr v)), (3, .inl 0), (4, .inl y9), (5, .inl x21)]) (dat dk_X4_writeValue 55 rfl) (by decide) rfl (to_aload_np (dat dk_X4_writeValue 56 rfl) (Ih10.1.2.2.2 _ _ (Ih10.bty hv)).1 rfl (to_iload (dat dk_X4_writeValue 57 rfl) rfl ?_)))
                  obtain ⟨x46, ex46⟩ : ∃ y : Int, h10.2.2 v 1 = y := ⟨_, rfl⟩
                  have rx46 := Ih10.blen hv
                  rw [ex46] at rx46
                  refine to_cV ca_c5_80 (dat dk_X4_writeValue 58 rfl) (ct_X1_put l h10 Ih10 v hv x21 rx21) rfl ⟨_, _, rfl, (Ih10.bty hv)⟩ rfl (fun h48 p49 => ?_)
                  obtain ⟨Ih48, fh48, p49_0⟩ := p49
                  have f50 : Fr [v] h h48 := Fr.sub fh10 fh48 (sub_self _)
                  refine to_iinc (L' := [(0, .inr (.inr 46)), (1, .inl n), (2, .inr (.inr v)), (3, .inl 0), (4, .inl (y9 + 1)), (5, .inl x21)]) (dat dk_X4_writeValue 59 rfl) rfl (by decide) rfl (to_goto (dat dk_X4_writeValue 60 rfl) rfl ?_)
                  refine to_pick [0, 1, 2, 3, 4] rfl ?_
                  exact ihn12 (n12 - 1) (by omega) 0 (y9 + 1) h48 (by decide) (by omega) Ih48 f50 (show 0 ≤ (y9 + 1) by omega) (show 1202 - (y9 + 1) ≤ ((n12 - 1 : Nat) : Int) by omega)
                · skip
                  refine to_iload (dat dk_X4_writeValue 51 rfl) rfl ?_
                  refine to_cI ca_c5_64 (dat dk_X4_writeValue 52 rfl) (ct_X9_isBlank l h10 Ih10 x21 rx21) rfl trivial rfl (fun x51 h52 rx51 p53 => ?_)
                  obtain ⟨rfl, zx51⟩ := p53
                  refine to_ifne 115 (dat dk_X4_writeValue 53 rfl) rfl rx51 (fun c54 => ?_) (fun c54 => ?_)
                  · skip
                    refine to_iinc (L' := [(0, .inr (.inr 46)), (1, .inl n), (2, .inr (.inr v)), (3, .inl y8), (4, .inl (y9 + 1)), (5, .inl x21)]) (dat dk_X4_writeValue 59 rfl) rfl (by decide) rfl (to_goto (dat dk_X4_writeValue 60 rfl) rfl ?_)
                    refine to_pick [0, 1, 2, 3, 4] rfl ?_
                    exact ihn12 (n12 - 1) (by omega) y8 (y9 + 1) h10 (by omega) (by omega) Ih10 fh10 (show 0 ≤ (y9 + 1) by omega) (show 1202 - (y9 + 1) ≤ ((n12 - 1 : Nat) : Int) by omega)
                  · skip
                    refine to_iconst (dat dk_X4_writeValue 54 rfl) (to_istore_n (L' := [(0, .inr (.inr 46)), (1, .inl n), (2, .inr (.inr v)), (3, .inl 0), (4, .inl y9), (5, .inl x21)]) (dat dk_X4_writeValue 55 rfl) (by decide) rfl (to_aload_np (dat dk_X4_writeValue 56 rfl) (Ih10.1.2.2.2 _ _ (Ih10.bty hv)).1 rfl (to_iload (dat dk_X4_writeValue 57 rfl) rfl ?_)))
                    obtain ⟨x55, ex55⟩ : ∃ y : Int, h10.2.2 v 1 = y := ⟨_, rfl⟩
                    have rx55 := Ih10.blen hv
                    rw [ex55] at rx55
                    refine to_cV ca_c5_80 (dat dk_X4_writeValue 58 rfl) (ct_X1_put l h10 Ih10 v hv x21 rx21) rfl ⟨_, _, rfl, (Ih10.bty hv)⟩ rfl (fun h57 p58 => ?_)
                    obtain ⟨Ih57, fh57, p58_0⟩ := p58
                    have f59 : Fr [v] h h57 := Fr.sub fh10 fh57 (sub_self _)
                    refine to_iinc (L' := [(0, .inr (.inr 46)), (1, .inl n), (2, .inr (.inr v)), (3, .inl 0), (4, .inl (y9 + 1)), (5, .inl x21)]) (dat dk_X4_writeValue 59 rfl) rfl (by decide) rfl (to_goto (dat dk_X4_writeValue 60 rfl) rfl ?_)
                    refine to_pick [0, 1, 2, 3, 4] rfl ?_
                    exact ihn12 (n12 - 1) (by omega) 0 (y9 + 1) h57 (by decide) (by omega) Ih57 f59 (show 0 ≤ (y9 + 1) by omega) (show 1202 - (y9 + 1) ≤ ((n12 - 1 : Nat) : Int) by omega)
          · skip
            refine to_iconst (dat dk_X4_writeValue 29 rfl) (to_istore_n (L' := [(0, .inr (.inr 46)), (1, .inl n), (2, .inr (.inr v)), (3, .inl 1), (4, .inl y9), (5, .inl x21)]) (dat dk_X4_writeValue 30 rfl) (by decide) rfl (to_aload_np (dat dk_X4_writeValue 31 rfl) (Ih10.1.2.2.2 _ _ (Ih10.bty hv)).1 rfl ?_))
            obtain ⟨x60, ex60⟩ : ∃ y : Int, h10.2.2 v 1 = y := ⟨_, rfl⟩
            have rx60 := Ih10.blen hv
            rw [ex60] at rx60
            refine to_cI ca_c5_76 (dat dk_X4_writeValue 32 rfl) (ct_X1_size l h10 Ih10 v hv) rfl ⟨_, _, rfl, (Ih10.bty hv)⟩ rfl (fun x61 h62 rx61 p63 => ?_)
            obtain ⟨rfl, p63_0⟩ := p63
            refine to_ifle 115 (dat dk_X4_writeValue 33 rfl) rfl rx61 (fun c64 => ?_) (fun c64 => ?_)
            · skip
              refine to_iinc (L' := [(0, .inr (.inr 46)), (1, .inl n), (2, .inr (.inr v)), (3, .inl 1), (4, .inl (y9 + 1)), (5, .inl x21)]) (dat dk_X4_writeValue 59 rfl) rfl (by decide) rfl (to_goto (dat dk_X4_writeValue 60 rfl) rfl ?_)
              refine to_pick [0, 1, 2, 3, 4] rfl ?_
              exact ihn12 (n12 - 1) (by omega) 1 (y9 + 1) h10 (by decide) (by omega) Ih10 fh10 (show 0 ≤ (y9 + 1) by omega) (show 1202 - (y9 + 1) ≤ ((n12 - 1 : Nat) : Int) by omega)
            · skip
              refine to_aload_np (dat dk_X4_writeValue 34 rfl) (Ih10.1.2.2.2 _ _ (Ih10.bty hv)).1 rfl (to_bipush (dat dk_X4_writeValue 35 rfl) (by decide) ?_)
              refine to_cV ca_c5_80 (dat dk_X4_writeValue 36 rfl) (ct_X1_put l h10 Ih10 v hv 32 (by decide)) rfl ⟨_, _, rfl, (Ih10.bty hv)⟩ rfl (fun h66 p67 => ?_)
              obtain ⟨Ih66, fh66, p67_0⟩ := p67
              have f68 : Fr [v] h h66 := Fr.sub fh10 fh66 (sub_self _)
              refine to_goto (dat dk_X4_writeValue 37 rfl) rfl (to_iinc (L' := [(0, .inr (.inr 46)), (1, .inl n), (2, .inr (.inr v)), (3, .inl 1), (4, .inl (y9 + 1)), (5, .inl x21)]) (dat dk_X4_writeValue 59 rfl) rfl (by decide) rfl (to_goto (dat dk_X4_writeValue 60 rfl) rfl ?_))
              refine to_pick [0, 1, 2, 3, 4] rfl ?_
              exact ihn12 (n12 - 1) (by omega) 1 (y9 + 1) h66 (by decide) (by omega) Ih66 f68 (show 0 ≤ (y9 + 1) by omega) (show 1202 - (y9 + 1) ≤ ((n12 - 1 : Nat) : Int) by omega)
      exact lp25_n12 (1202 - x7).toNat 1 x7 h2 (by decide) (by omega) Ih2 f4 (show 0 ≤ x7 by omega) (by omega)
    · skip
      exact to_vret rfl (dat dk_X4_writeValue 7 rfl) (rv_mk ⟨Ih2, f4⟩)
