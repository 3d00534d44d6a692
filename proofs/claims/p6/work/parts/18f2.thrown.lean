/-! Contracts, by program. -/
abbrev Q_X12_thrown (h : Hp) : Option V → Hp → Nat → Nat → Prop := RI (fun x H => h = H ∧ (x = H.2.2 60 0))
set_option maxRecDepth 100000 in
theorem ct_X12_thrown (l : Launch) (h : Hp) (hI : Inv h)  : Ct l D_X12_thrown 0 0 [.inr (.inr 60)] h (Q_X12_thrown h) := by
  refine ct_of pn_X12_thrown (Nat.le_of_ble_eq_true rfl) ?_
  show To l E_X12_thrown (0, [(0, .inr (.inr 60))], [], h, 0, 0) _
  refine to_aload_n (dat dk_X12_thrown 0 rfl) rfl ?_
  obtain ⟨x1, ex1⟩ : ∃ y : Int, h.2.2 60 0 = y := ⟨_, rfl⟩
  have rx1 := hI.atR (a := 60) (j := 0) rfl
  rw [ex1] at rx1
  refine to_getIv (y := x1) ex1 g_c13_154 (dat dk_X12_thrown 1 rfl) (hI.atS rfl) ?_
  exact to_iret rfl (dat dk_X12_thrown 2 rfl) (ri_mk (by omega) ⟨rfl, (show x1 = h.2.2 60 0 by omega)⟩)
