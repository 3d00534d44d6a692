/-! Contracts, by program. -/
abbrev Q_X12_encodedEnd (h : Hp) (p : Int) : Option V → Hp → Nat → Nat → Prop := RI (fun x H => h = H ∧ (x = -1 ∨ (p + 7 ≤ x ∧ x ≤ H.2.2 60 23)) ∧ (∃ q : Nat, x = -1 ∨ (p + 2 ≤ (q : Int) ∧ (q : Int) + 5 ≤ x ∧ H.2.2 75 q = 63)))
set_option maxRecDepth 100000 in
theorem ct_X12_encodedEnd (l : Launch) (h : Hp) (hI : Inv h) (p : Int) (hp : I32 p) (g0 : 0 ≤ p ∧ p ≤ h.2.2 60 23) : Ct l D_X12_encodedEnd 2 46 [.inr (.inr 60), .inl p] h (Q_X12_encodedEnd h p) := by
  refine ct_of pn_X12_encodedEnd (Nat.le_of_ble_eq_true rfl) ?_
  show To l E_X12_encodedEnd (0, [(0, .inr (.inr 60)), (1, .inl p)], [], h, 0, 0) _
  refine to_iload_n (dat dk_X12_encodedEnd 0 rfl) rfl (to_iconst (dat dk_X12_encodedEnd 1 rfl) (to_iadd (dat dk_X12_encodedEnd 2 rfl) (to_aload_n (dat dk_X12_encodedEnd 3 rfl) rfl ?_)))
  obtain ⟨x1, ex1⟩ : ∃ y : Int, h.2.2 60 23 = y := ⟨_, rfl⟩
  have rx1 := hI.atR (a := 60) (j := 23) rfl
  rw [ex1] at rx1
  refine to_getIv (y := x1) ex1 g_c13_171 (dat dk_X12_encodedEnd 4 rfl) (hI.atS rfl) ?_
  refine to_ige 34 (dat dk_X12_encodedEnd 5 rfl) rfl (by omega) (by omega) (fun c2 => ?_) (fun c2 => ?_)
  · skip
    refine to_iconst (dat dk_X12_encodedEnd 20 rfl) ?_
    exact to_iret rfl (dat dk_X12_encodedEnd 21 rfl) (ri_mk (by decide) ⟨rfl, (show (-1 : Int) = -1 ∨ (p + 7 ≤ (-1 : Int) ∧ (-1 : Int) ≤ h.2.2 60 23) by omega), ⟨0, Or.inl rfl⟩⟩)
  · skip
    refine to_aload_n (dat dk_X12_encodedEnd 6 rfl) rfl (to_getR 75 g_c13_60 (dat dk_X12_encodedEnd 7 rfl) (hI.atS rfl) (hI.atE rfl) (to_iload_n (dat dk_X12_encodedEnd 8 rfl) rfl ?_))
    obtain ⟨x3, ex3⟩ : ∃ y : Int, h.2.2 75 (Int.toNat p) = y := ⟨_, rfl⟩
    have rx3 := hI.atR (a := 75) (j := Int.toNat p) rfl
    rw [ex3] at rx3
    refine to_baldv (q := 1) ex3 (dat dk_X12_encodedEnd 9 rfl) (by decide) (hI.atS rfl) rfl (by decide) (by omega) (to_bipush (dat dk_X12_encodedEnd 10 rfl) (by decide) ?_)
    refine to_ine 34 (dat dk_X12_encodedEnd 11 rfl) rfl (by omega) (by decide) (fun c4 => ?_) (fun c4 => ?_)
    · skip
      refine to_iconst (dat dk_X12_encodedEnd 20 rfl) ?_
      exact to_iret rfl (dat dk_X12_encodedEnd 21 rfl) (ri_mk (by decide) ⟨rfl, (show (-1 : Int) = -1 ∨ (p + 7 ≤ (-1 : Int) ∧ (-1 : Int) ≤ h.2.2 60 23) by omega), ⟨0, Or.inl rfl⟩⟩)
    · skip
      refine to_aload_n (dat dk_X12_encodedEnd 12 rfl) rfl (to_getR 75 g_c13_60 (dat dk_X12_encodedEnd 13 rfl) (hI.atS rfl) (hI.atE rfl) (to_iload_n (dat dk_X12_encodedEnd 14 rfl) rfl (to_iconst (dat dk_X12_encodedEnd 15 rfl) (to_iadd (dat dk_X12_encodedEnd 16 rfl) ?_))))
      obtain ⟨x5, ex5⟩ : ∃ y : Int, h.2.2 75 (Int.toNat (p + 1)) = y := ⟨_, rfl⟩
      have rx5 := hI.atR (a := 75) (j := Int.toNat (p + 1)) rfl
      rw [ex5] at rx5
      refine to_baldv (q := 1) ex5 (dat dk_X12_encodedEnd 17 rfl) (by decide) (hI.atS rfl) rfl (by decide) (by omega) (to_bipush (dat dk_X12_encodedEnd 18 rfl) (by decide) ?_)
      refine to_ieq 36 (dat dk_X12_encodedEnd 19 rfl) rfl (by omega) (by decide) (fun c6 => ?_) (fun c6 => ?_)
      · skip
        refine to_iload_n (dat dk_X12_encodedEnd 22 rfl) rfl (to_iconst (dat dk_X12_encodedEnd 23 rfl) (to_iadd (dat dk_X12_encodedEnd 24 rfl) (to_istore_n (L' := [(0, .inr (.inr 60)), (1, .inl p), (2, .inl (p + 2))]) (dat dk_X12_encodedEnd 25 rfl) (by decide) rfl ?_)))
        have lp40_n9 : ∀ (n9 : Nat) (y7 : Int), (I32 y7) → (p + 2 ≤ y7 ∧ y7 ≤ h.2.2 60 23) → (h.2.2 60 23 - y7 ≤ (n9 : Int)) → To l E_X12_encodedEnd (40, [(0, .inr (.inr 60)), (1, .inl p), (2, .inl y7)], [], h, 0, 0) (Q_X12_encodedEnd h p) := by
          intro n9
          induction n9 using Nat.strongRecOn with
          | _ n9 ihn9 =>
          intro y7 ry7 c8 c10
          refine to_iload_n (dat dk_X12_encodedEnd 26 rfl) rfl (to_aload_n (dat dk_X12_encodedEnd 27 rfl) rfl (to_getIv (y := x1) ex1 g_c13_171 (dat dk_X12_encodedEnd 28 rfl) (hI.atS rfl) ?_))
          refine to_ige 65 (dat dk_X12_encodedEnd 29 rfl) rfl ry7 (by omega) (fun c11 => ?_) (fun c11 => ?_)
          · skip
            refine to_aload_n (dat dk_X12_encodedEnd 38 rfl) rfl (to_getR 75 g_c13_60 (dat dk_X12_encodedEnd 39 rfl) (hI.atS rfl) (hI.atE rfl) (to_iload_n (dat dk_X12_encodedEnd 40 rfl) rfl (to_iconst (dat dk_X12_encodedEnd 41 rfl) (to_iadd (dat dk_X12_encodedEnd 42 rfl) (to_iload_n (dat dk_X12_encodedEnd 43 rfl) rfl (to_gst (C := "MailArchiveModel") (f9 := "UTF") (d9 := "[I") (List.mem_of_getElem? (i := 14) rfl) (tin 8 83 (by decide +kernel) rfl) (dat dk_X12_encodedEnd 44 rfl) (to_iconst (dat dk_X12_encodedEnd 45 rfl) (to_iconst (dat dk_X12_encodedEnd 46 rfl) ?_))))))))
            refine to_cI ca_c13_198 (dat dk_X12_encodedEnd 47 rfl) (ct_X12_same l h hI 75 1300 rfl (p + 2) (by omega) y7 ry7 1000213 5 (List.mem_of_getElem? (i := 12) rfl) 0 (by decide) 5 (by decide) (show 0 ≤ (p + 2) ∧ (p + 2) ≤ 640000 by omega) (show -1 ≤ y7 ∧ y7 ≤ 640000 by omega) (show 0 ≤ (0 : Int) ∧ (0 : Int) ≤ 100 by omega) (show 0 ≤ (5 : Int) ∧ (5 : Int) ≤ (5 : Int) by omega) (show y7 ≤ (1300 : Int) ∨ (p + 2) + ((5 : Int) - (0 : Int)) ≤ (1300 : Int) by omega)) rfl trivial rfl (fun x12 h13 rx12 p14 => ?_)
            obtain ⟨rfl, zx12⟩ := p14
            refine to_ifne 106 (dat dk_X12_encodedEnd 48 rfl) rfl rx12 (fun c15 => ?_) (fun c15 => ?_)
            · skip
              refine to_iload_n (dat dk_X12_encodedEnd 62 rfl) rfl (to_iconst (dat dk_X12_encodedEnd 63 rfl) (to_iadd (dat dk_X12_encodedEnd 64 rfl) (to_aload_n (dat dk_X12_encodedEnd 65 rfl) rfl (to_getIv (y := x1) ex1 g_c13_171 (dat dk_X12_encodedEnd 66 rfl) (hI.atS rfl) ?_))))
              refine to_ige 161 (dat dk_X12_encodedEnd 67 rfl) rfl (by omega) (by omega) (fun c16 => ?_) (fun c16 => ?_)
              · skip
                refine to_iconst (dat dk_X12_encodedEnd 94 rfl) ?_
                exact to_iret rfl (dat dk_X12_encodedEnd 95 rfl) (ri_mk (by decide) ⟨rfl, (show (-1 : Int) = -1 ∨ (p + 7 ≤ (-1 : Int) ∧ (-1 : Int) ≤ h.2.2 60 23) by omega), ⟨0, Or.inl rfl⟩⟩)
              · skip
                refine to_aload_n (dat dk_X12_encodedEnd 68 rfl) rfl (to_getR 75 g_c13_60 (dat dk_X12_encodedEnd 69 rfl) (hI.atS rfl) (hI.atE rfl) (to_iload_n (dat dk_X12_encodedEnd 70 rfl) rfl (to_iconst (dat dk_X12_encodedEnd 71 rfl) (to_iadd (dat dk_X12_encodedEnd 72 rfl) ?_))))
                obtain ⟨x17, ex17⟩ : ∃ y : Int, h.2.2 75 (Int.toNat (y7 + 2)) = y := ⟨_, rfl⟩
                have rx17 := hI.atR (a := 75) (j := Int.toNat (y7 + 2)) rfl
                rw [ex17] at rx17
                refine to_baldv (q := 1) ex17 (dat dk_X12_encodedEnd 73 rfl) (by decide) (hI.atS rfl) rfl (by decide) (by omega) (to_bipush (dat dk_X12_encodedEnd 74 rfl) (by decide) ?_)
                refine to_ine 161 (dat dk_X12_encodedEnd 75 rfl) rfl (by omega) (by decide) (fun c18 => ?_) (fun c18 => ?_)
                · skip
                  refine to_iconst (dat dk_X12_encodedEnd 94 rfl) ?_
                  exact to_iret rfl (dat dk_X12_encodedEnd 95 rfl) (ri_mk (by decide) ⟨rfl, (show (-1 : Int) = -1 ∨ (p + 7 ≤ (-1 : Int) ∧ (-1 : Int) ≤ h.2.2 60 23) by omega), ⟨0, Or.inl rfl⟩⟩)
                · skip
                  refine to_aload_n (dat dk_X12_encodedEnd 76 rfl) rfl (to_getR 75 g_c13_60 (dat dk_X12_encodedEnd 77 rfl) (hI.atS rfl) (hI.atE rfl) (to_iload_n (dat dk_X12_encodedEnd 78 rfl) rfl (to_iconst (dat dk_X12_encodedEnd 79 rfl) (to_iadd (dat dk_X12_encodedEnd 80 rfl) ?_))))
                  obtain ⟨x19, ex19⟩ : ∃ y : Int, h.2.2 75 (Int.toNat (y7 + 1)) = y := ⟨_, rfl⟩
                  have rx19 := hI.atR (a := 75) (j := Int.toNat (y7 + 1)) rfl
                  rw [ex19] at rx19
                  refine to_baldv (q := 1) ex19 (dat dk_X12_encodedEnd 81 rfl) (by decide) (hI.atS rfl) rfl (by decide) (by omega) ?_
                  refine to_cI ca_c13_157 (dat dk_X12_encodedEnd 82 rfl) (ct_X12_small l h hI x19 (by omega)) rfl trivial rfl (fun x20 h21 rx20 p22 => ?_)
                  subst p22
                  refine to_bipush (dat dk_X12_encodedEnd 83 rfl) (by decide) ?_
                  refine to_ieq 163 (dat dk_X12_encodedEnd 84 rfl) rfl rx20 (by decide) (fun c23 => ?_) (fun c23 => ?_)
                  · skip
                    refine to_iload_n (dat dk_X12_encodedEnd 96 rfl) rfl (to_iconst (dat dk_X12_encodedEnd 97 rfl) (to_iadd (dat dk_X12_encodedEnd 98 rfl) (to_istore_n (L' := [(0, .inr (.inr 60)), (1, .inl p), (2, .inl y7), (3, .inl (y7 + 3))]) (dat dk_X12_encodedEnd 99 rfl) (by decide) rfl ?_)))
                    have lp167_n26 : ∀ (n26 : Nat) (y24 : Int), (I32 y24) → (y7 + 3 ≤ y24 ∧ y24 ≤ h.2.2 60 23) → (h.2.2 60 23 - y24 ≤ (n26 : Int)) → To l E_X12_encodedEnd (167, [(0, .inr (.inr 60)), (1, .inl p), (2, .inl y7), (3, .inl y24)], [], h, 0, 0) (Q_X12_encodedEnd h p) := by
                      intro n26
                      induction n26 using Nat.strongRecOn with
                      | _ n26 ihn26 =>
                      intro y24 ry24 c25 c27
                      refine to_iload_n (dat dk_X12_encodedEnd 100 rfl) rfl (to_aload_n (dat dk_X12_encodedEnd 101 rfl) rfl (to_getIv (y := x1) ex1 g_c13_171 (dat dk_X12_encodedEnd 102 rfl) (hI.atS rfl) ?_))
                      refine to_ige 204 (dat dk_X12_encodedEnd 103 rfl) rfl ry24 (by omega) (fun c28 => ?_) (fun c28 => ?_)
                      · skip
                        refine to_iload_n (dat dk_X12_encodedEnd 118 rfl) rfl (to_iconst (dat dk_X12_encodedEnd 119 rfl) (to_iadd (dat dk_X12_encodedEnd 120 rfl) (to_aload_n (dat dk_X12_encodedEnd 121 rfl) rfl (to_getIv (y := x1) ex1 g_c13_171 (dat dk_X12_encodedEnd 122 rfl) (hI.atS rfl) ?_))))
                        refine to_ige 244 (dat dk_X12_encodedEnd 123 rfl) rfl (by omega) (by omega) (fun c29 => ?_) (fun c29 => ?_)
                        · skip
                          refine to_iconst (dat dk_X12_encodedEnd 142 rfl) ?_
                          exact to_iret rfl (dat dk_X12_encodedEnd 143 rfl) (ri_mk (by decide) ⟨rfl, (show (-1 : Int) = -1 ∨ (p + 7 ≤ (-1 : Int) ∧ (-1 : Int) ≤ h.2.2 60 23) by omega), ⟨0, Or.inl rfl⟩⟩)
                        · skip
                          refine to_aload_n (dat dk_X12_encodedEnd 124 rfl) rfl (to_getR 75 g_c13_60 (dat dk_X12_encodedEnd 125 rfl) (hI.atS rfl) (hI.atE rfl) (to_iload_n (dat dk_X12_encodedEnd 126 rfl) rfl ?_))
                          obtain ⟨x30, ex30⟩ : ∃ y : Int, h.2.2 75 (Int.toNat y24) = y := ⟨_, rfl⟩
                          have rx30 := hI.atR (a := 75) (j := Int.toNat y24) rfl
                          rw [ex30] at rx30
                          refine to_baldv (q := 1) ex30 (dat dk_X12_encodedEnd 127 rfl) (by decide) (hI.atS rfl) rfl (by decide) (by omega) (to_bipush (dat dk_X12_encodedEnd 128 rfl) (by decide) ?_)
                          refine to_ine 244 (dat dk_X12_encodedEnd 129 rfl) rfl (by omega) (by decide) (fun c31 => ?_) (fun c31 => ?_)
                          · skip
                            refine to_iconst (dat dk_X12_encodedEnd 142 rfl) ?_
                            exact to_iret rfl (dat dk_X12_encodedEnd 143 rfl) (ri_mk (by decide) ⟨rfl, (show (-1 : Int) = -1 ∨ (p + 7 ≤ (-1 : Int) ∧ (-1 : Int) ≤ h.2.2 60 23) by omega), ⟨0, Or.inl rfl⟩⟩)
                          · skip
                            refine to_aload_n (dat dk_X12_encodedEnd 130 rfl) rfl (to_getR 75 g_c13_60 (dat dk_X12_encodedEnd 131 rfl) (hI.atS rfl) (hI.atE rfl) (to_iload_n (dat dk_X12_encodedEnd 132 rfl) rfl (to_iconst (dat dk_X12_encodedEnd 133 rfl) (to_iadd (dat dk_X12_encodedEnd 134 rfl) ?_))))
                            obtain ⟨x32, ex32⟩ : ∃ y : Int, h.2.2 75 (Int.toNat (y24 + 1)) = y := ⟨_, rfl⟩
                            have rx32 := hI.atR (a := 75) (j := Int.toNat (y24 + 1)) rfl
                            rw [ex32] at rx32
                            refine to_baldv (q := 1) ex32 (dat dk_X12_encodedEnd 135 rfl) (by decide) (hI.atS rfl) rfl (by decide) (by omega) (to_bipush (dat dk_X12_encodedEnd 136 rfl) (by decide) ?_)
                            refine to_ine 244 (dat dk_X12_encodedEnd 137 rfl) rfl (by omega) (by decide) (fun c33 => ?_) (fun c33 => ?_)
                            · skip
                              refine to_iconst (dat dk_X12_encodedEnd 142 rfl) ?_
                              exact to_iret rfl (dat dk_X12_encodedEnd 143 rfl) (ri_mk (by decide) ⟨rfl, (show (-1 : Int) = -1 ∨ (p + 7 ≤ (-1 : Int) ∧ (-1 : Int) ≤ h.2.2 60 23) by omega), ⟨0, Or.inl rfl⟩⟩)
                            · skip
                              refine to_iload_n (dat dk_X12_encodedEnd 138 rfl) rfl (to_iconst (dat dk_X12_encodedEnd 139 rfl) (to_iadd (dat dk_X12_encodedEnd 140 rfl) (to_goto (dat dk_X12_encodedEnd 141 rfl) rfl ?_)))
                              exact to_iret rfl (dat dk_X12_encodedEnd 143 rfl) (ri_mk (by omega) ⟨rfl, (show (y24 + 2) = -1 ∨ (p + 7 ≤ (y24 + 2) ∧ (y24 + 2) ≤ h.2.2 60 23) by omega), ⟨Int.toNat y7, Or.inr ⟨by omega, by omega, by omega⟩⟩⟩)
                      · skip
                        refine to_aload_n (dat dk_X12_encodedEnd 104 rfl) rfl (to_getR 75 g_c13_60 (dat dk_X12_encodedEnd 105 rfl) (hI.atS rfl) (hI.atE rfl) (to_iload_n (dat dk_X12_encodedEnd 106 rfl) rfl ?_))
                        obtain ⟨x34, ex34⟩ : ∃ y : Int, h.2.2 75 (Int.toNat y24) = y := ⟨_, rfl⟩
                        have rx34 := hI.atR (a := 75) (j := Int.toNat y24) rfl
                        rw [ex34] at rx34
                        refine to_baldv (q := 1) ex34 (dat dk_X12_encodedEnd 107 rfl) (by decide) (hI.atS rfl) rfl (by decide) (by omega) (to_bipush (dat dk_X12_encodedEnd 108 rfl) (by decide) ?_)
                        refine to_ieq 204 (dat dk_X12_encodedEnd 109 rfl) rfl (by omega) (by decide) (fun c35 => ?_) (fun c35 => ?_)
                        · skip
                          refine to_iload_n (dat dk_X12_encodedEnd 118 rfl) rfl (to_iconst (dat dk_X12_encodedEnd 119 rfl) (to_iadd (dat dk_X12_encodedEnd 120 rfl) (to_aload_n (dat dk_X12_encodedEnd 121 rfl) rfl (to_getIv (y := x1) ex1 g_c13_171 (dat dk_X12_encodedEnd 122 rfl) (hI.atS rfl) ?_))))
                          refine to_ige 244 (dat dk_X12_encodedEnd 123 rfl) rfl (by omega) (by omega) (fun c36 => ?_) (fun c36 => ?_)
                          · skip
                            refine to_iconst (dat dk_X12_encodedEnd 142 rfl) ?_
                            exact to_iret rfl (dat dk_X12_encodedEnd 143 rfl) (ri_mk (by decide) ⟨rfl, (show (-1 : Int) = -1 ∨ (p + 7 ≤ (-1 : Int) ∧ (-1 : Int) ≤ h.2.2 60 23) by omega), ⟨0, Or.inl rfl⟩⟩)
                          · skip
                            refine to_aload_n (dat dk_X12_encodedEnd 124 rfl) rfl (to_getR 75 g_c13_60 (dat dk_X12_encodedEnd 125 rfl) (hI.atS rfl) (hI.atE rfl) (to_iload_n (dat dk_X12_encodedEnd 126 rfl) rfl ?_))
                            obtain ⟨x37, ex37⟩ : ∃ y : Int, h.2.2 75 (Int.toNat y24) = y := ⟨_, rfl⟩
                            have rx37 := hI.atR (a := 75) (j := Int.toNat y24) rfl
                            rw [ex37] at rx37
                            refine to_baldv (q := 1) ex37 (dat dk_X12_encodedEnd 127 rfl) (by decide) (hI.atS rfl) rfl (by decide) (by omega) (to_bipush (dat dk_X12_encodedEnd 128 rfl) (by decide) ?_)
                            refine to_ine 244 (dat dk_X12_encodedEnd 129 rfl) rfl (by omega) (by decide) (fun c38 => ?_) (fun c38 => ?_)
                            · skip
                              refine to_iconst (dat dk_X12_encodedEnd 142 rfl) ?_
                              exact to_iret rfl (dat dk_X12_encodedEnd 143 rfl) (ri_mk (by decide) ⟨rfl, (show (-1 : Int) = -1 ∨ (p + 7 ≤ (-1 : Int) ∧ (-1 : Int) ≤ h.2.2 60 23) by omega), ⟨0, Or.inl rfl⟩⟩)
                            · skip
                              refine to_aload_n (dat dk_X12_encodedEnd 130 rfl) rfl (to_getR 75 g_c13_60 (dat dk_X12_encodedEnd 131 rfl) (hI.atS rfl) (hI.atE rfl) (to_iload_n (dat dk_X12_encodedEnd 132 rfl) rfl (to_iconst (dat dk_X12_encodedEnd 133 rfl) (to_iadd (dat dk_X12_encodedEnd 134 rfl) ?_))))
                              obtain ⟨x39, ex39⟩ : ∃ y : Int, h.2.2 75 (Int.toNat (y24 + 1)) = y := ⟨_, rfl⟩
                              have rx39 := hI.atR (a := 75) (j := Int.toNat (y24 + 1)) rfl
                              rw [ex39] at rx39
                              refine to_baldv (q := 1) ex39 (dat dk_X12_encodedEnd 135 rfl) (by decide) (hI.atS rfl) rfl (by decide) (by omega) (to_bipush (dat dk_X12_encodedEnd 136 rfl) (by decide) ?_)
                              refine to_ine 244 (dat dk_X12_encodedEnd 137 rfl) rfl (by omega) (by decide) (fun c40 => ?_) (fun c40 => ?_)
                              · skip
                                refine to_iconst (dat dk_X12_encodedEnd 142 rfl) ?_
                                exact to_iret rfl (dat dk_X12_encodedEnd 143 rfl) (ri_mk (by decide) ⟨rfl, (show (-1 : Int) = -1 ∨ (p + 7 ≤ (-1 : Int) ∧ (-1 : Int) ≤ h.2.2 60 23) by omega), ⟨0, Or.inl rfl⟩⟩)
                              · skip
                                refine to_iload_n (dat dk_X12_encodedEnd 138 rfl) rfl (to_iconst (dat dk_X12_encodedEnd 139 rfl) (to_iadd (dat dk_X12_encodedEnd 140 rfl) (to_goto (dat dk_X12_encodedEnd 141 rfl) rfl ?_)))
                                exact to_iret rfl (dat dk_X12_encodedEnd 143 rfl) (ri_mk (by omega) ⟨rfl, (show (y24 + 2) = -1 ∨ (p + 7 ≤ (y24 + 2) ∧ (y24 + 2) ≤ h.2.2 60 23) by omega), ⟨Int.toNat y7, Or.inr ⟨by omega, by omega, by omega⟩⟩⟩)
                        · skip
                          refine to_aload_n (dat dk_X12_encodedEnd 110 rfl) rfl (to_getR 75 g_c13_60 (dat dk_X12_encodedEnd 111 rfl) (hI.atS rfl) (hI.atE rfl) (to_iload_n (dat dk_X12_encodedEnd 112 rfl) rfl ?_))
                          obtain ⟨x41, ex41⟩ : ∃ y : Int, h.2.2 75 (Int.toNat y24) = y := ⟨_, rfl⟩
                          have rx41 := hI.atR (a := 75) (j := Int.toNat y24) rfl
                          rw [ex41] at rx41
                          refine to_baldv (q := 1) ex41 (dat dk_X12_encodedEnd 113 rfl) (by decide) (hI.atS rfl) rfl (by decide) (by omega) ?_
                          refine to_cI ca_c13_182 (dat dk_X12_encodedEnd 114 rfl) (ct_X12_isBlank l h hI x41 (by omega)) rfl trivial rfl (fun x42 h43 rx42 p44 => ?_)
                          obtain ⟨rfl, zx42⟩ := p44
                          refine to_ifne 204 (dat dk_X12_encodedEnd 115 rfl) rfl rx42 (fun c45 => ?_) (fun c45 => ?_)
                          · skip
                            refine to_iload_n (dat dk_X12_encodedEnd 118 rfl) rfl (to_iconst (dat dk_X12_encodedEnd 119 rfl) (to_iadd (dat dk_X12_encodedEnd 120 rfl) (to_aload_n (dat dk_X12_encodedEnd 121 rfl) rfl (to_getIv (y := x1) ex1 g_c13_171 (dat dk_X12_encodedEnd 122 rfl) (hI.atS rfl) ?_))))
                            refine to_ige 244 (dat dk_X12_encodedEnd 123 rfl) rfl (by omega) (by omega) (fun c46 => ?_) (fun c46 => ?_)
                            · skip
                              refine to_iconst (dat dk_X12_encodedEnd 142 rfl) ?_
                              exact to_iret rfl (dat dk_X12_encodedEnd 143 rfl) (ri_mk (by decide) ⟨rfl, (show (-1 : Int) = -1 ∨ (p + 7 ≤ (-1 : Int) ∧ (-1 : Int) ≤ h.2.2 60 23) by omega), ⟨0, Or.inl rfl⟩⟩)
                            · skip
                              refine to_aload_n (dat dk_X12_encodedEnd 124 rfl) rfl (to_getR 75 g_c13_60 (dat dk_X12_encodedEnd 125 rfl) (hI.atS rfl) (hI.atE rfl) (to_iload_n (dat dk_X12_encodedEnd 126 rfl) rfl ?_))
                              obtain ⟨x47, ex47⟩ : ∃ y : Int, h.2.2 75 (Int.toNat y24) = y := ⟨_, rfl⟩
                              have rx47 := hI.atR (a := 75) (j := Int.toNat y24) rfl
                              rw [ex47] at rx47
                              refine to_baldv (q := 1) ex47 (dat dk_X12_encodedEnd 127 rfl) (by decide) (hI.atS rfl) rfl (by decide) (by omega) (to_bipush (dat dk_X12_encodedEnd 128 rfl) (by decide) ?_)
                              refine to_ine 244 (dat dk_X12_encodedEnd 129 rfl) rfl (by omega) (by decide) (fun c48 => ?_) (fun c48 => ?_)
                              · skip
                                refine to_iconst (dat dk_X12_encodedEnd 142 rfl) ?_
                                exact to_iret rfl (dat dk_X12_encodedEnd 143 rfl) (ri_mk (by decide) ⟨rfl, (show (-1 : Int) = -1 ∨ (p + 7 ≤ (-1 : Int) ∧ (-1 : Int) ≤ h.2.2 60 23) by omega), ⟨0, Or.inl rfl⟩⟩)
                              · skip
                                refine to_aload_n (dat dk_X12_encodedEnd 130 rfl) rfl (to_getR 75 g_c13_60 (dat dk_X12_encodedEnd 131 rfl) (hI.atS rfl) (hI.atE rfl) (to_iload_n (dat dk_X12_encodedEnd 132 rfl) rfl (to_iconst (dat dk_X12_encodedEnd 133 rfl) (to_iadd (dat dk_X12_encodedEnd 134 rfl) ?_))))
                                obtain ⟨x49, ex49⟩ : ∃ y : Int, h.2.2 75 (Int.toNat (y24 + 1)) = y := ⟨_, rfl⟩
                                have rx49 := hI.atR (a := 75) (j := Int.toNat (y24 + 1)) rfl
                                rw [ex49] at rx49
                                refine to_baldv (q := 1) ex49 (dat dk_X12_encodedEnd 135 rfl) (by decide) (hI.atS rfl) rfl (by decide) (by omega) (to_bipush (dat dk_X12_encodedEnd 136 rfl) (by decide) ?_)
                                refine to_ine 244 (dat dk_X12_encodedEnd 137 rfl) rfl (by omega) (by decide) (fun c50 => ?_) (fun c50 => ?_)
                                · skip
                                  refine to_iconst (dat dk_X12_encodedEnd 142 rfl) ?_
                                  exact to_iret rfl (dat dk_X12_encodedEnd 143 rfl) (ri_mk (by decide) ⟨rfl, (show (-1 : Int) = -1 ∨ (p + 7 ≤ (-1 : Int) ∧ (-1 : Int) ≤ h.2.2 60 23) by omega), ⟨0, Or.inl rfl⟩⟩)
                                · skip
                                  refine to_iload_n (dat dk_X12_encodedEnd 138 rfl) rfl (to_iconst (dat dk_X12_encodedEnd 139 rfl) (to_iadd (dat dk_X12_encodedEnd 140 rfl) (to_goto (dat dk_X12_encodedEnd 141 rfl) rfl ?_)))
                                  exact to_iret rfl (dat dk_X12_encodedEnd 143 rfl) (ri_mk (by omega) ⟨rfl, (show (y24 + 2) = -1 ∨ (p + 7 ≤ (y24 + 2) ∧ (y24 + 2) ≤ h.2.2 60 23) by omega), ⟨Int.toNat y7, Or.inr ⟨by omega, by omega, by omega⟩⟩⟩)
                          · skip
                            refine to_iinc (L' := [(0, .inr (.inr 60)), (1, .inl p), (2, .inl y7), (3, .inl (y24 + 1))]) (dat dk_X12_encodedEnd 116 rfl) rfl (by decide) rfl (to_goto (dat dk_X12_encodedEnd 117 rfl) rfl ?_)
                            exact ihn26 (n26 - 1) (by omega) (y24 + 1) (by omega) (show y7 + 3 ≤ (y24 + 1) ∧ (y24 + 1) ≤ h.2.2 60 23 by omega) (show h.2.2 60 23 - (y24 + 1) ≤ ((n26 - 1 : Nat) : Int) by omega)
                    exact lp167_n26 (h.2.2 60 23 - (y7 + 3)).toNat (y7 + 3) (by omega) (show y7 + 3 ≤ (y7 + 3) ∧ (y7 + 3) ≤ h.2.2 60 23 by omega) (by omega)
                  · skip
                    refine to_aload_n (dat dk_X12_encodedEnd 85 rfl) rfl (to_getR 75 g_c13_60 (dat dk_X12_encodedEnd 86 rfl) (hI.atS rfl) (hI.atE rfl) (to_iload_n (dat dk_X12_encodedEnd 87 rfl) rfl (to_iconst (dat dk_X12_encodedEnd 88 rfl) (to_iadd (dat dk_X12_encodedEnd 89 rfl) ?_))))
                    obtain ⟨x51, ex51⟩ : ∃ y : Int, h.2.2 75 (Int.toNat (y7 + 1)) = y := ⟨_, rfl⟩
                    have rx51 := hI.atR (a := 75) (j := Int.toNat (y7 + 1)) rfl
                    rw [ex51] at rx51
                    refine to_baldv (q := 1) ex51 (dat dk_X12_encodedEnd 90 rfl) (by decide) (hI.atS rfl) rfl (by decide) (by omega) ?_
                    refine to_cI ca_c13_157 (dat dk_X12_encodedEnd 91 rfl) (ct_X12_small l h hI x51 (by omega)) rfl trivial rfl (fun x52 h53 rx52 p54 => ?_)
                    subst p54
                    refine to_bipush (dat dk_X12_encodedEnd 92 rfl) (by decide) ?_
                    refine to_ieq 163 (dat dk_X12_encodedEnd 93 rfl) rfl rx52 (by decide) (fun c55 => ?_) (fun c55 => ?_)
                    · skip
                      refine to_iload_n (dat dk_X12_encodedEnd 96 rfl) rfl (to_iconst (dat dk_X12_encodedEnd 97 rfl) (to_iadd (dat dk_X12_encodedEnd 98 rfl) (to_istore_n (L' := [(0, .inr (.inr 60)), (1, .inl p), (2, .inl y7), (3, .inl (y7 + 3))]) (dat dk_X12_encodedEnd 99 rfl) (by decide) rfl ?_)))
                      have lp167_n58 : ∀ (n58 : Nat) (y56 : Int), (I32 y56) → (y7 + 3 ≤ y56 ∧ y56 ≤ h.2.2 60 23) → (h.2.2 60 23 - y56 ≤ (n58 : Int)) → To l E_X12_encodedEnd (167, [(0, .inr (.inr 60)), (1, .inl p), (2, .inl y7), (3, .inl y56)], [], h, 0, 0) (Q_X12_encodedEnd h p) := by
                        intro n58
                        induction n58 using Nat.strongRecOn with
                        | _ n58 ihn58 =>
                        intro y56 ry56 c57 c59
                        refine to_iload_n (dat dk_X12_encodedEnd 100 rfl) rfl (to_aload_n (dat dk_X12_encodedEnd 101 rfl) rfl (to_getIv (y := x1) ex1 g_c13_171 (dat dk_X12_encodedEnd 102 rfl) (hI.atS rfl) ?_))
                        refine to_ige 204 (dat dk_X12_encodedEnd 103 rfl) rfl ry56 (by omega) (fun c60 => ?_) (fun c60 => ?_)
                        · skip
                          refine to_iload_n (dat dk_X12_encodedEnd 118 rfl) rfl (to_iconst (dat dk_X12_encodedEnd 119 rfl) (to_iadd (dat dk_X12_encodedEnd 120 rfl) (to_aload_n (dat dk_X12_encodedEnd 121 rfl) rfl (to_getIv (y := x1) ex1 g_c13_171 (dat dk_X12_encodedEnd 122 rfl) (hI.atS rfl) ?_))))
                          refine to_ige 244 (dat dk_X12_encodedEnd 123 rfl) rfl (by omega) (by omega) (fun c61 => ?_) (fun c61 => ?_)
                          · skip
                            refine to_iconst (dat dk_X12_encodedEnd 142 rfl) ?_
                            exact to_iret rfl (dat dk_X12_encodedEnd 143 rfl) (ri_mk (by decide) ⟨rfl, (show (-1 : Int) = -1 ∨ (p + 7 ≤ (-1 : Int) ∧ (-1 : Int) ≤ h.2.2 60 23) by omega), ⟨0, Or.inl rfl⟩⟩)
                          · skip
                            refine to_aload_n (dat dk_X12_encodedEnd 124 rfl) rfl (to_getR 75 g_c13_60 (dat dk_X12_encodedEnd 125 rfl) (hI.atS rfl) (hI.atE rfl) (to_iload_n (dat dk_X12_encodedEnd 126 rfl) rfl ?_))
                            obtain ⟨x62, ex62⟩ : ∃ y : Int, h.2.2 75 (Int.toNat y56) = y := ⟨_, rfl⟩
                            have rx62 := hI.atR (a := 75) (j := Int.toNat y56) rfl
                            rw [ex62] at rx62
                            refine to_baldv (q := 1) ex62 (dat dk_X12_encodedEnd 127 rfl) (by decide) (hI.atS rfl) rfl (by decide) (by omega) (to_bipush (dat dk_X12_encodedEnd 128 rfl) (by decide) ?_)
                            refine to_ine 244 (dat dk_X12_encodedEnd 129 rfl) rfl (by omega) (by decide) (fun c63 => ?_) (fun c63 => ?_)
                            · skip
                              refine to_iconst (dat dk_X12_encodedEnd 142 rfl) ?_
                              exact to_iret rfl (dat dk_X12_encodedEnd 143 rfl) (ri_mk (by decide) ⟨rfl, (show (-1 : Int) = -1 ∨ (p + 7 ≤ (-1 : Int) ∧ (-1 : Int) ≤ h.2.2 60 23) by omega), ⟨0, Or.inl rfl⟩⟩)
                            · skip
                              refine to_aload_n (dat dk_X12_encodedEnd 130 rfl) rfl (to_getR 75 g_c13_60 (dat dk_X12_encodedEnd 131 rfl) (hI.atS rfl) (hI.atE rfl) (to_iload_n (dat dk_X12_encodedEnd 132 rfl) rfl (to_iconst (dat dk_X12_encodedEnd 133 rfl) (to_iadd (dat dk_X12_encodedEnd 134 rfl) ?_))))
                              obtain ⟨x64, ex64⟩ : ∃ y : Int, h.2.2 75 (Int.toNat (y56 + 1)) = y := ⟨_, rfl⟩
                              have rx64 := hI.atR (a := 75) (j := Int.toNat (y56 + 1)) rfl
                              rw [ex64] at rx64
                              refine to_baldv (q := 1) ex64 (dat dk_X12_encodedEnd 135 rfl) (by decide) (hI.atS rfl) rfl (by decide) (by omega) (to_bipush (dat dk_X12_encodedEnd 136 rfl) (by decide) ?_)
                              refine to_ine 244 (dat dk_X12_encodedEnd 137 rfl) rfl (by omega) (by decide) (fun c65 => ?_) (fun c65 => ?_)
                              · skip
                                refine to_iconst (dat dk_X12_encodedEnd 142 rfl) ?_
                                exact to_iret rfl (dat dk_X12_encodedEnd 143 rfl) (ri_mk (by decide) ⟨rfl, (show (-1 : Int) = -1 ∨ (p + 7 ≤ (-1 : Int) ∧ (-1 : Int) ≤ h.2.2 60 23) by omega), ⟨0, Or.inl rfl⟩⟩)
                              · skip
                                refine to_iload_n (dat dk_X12_encodedEnd 138 rfl) rfl (to_iconst (dat dk_X12_encodedEnd 139 rfl) (to_iadd (dat dk_X12_encodedEnd 140 rfl) (to_goto (dat dk_X12_encodedEnd 141 rfl) rfl ?_)))
                                exact to_iret rfl (dat dk_X12_encodedEnd 143 rfl) (ri_mk (by omega) ⟨rfl, (show (y56 + 2) = -1 ∨ (p + 7 ≤ (y56 + 2) ∧ (y56 + 2) ≤ h.2.2 60 23) by omega), ⟨Int.toNat y7, Or.inr ⟨by omega, by omega, by omega⟩⟩⟩)
                        · skip
                          refine to_aload_n (dat dk_X12_encodedEnd 104 rfl) rfl (to_getR 75 g_c13_60 (dat dk_X12_encodedEnd 105 rfl) (hI.atS rfl) (hI.atE rfl) (to_iload_n (dat dk_X12_encodedEnd 106 rfl) rfl ?_))
                          obtain ⟨x66, ex66⟩ : ∃ y : Int, h.2.2 75 (Int.toNat y56) = y := ⟨_, rfl⟩
                          have rx66 := hI.atR (a := 75) (j := Int.toNat y56) rfl
                          rw [ex66] at rx66
                          refine to_baldv (q := 1) ex66 (dat dk_X12_encodedEnd 107 rfl) (by decide) (hI.atS rfl) rfl (by decide) (by omega) (to_bipush (dat dk_X12_encodedEnd 108 rfl) (by decide) ?_)
                          refine to_ieq 204 (dat dk_X12_encodedEnd 109 rfl) rfl (by omega) (by decide) (fun c67 => ?_) (fun c67 => ?_)
                          · skip
                            refine to_iload_n (dat dk_X12_encodedEnd 118 rfl) rfl (to_iconst (dat dk_X12_encodedEnd 119 rfl) (to_iadd (dat dk_X12_encodedEnd 120 rfl) (to_aload_n (dat dk_X12_encodedEnd 121 rfl) rfl (to_getIv (y := x1) ex1 g_c13_171 (dat dk_X12_encodedEnd 122 rfl) (hI.atS rfl) ?_))))
                            refine to_ige 244 (dat dk_X12_encodedEnd 123 rfl) rfl (by omega) (by omega) (fun c68 => ?_) (fun c68 => ?_)
                            · skip
                              refine to_iconst (dat dk_X12_encodedEnd 142 rfl) ?_
                              exact to_iret rfl (dat dk_X12_encodedEnd 143 rfl) (ri_mk (by decide) ⟨rfl, (show (-1 : Int) = -1 ∨ (p + 7 ≤ (-1 : Int) ∧ (-1 : Int) ≤ h.2.2 60 23) by omega), ⟨0, Or.inl rfl⟩⟩)
                            · skip
                              refine to_aload_n (dat dk_X12_encodedEnd 124 rfl) rfl (to_getR 75 g_c13_60 (dat dk_X12_encodedEnd 125 rfl) (hI.atS rfl) (hI.atE rfl) (to_iload_n (dat dk_X12_encodedEnd 126 rfl) rfl ?_))
                              obtain ⟨x69, ex69⟩ : ∃ y : Int, h.2.2 75 (Int.toNat y56) = y := ⟨_, rfl⟩
                              have rx69 := hI.atR (a := 75) (j := Int.toNat y56) rfl
                              rw [ex69] at rx69
                              refine to_baldv (q := 1) ex69 (dat dk_X12_encodedEnd 127 rfl) (by decide) (hI.atS rfl) rfl (by decide) (by omega) (to_bipush (dat dk_X12_encodedEnd 128 rfl) (by decide) ?_)
                              refine to_ine 244 (dat dk_X12_encodedEnd 129 rfl) rfl (by omega) (by decide) (fun c70 => ?_) (fun c70 => ?_)
                              · skip
                                refine to_iconst (dat dk_X12_encodedEnd 142 rfl) ?_
                                exact to_iret rfl (dat dk_X12_encodedEnd 143 rfl) (ri_mk (by decide) ⟨rfl, (show (-1 : Int) = -1 ∨ (p + 7 ≤ (-1 : Int) ∧ (-1 : Int) ≤ h.2.2 60 23) by omega), ⟨0, Or.inl rfl⟩⟩)
                              · skip
                                refine to_aload_n (dat dk_X12_encodedEnd 130 rfl) rfl (to_getR 75 g_c13_60 (dat dk_X12_encodedEnd 131 rfl) (hI.atS rfl) (hI.atE rfl) (to_iload_n (dat dk_X12_encodedEnd 132 rfl) rfl (to_iconst (dat dk_X12_encodedEnd 133 rfl) (to_iadd (dat dk_X12_encodedEnd 134 rfl) ?_))))
                                obtain ⟨x71, ex71⟩ : ∃ y : Int, h.2.2 75 (Int.toNat (y56 + 1)) = y := ⟨_, rfl⟩
                                have rx71 := hI.atR (a := 75) (j := Int.toNat (y56 + 1)) rfl
                                rw [ex71] at rx71
                                refine to_baldv (q := 1) ex71 (dat dk_X12_encodedEnd 135 rfl) (by decide) (hI.atS rfl) rfl (by decide) (by omega) (to_bipush (dat dk_X12_encodedEnd 136 rfl) (by decide) ?_)
                                refine to_ine 244 (dat dk_X12_encodedEnd 137 rfl) rfl (by omega) (by decide) (fun c72 => ?_) (fun c72 => ?_)
                                · skip
                                  refine to_iconst (dat dk_X12_encodedEnd 142 rfl) ?_
                                  exact to_iret rfl (dat dk_X12_encodedEnd 143 rfl) (ri_mk (by decide) ⟨rfl, (show (-1 : Int) = -1 ∨ (p + 7 ≤ (-1 : Int) ∧ (-1 : Int) ≤ h.2.2 60 23) by omega), ⟨0, Or.inl rfl⟩⟩)
                                · skip
                                  refine to_iload_n (dat dk_X12_encodedEnd 138 rfl) rfl (to_iconst (dat dk_X12_encodedEnd 139 rfl) (to_iadd (dat dk_X12_encodedEnd 140 rfl) (to_goto (dat dk_X12_encodedEnd 141 rfl) rfl ?_)))
                                  exact to_iret rfl (dat dk_X12_encodedEnd 143 rfl) (ri_mk (by omega) ⟨rfl, (show (y56 + 2) = -1 ∨ (p + 7 ≤ (y56 + 2) ∧ (y56 + 2) ≤ h.2.2 60 23) by omega), ⟨Int.toNat y7, Or.inr ⟨by omega, by omega, by omega⟩⟩⟩)
                          · skip
                            refine to_aload_n (dat dk_X12_encodedEnd 110 rfl) rfl (to_getR 75 g_c13_60 (dat dk_X12_encodedEnd 111 rfl) (hI.atS rfl) (hI.atE rfl) (to_iload_n (dat dk_X12_encodedEnd 112 rfl) rfl ?_))
                            obtain ⟨x73, ex73⟩ : ∃ y : Int, h.2.2 75 (Int.toNat y56) = y := ⟨_, rfl⟩
                            have rx73 := hI.atR (a := 75) (j := Int.toNat y56) rfl
                            rw [ex73] at rx73
                            refine to_baldv (q := 1) ex73 (dat dk_X12_encodedEnd 113 rfl) (by decide) (hI.atS rfl) rfl (by decide) (by omega) ?_
                            refine to_cI ca_c13_182 (dat dk_X12_encodedEnd 114 rfl) (ct_X12_isBlank l h hI x73 (by omega)) rfl trivial rfl (fun x74 h75 rx74 p76 => ?_)
                            obtain ⟨rfl, zx74⟩ := p76
                            refine to_ifne 204 (dat dk_X12_encodedEnd 115 rfl) rfl rx74 (fun c77 => ?_) (fun c77 => ?_)
                            · skip
                              refine to_iload_n (dat dk_X12_encodedEnd 118 rfl) rfl (to_iconst (dat dk_X12_encodedEnd 119 rfl) (to_iadd (dat dk_X12_encodedEnd 120 rfl) (to_aload_n (dat dk_X12_encodedEnd 121 rfl) rfl (to_getIv (y := x1) ex1 g_c13_171 (dat dk_X12_encodedEnd 122 rfl) (hI.atS rfl) ?_))))
                              refine to_ige 244 (dat dk_X12_encodedEnd 123 rfl) rfl (by omega) (by omega) (fun c78 => ?_) (fun c78 => ?_)
                              · skip
                                refine to_iconst (dat dk_X12_encodedEnd 142 rfl) ?_
                                exact to_iret rfl (dat dk_X12_encodedEnd 143 rfl) (ri_mk (by decide) ⟨rfl, (show (-1 : Int) = -1 ∨ (p + 7 ≤ (-1 : Int) ∧ (-1 : Int) ≤ h.2.2 60 23) by omega), ⟨0, Or.inl rfl⟩⟩)
                              · skip
                                refine to_aload_n (dat dk_X12_encodedEnd 124 rfl) rfl (to_getR 75 g_c13_60 (dat dk_X12_encodedEnd 125 rfl) (hI.atS rfl) (hI.atE rfl) (to_iload_n (dat dk_X12_encodedEnd 126 rfl) rfl ?_))
                                obtain ⟨x79, ex79⟩ : ∃ y : Int, h.2.2 75 (Int.toNat y56) = y := ⟨_, rfl⟩
                                have rx79 := hI.atR (a := 75) (j := Int.toNat y56) rfl
                                rw [ex79] at rx79
                                refine to_baldv (q := 1) ex79 (dat dk_X12_encodedEnd 127 rfl) (by decide) (hI.atS rfl) rfl (by decide) (by omega) (to_bipush (dat dk_X12_encodedEnd 128 rfl) (by decide) ?_)
                                refine to_ine 244 (dat dk_X12_encodedEnd 129 rfl) rfl (by omega) (by decide) (fun c80 => ?_) (fun c80 => ?_)
                                · skip
                                  refine to_iconst (dat dk_X12_encodedEnd 142 rfl) ?_
                                  exact to_iret rfl (dat dk_X12_encodedEnd 143 rfl) (ri_mk (by decide) ⟨rfl, (show (-1 : Int) = -1 ∨ (p + 7 ≤ (-1 : Int) ∧ (-1 : Int) ≤ h.2.2 60 23) by omega), ⟨0, Or.inl rfl⟩⟩)
                                · skip
                                  refine to_aload_n (dat dk_X12_encodedEnd 130 rfl) rfl (to_getR 75 g_c13_60 (dat dk_X12_encodedEnd 131 rfl) (hI.atS rfl) (hI.atE rfl) (to_iload_n (dat dk_X12_encodedEnd 132 rfl) rfl (to_iconst (dat dk_X12_encodedEnd 133 rfl) (to_iadd (dat dk_X12_encodedEnd 134 rfl) ?_))))
                                  obtain ⟨x81, ex81⟩ : ∃ y : Int, h.2.2 75 (Int.toNat (y56 + 1)) = y := ⟨_, rfl⟩
                                  have rx81 := hI.atR (a := 75) (j := Int.toNat (y56 + 1)) rfl
                                  rw [ex81] at rx81
                                  refine to_baldv (q := 1) ex81 (dat dk_X12_encodedEnd 135 rfl) (by decide) (hI.atS rfl) rfl (by decide) (by omega) (to_bipush (dat dk_X12_encodedEnd 136 rfl) (by decide) ?_)
                                  refine to_ine 244 (dat dk_X12_encodedEnd 137 rfl) rfl (by omega) (by decide) (fun c82 => ?_) (fun c82 => ?_)
                                  · skip
                                    refine to_iconst (dat dk_X12_encodedEnd 142 rfl) ?_
                                    exact to_iret rfl (dat dk_X12_encodedEnd 143 rfl) (ri_mk (by decide) ⟨rfl, (show (-1 : Int) = -1 ∨ (p + 7 ≤ (-1 : Int) ∧ (-1 : Int) ≤ h.2.2 60 23) by omega), ⟨0, Or.inl rfl⟩⟩)
                                  · skip
                                    refine to_iload_n (dat dk_X12_encodedEnd 138 rfl) rfl (to_iconst (dat dk_X12_encodedEnd 139 rfl) (to_iadd (dat dk_X12_encodedEnd 140 rfl) (to_goto (dat dk_X12_encodedEnd 141 rfl) rfl ?_)))
                                    exact to_iret rfl (dat dk_X12_encodedEnd 143 rfl) (ri_mk (by omega) ⟨rfl, (show (y56 + 2) = -1 ∨ (p + 7 ≤ (y56 + 2) ∧ (y56 + 2) ≤ h.2.2 60 23) by omega), ⟨Int.toNat y7, Or.inr ⟨by omega, by omega, by omega⟩⟩⟩)
                            · skip
                              refine to_iinc (L' := [(0, .inr (.inr 60)), (1, .inl p), (2, .inl y7), (3, .inl (y56 + 1))]) (dat dk_X12_encodedEnd 116 rfl) rfl (by decide) rfl (to_goto (dat dk_X12_encodedEnd 117 rfl) rfl ?_)
                              exact ihn58 (n58 - 1) (by omega) (y56 + 1) (by omega) (show y7 + 3 ≤ (y56 + 1) ∧ (y56 + 1) ≤ h.2.2 60 23 by omega) (show h.2.2 60 23 - (y56 + 1) ≤ ((n58 - 1 : Nat) : Int) by omega)
                      exact lp167_n58 (h.2.2 60 23 - (y7 + 3)).toNat (y7 + 3) (by omega) (show y7 + 3 ≤ (y7 + 3) ∧ (y7 + 3) ≤ h.2.2 60 23 by omega) (by omega)
                    · skip
                      refine to_iconst (dat dk_X12_encodedEnd 94 rfl) ?_
                      exact to_iret rfl (dat dk_X12_encodedEnd 95 rfl) (ri_mk (by decide) ⟨rfl, (show (-1 : Int) = -1 ∨ (p + 7 ≤ (-1 : Int) ∧ (-1 : Int) ≤ h.2.2 60 23) by omega), ⟨0, Or.inl rfl⟩⟩)
            · skip
              refine to_aload_n (dat dk_X12_encodedEnd 49 rfl) rfl (to_getR 75 g_c13_60 (dat dk_X12_encodedEnd 50 rfl) (hI.atS rfl) (hI.atE rfl) (to_iload_n (dat dk_X12_encodedEnd 51 rfl) rfl (to_iconst (dat dk_X12_encodedEnd 52 rfl) (to_iadd (dat dk_X12_encodedEnd 53 rfl) (to_iload_n (dat dk_X12_encodedEnd 54 rfl) rfl (to_gst (C := "MailArchiveModel") (f9 := "ASCII") (d9 := "[I") (List.mem_of_getElem? (i := 3) rfl) (tin 8 85 (by decide +kernel) rfl) (dat dk_X12_encodedEnd 55 rfl) (to_iconst (dat dk_X12_encodedEnd 56 rfl) (to_bipush (dat dk_X12_encodedEnd 57 rfl) (by decide) ?_))))))))
              refine to_cI ca_c13_198 (dat dk_X12_encodedEnd 58 rfl) (ct_X12_same l h hI 75 1300 rfl (p + 2) (by omega) y7 ry7 1000202 8 (List.mem_of_getElem? (i := 1) rfl) 0 (by decide) 8 (by decide) (show 0 ≤ (p + 2) ∧ (p + 2) ≤ 640000 by omega) (show -1 ≤ y7 ∧ y7 ≤ 640000 by omega) (show 0 ≤ (0 : Int) ∧ (0 : Int) ≤ 100 by omega) (show 0 ≤ (8 : Int) ∧ (8 : Int) ≤ (8 : Int) by omega) (show y7 ≤ (1300 : Int) ∨ (p + 2) + ((8 : Int) - (0 : Int)) ≤ (1300 : Int) by omega)) rfl trivial rfl (fun x83 h84 rx83 p85 => ?_)
              obtain ⟨rfl, zx83⟩ := p85
              refine to_ifne 106 (dat dk_X12_encodedEnd 59 rfl) rfl rx83 (fun c86 => ?_) (fun c86 => ?_)
              · skip
                refine to_iload_n (dat dk_X12_encodedEnd 62 rfl) rfl (to_iconst (dat dk_X12_encodedEnd 63 rfl) (to_iadd (dat dk_X12_encodedEnd 64 rfl) (to_aload_n (dat dk_X12_encodedEnd 65 rfl) rfl (to_getIv (y := x1) ex1 g_c13_171 (dat dk_X12_encodedEnd 66 rfl) (hI.atS rfl) ?_))))
                refine to_ige 161 (dat dk_X12_encodedEnd 67 rfl) rfl (by omega) (by omega) (fun c87 => ?_) (fun c87 => ?_)
                · skip
                  refine to_iconst (dat dk_X12_encodedEnd 94 rfl) ?_
                  exact to_iret rfl (dat dk_X12_encodedEnd 95 rfl) (ri_mk (by decide) ⟨rfl, (show (-1 : Int) = -1 ∨ (p + 7 ≤ (-1 : Int) ∧ (-1 : Int) ≤ h.2.2 60 23) by omega), ⟨0, Or.inl rfl⟩⟩)
                · skip
                  refine to_aload_n (dat dk_X12_encodedEnd 68 rfl) rfl (to_getR 75 g_c13_60 (dat dk_X12_encodedEnd 69 rfl) (hI.atS rfl) (hI.atE rfl) (to_iload_n (dat dk_X12_encodedEnd 70 rfl) rfl (to_iconst (dat dk_X12_encodedEnd 71 rfl) (to_iadd (dat dk_X12_encodedEnd 72 rfl) ?_))))
                  obtain ⟨x88, ex88⟩ : ∃ y : Int, h.2.2 75 (Int.toNat (y7 + 2)) = y := ⟨_, rfl⟩
                  have rx88 := hI.atR (a := 75) (j := Int.toNat (y7 + 2)) rfl
                  rw [ex88] at rx88
                  refine to_baldv (q := 1) ex88 (dat dk_X12_encodedEnd 73 rfl) (by decide) (hI.atS rfl) rfl (by decide) (by omega) (to_bipush (dat dk_X12_encodedEnd 74 rfl) (by decide) ?_)
                  refine to_ine 161 (dat dk_X12_encodedEnd 75 rfl) rfl (by omega) (by decide) (fun c89 => ?_) (fun c89 => ?_)
                  · skip
                    refine to_iconst (dat dk_X12_encodedEnd 94 rfl) ?_
                    exact to_iret rfl (dat dk_X12_encodedEnd 95 rfl) (ri_mk (by decide) ⟨rfl, (show (-1 : Int) = -1 ∨ (p + 7 ≤ (-1 : Int) ∧ (-1 : Int) ≤ h.2.2 60 23) by omega), ⟨0, Or.inl rfl⟩⟩)
                  · skip
                    refine to_aload_n (dat dk_X12_encodedEnd 76 rfl) rfl (to_getR 75 g_c13_60 (dat dk_X12_encodedEnd 77 rfl) (hI.atS rfl) (hI.atE rfl) (to_iload_n (dat dk_X12_encodedEnd 78 rfl) rfl (to_iconst (dat dk_X12_encodedEnd 79 rfl) (to_iadd (dat dk_X12_encodedEnd 80 rfl) ?_))))
                    obtain ⟨x90, ex90⟩ : ∃ y : Int, h.2.2 75 (Int.toNat (y7 + 1)) = y := ⟨_, rfl⟩
                    have rx90 := hI.atR (a := 75) (j := Int.toNat (y7 + 1)) rfl
                    rw [ex90] at rx90
                    refine to_baldv (q := 1) ex90 (dat dk_X12_encodedEnd 81 rfl) (by decide) (hI.atS rfl) rfl (by decide) (by omega) ?_
                    refine to_cI ca_c13_157 (dat dk_X12_encodedEnd 82 rfl) (ct_X12_small l h hI x90 (by omega)) rfl trivial rfl (fun x91 h92 rx91 p93 => ?_)
                    subst p93
                    refine to_bipush (dat dk_X12_encodedEnd 83 rfl) (by decide) ?_
                    refine to_ieq 163 (dat dk_X12_encodedEnd 84 rfl) rfl rx91 (by decide) (fun c94 => ?_) (fun c94 => ?_)
                    · skip
                      refine to_iload_n (dat dk_X12_encodedEnd 96 rfl) rfl (to_iconst (dat dk_X12_encodedEnd 97 rfl) (to_iadd (dat dk_X12_encodedEnd 98 rfl) (to_istore_n (L' := [(0, .inr (.inr 60)), (1, .inl p), (2, .inl y7), (3, .inl (y7 + 3))]) (dat dk_X12_encodedEnd 99 rfl) (by decide) rfl ?_)))
                      have lp167_n97 : ∀ (n97 : Nat) (y95 : Int), (I32 y95) → (y7 + 3 ≤ y95 ∧ y95 ≤ h.2.2 60 23) → (h.2.2 60 23 - y95 ≤ (n97 : Int)) → To l E_X12_encodedEnd (167, [(0, .inr (.inr 60)), (1, .inl p), (2, .inl y7), (3, .inl y95)], [], h, 0, 0) (Q_X12_encodedEnd h p) := by
                        intro n97
                        induction n97 using Nat.strongRecOn with
                        | _ n97 ihn97 =>
                        intro y95 ry95 c96 c98
                        refine to_iload_n (dat dk_X12_encodedEnd 100 rfl) rfl (to_aload_n (dat dk_X12_encodedEnd 101 rfl) rfl (to_getIv (y := x1) ex1 g_c13_171 (dat dk_X12_encodedEnd 102 rfl) (hI.atS rfl) ?_))
                        refine to_ige 204 (dat dk_X12_encodedEnd 103 rfl) rfl ry95 (by omega) (fun c99 => ?_) (fun c99 => ?_)
                        · skip
                          refine to_iload_n (dat dk_X12_encodedEnd 118 rfl) rfl (to_iconst (dat dk_X12_encodedEnd 119 rfl) (to_iadd (dat dk_X12_encodedEnd 120 rfl) (to_aload_n (dat dk_X12_encodedEnd 121 rfl) rfl (to_getIv (y := x1) ex1 g_c13_171 (dat dk_X12_encodedEnd 122 rfl) (hI.atS rfl) ?_))))
                          refine to_ige 244 (dat dk_X12_encodedEnd 123 rfl) rfl (by omega) (by omega) (fun c100 => ?_) (fun c100 => ?_)
                          · skip
                            refine to_iconst (dat dk_X12_encodedEnd 142 rfl) ?_
                            exact to_iret rfl (dat dk_X12_encodedEnd 143 rfl) (ri_mk (by decide) ⟨rfl, (show (-1 : Int) = -1 ∨ (p + 7 ≤ (-1 : Int) ∧ (-1 : Int) ≤ h.2.2 60 23) by omega), ⟨0, Or.inl rfl⟩⟩)
                          · skip
                            refine to_aload_n (dat dk_X12_encodedEnd 124 rfl) rfl (to_getR 75 g_c13_60 (dat dk_X12_encodedEnd 125 rfl) (hI.atS rfl) (hI.atE rfl) (to_iload_n (dat dk_X12_encodedEnd 126 rfl) rfl ?_))
                            obtain ⟨x101, ex101⟩ : ∃ y : Int, h.2.2 75 (Int.toNat y95) = y := ⟨_, rfl⟩
                            have rx101 := hI.atR (a := 75) (j := Int.toNat y95) rfl
                            rw [ex101] at rx101
                            refine to_baldv (q := 1) ex101 (dat dk_X12_encodedEnd 127 rfl) (by decide) (hI.atS rfl) rfl (by decide) (by omega) (to_bipush (dat dk_X12_encodedEnd 128 rfl) (by decide) ?_)
                            refine to_ine 244 (dat dk_X12_encodedEnd 129 rfl) rfl (by omega) (by decide) (fun c102 => ?_) (fun c102 => ?_)
                            · skip
                              refine to_iconst (dat dk_X12_encodedEnd 142 rfl) ?_
                              exact to_iret rfl (dat dk_X12_encodedEnd 143 rfl) (ri_mk (by decide) ⟨rfl, (show (-1 : Int) = -1 ∨ (p + 7 ≤ (-1 : Int) ∧ (-1 : Int) ≤ h.2.2 60 23) by omega), ⟨0, Or.inl rfl⟩⟩)
                            · skip
                              refine to_aload_n (dat dk_X12_encodedEnd 130 rfl) rfl (to_getR 75 g_c13_60 (dat dk_X12_encodedEnd 131 rfl) (hI.atS rfl) (hI.atE rfl) (to_iload_n (dat dk_X12_encodedEnd 132 rfl) rfl (to_iconst (dat dk_X12_encodedEnd 133 rfl) (to_iadd (dat dk_X12_encodedEnd 134 rfl) ?_))))
                              obtain ⟨x103, ex103⟩ : ∃ y : Int, h.2.2 75 (Int.toNat (y95 + 1)) = y := ⟨_, rfl⟩
                              have rx103 := hI.atR (a := 75) (j := Int.toNat (y95 + 1)) rfl
                              rw [ex103] at rx103
                              refine to_baldv (q := 1) ex103 (dat dk_X12_encodedEnd 135 rfl) (by decide) (hI.atS rfl) rfl (by decide) (by omega) (to_bipush (dat dk_X12_encodedEnd 136 rfl) (by decide) ?_)
                              refine to_ine 244 (dat dk_X12_encodedEnd 137 rfl) rfl (by omega) (by decide) (fun c104 => ?_) (fun c104 => ?_)
                              · skip
                                refine to_iconst (dat dk_X12_encodedEnd 142 rfl) ?_
                                exact to_iret rfl (dat dk_X12_encodedEnd 143 rfl) (ri_mk (by decide) ⟨rfl, (show (-1 : Int) = -1 ∨ (p + 7 ≤ (-1 : Int) ∧ (-1 : Int) ≤ h.2.2 60 23) by omega), ⟨0, Or.inl rfl⟩⟩)
                              · skip
                                refine to_iload_n (dat dk_X12_encodedEnd 138 rfl) rfl (to_iconst (dat dk_X12_encodedEnd 139 rfl) (to_iadd (dat dk_X12_encodedEnd 140 rfl) (to_goto (dat dk_X12_encodedEnd 141 rfl) rfl ?_)))
                                exact to_iret rfl (dat dk_X12_encodedEnd 143 rfl) (ri_mk (by omega) ⟨rfl, (show (y95 + 2) = -1 ∨ (p + 7 ≤ (y95 + 2) ∧ (y95 + 2) ≤ h.2.2 60 23) by omega), ⟨Int.toNat y7, Or.inr ⟨by omega, by omega, by omega⟩⟩⟩)
                        · skip
                          refine to_aload_n (dat dk_X12_encodedEnd 104 rfl) rfl (to_getR 75 g_c13_60 (dat dk_X12_encodedEnd 105 rfl) (hI.atS rfl) (hI.atE rfl) (to_iload_n (dat dk_X12_encodedEnd 106 rfl) rfl ?_))
                          obtain ⟨x105, ex105⟩ : ∃ y : Int, h.2.2 75 (Int.toNat y95) = y := ⟨_, rfl⟩
                          have rx105 := hI.atR (a := 75) (j := Int.toNat y95) rfl
                          rw [ex105] at rx105
                          refine to_baldv (q := 1) ex105 (dat dk_X12_encodedEnd 107 rfl) (by decide) (hI.atS rfl) rfl (by decide) (by omega) (to_bipush (dat dk_X12_encodedEnd 108 rfl) (by decide) ?_)
                          refine to_ieq 204 (dat dk_X12_encodedEnd 109 rfl) rfl (by omega) (by decide) (fun c106 => ?_) (fun c106 => ?_)
                          · skip
                            refine to_iload_n (dat dk_X12_encodedEnd 118 rfl) rfl (to_iconst (dat dk_X12_encodedEnd 119 rfl) (to_iadd (dat dk_X12_encodedEnd 120 rfl) (to_aload_n (dat dk_X12_encodedEnd 121 rfl) rfl (to_getIv (y := x1) ex1 g_c13_171 (dat dk_X12_encodedEnd 122 rfl) (hI.atS rfl) ?_))))
                            refine to_ige 244 (dat dk_X12_encodedEnd 123 rfl) rfl (by omega) (by omega) (fun c107 => ?_) (fun c107 => ?_)
                            · skip
                              refine to_iconst (dat dk_X12_encodedEnd 142 rfl) ?_
                              exact to_iret rfl (dat dk_X12_encodedEnd 143 rfl) (ri_mk (by decide) ⟨rfl, (show (-1 : Int) = -1 ∨ (p + 7 ≤ (-1 : Int) ∧ (-1 : Int) ≤ h.2.2 60 23) by omega), ⟨0, Or.inl rfl⟩⟩)
                            · skip
                              refine to_aload_n (dat dk_X12_encodedEnd 124 rfl) rfl (to_getR 75 g_c13_60 (dat dk_X12_encodedEnd 125 rfl) (hI.atS rfl) (hI.atE rfl) (to_iload_n (dat dk_X12_encodedEnd 126 rfl) rfl ?_))
                              obtain ⟨x108, ex108⟩ : ∃ y : Int, h.2.2 75 (Int.toNat y95) = y := ⟨_, rfl⟩
                              have rx108 := hI.atR (a := 75) (j := Int.toNat y95) rfl
                              rw [ex108] at rx108
                              refine to_baldv (q := 1) ex108 (dat dk_X12_encodedEnd 127 rfl) (by decide) (hI.atS rfl) rfl (by decide) (by omega) (to_bipush (dat dk_X12_encodedEnd 128 rfl) (by decide) ?_)
                              refine to_ine 244 (dat dk_X12_encodedEnd 129 rfl) rfl (by omega) (by decide) (fun c109 => ?_) (fun c109 => ?_)
                              · skip
                                refine to_iconst (dat dk_X12_encodedEnd 142 rfl) ?_
                                exact to_iret rfl (dat dk_X12_encodedEnd 143 rfl) (ri_mk (by decide) ⟨rfl, (show (-1 : Int) = -1 ∨ (p + 7 ≤ (-1 : Int) ∧ (-1 : Int) ≤ h.2.2 60 23) by omega), ⟨0, Or.inl rfl⟩⟩)
                              · skip
                                refine to_aload_n (dat dk_X12_encodedEnd 130 rfl) rfl (to_getR 75 g_c13_60 (dat dk_X12_encodedEnd 131 rfl) (hI.atS rfl) (hI.atE rfl) (to_iload_n (dat dk_X12_encodedEnd 132 rfl) rfl (to_iconst (dat dk_X12_encodedEnd 133 rfl) (to_iadd (dat dk_X12_encodedEnd 134 rfl) ?_))))
                                obtain ⟨x110, ex110⟩ : ∃ y : Int, h.2.2 75 (Int.toNat (y95 + 1)) = y := ⟨_, rfl⟩
                                have rx110 := hI.atR (a := 75) (j := Int.toNat (y95 + 1)) rfl
                                rw [ex110] at rx110
                                refine to_baldv (q := 1) ex110 (dat dk_X12_encodedEnd 135 rfl) (by decide) (hI.atS rfl) rfl (by decide) (by omega) (to_bipush (dat dk_X12_encodedEnd 136 rfl) (by decide) ?_)
                                refine to_ine 244 (dat dk_X12_encodedEnd 137 rfl) rfl (by omega) (by decide) (fun c111 => ?_) (fun c111 => ?_)
                                · skip
                                  refine to_iconst (dat dk_X12_encodedEnd 142 rfl) ?_
                                  exact to_iret rfl (dat dk_X12_encodedEnd 143 rfl) (ri_mk (by decide) ⟨rfl, (show (-1 : Int) = -1 ∨ (p + 7 ≤ (-1 : Int) ∧ (-1 : Int) ≤ h.2.2 60 23) by omega), ⟨0, Or.inl rfl⟩⟩)
                                · skip
                                  refine to_iload_n (dat dk_X12_encodedEnd 138 rfl) rfl (to_iconst (dat dk_X12_encodedEnd 139 rfl) (to_iadd (dat dk_X12_encodedEnd 140 rfl) (to_goto (dat dk_X12_encodedEnd 141 rfl) rfl ?_)))
                                  exact to_iret rfl (dat dk_X12_encodedEnd 143 rfl) (ri_mk (by omega) ⟨rfl, (show (y95 + 2) = -1 ∨ (p + 7 ≤ (y95 + 2) ∧ (y95 + 2) ≤ h.2.2 60 23) by omega), ⟨Int.toNat y7, Or.inr ⟨by omega, by omega, by omega⟩⟩⟩)
                          · skip
                            refine to_aload_n (dat dk_X12_encodedEnd 110 rfl) rfl (to_getR 75 g_c13_60 (dat dk_X12_encodedEnd 111 rfl) (hI.atS rfl) (hI.atE rfl) (to_iload_n (dat dk_X12_encodedEnd 112 rfl) rfl ?_))
                            obtain ⟨x112, ex112⟩ : ∃ y : Int, h.2.2 75 (Int.toNat y95) = y := ⟨_, rfl⟩
                            have rx112 := hI.atR (a := 75) (j := Int.toNat y95) rfl
                            rw [ex112] at rx112
                            refine to_baldv (q := 1) ex112 (dat dk_X12_encodedEnd 113 rfl) (by decide) (hI.atS rfl) rfl (by decide) (by omega) ?_
                            refine to_cI ca_c13_182 (dat dk_X12_encodedEnd 114 rfl) (ct_X12_isBlank l h hI x112 (by omega)) rfl trivial rfl (fun x113 h114 rx113 p115 => ?_)
                            obtain ⟨rfl, zx113⟩ := p115
                            refine to_ifne 204 (dat dk_X12_encodedEnd 115 rfl) rfl rx113 (fun c116 => ?_) (fun c116 => ?_)
                            · skip
                              refine to_iload_n (dat dk_X12_encodedEnd 118 rfl) rfl (to_iconst (dat dk_X12_encodedEnd 119 rfl) (to_iadd (dat dk_X12_encodedEnd 120 rfl) (to_aload_n (dat dk_X12_encodedEnd 121 rfl) rfl (to_getIv (y := x1) ex1 g_c13_171 (dat dk_X12_encodedEnd 122 rfl) (hI.atS rfl) ?_))))
                              refine to_ige 244 (dat dk_X12_encodedEnd 123 rfl) rfl (by omega) (by omega) (fun c117 => ?_) (fun c117 => ?_)
                              · skip
                                refine to_iconst (dat dk_X12_encodedEnd 142 rfl) ?_
                                exact to_iret rfl (dat dk_X12_encodedEnd 143 rfl) (ri_mk (by decide) ⟨rfl, (show (-1 : Int) = -1 ∨ (p + 7 ≤ (-1 : Int) ∧ (-1 : Int) ≤ h.2.2 60 23) by omega), ⟨0, Or.inl rfl⟩⟩)
                              · skip
                                refine to_aload_n (dat dk_X12_encodedEnd 124 rfl) rfl (to_getR 75 g_c13_60 (dat dk_X12_encodedEnd 125 rfl) (hI.atS rfl) (hI.atE rfl) (to_iload_n (dat dk_X12_encodedEnd 126 rfl) rfl ?_))
                                obtain ⟨x118, ex118⟩ : ∃ y : Int, h.2.2 75 (Int.toNat y95) = y := ⟨_, rfl⟩
                                have rx118 := hI.atR (a := 75) (j := Int.toNat y95) rfl
                                rw [ex118] at rx118
                                refine to_baldv (q := 1) ex118 (dat dk_X12_encodedEnd 127 rfl) (by decide) (hI.atS rfl) rfl (by decide) (by omega) (to_bipush (dat dk_X12_encodedEnd 128 rfl) (by decide) ?_)
                                refine to_ine 244 (dat dk_X12_encodedEnd 129 rfl) rfl (by omega) (by decide) (fun c119 => ?_) (fun c119 => ?_)
                                · skip
                                  refine to_iconst (dat dk_X12_encodedEnd 142 rfl) ?_
                                  exact to_iret rfl (dat dk_X12_encodedEnd 143 rfl) (ri_mk (by decide) ⟨rfl, (show (-1 : Int) = -1 ∨ (p + 7 ≤ (-1 : Int) ∧ (-1 : Int) ≤ h.2.2 60 23) by omega), ⟨0, Or.inl rfl⟩⟩)
                                · skip
                                  refine to_aload_n (dat dk_X12_encodedEnd 130 rfl) rfl (to_getR 75 g_c13_60 (dat dk_X12_encodedEnd 131 rfl) (hI.atS rfl) (hI.atE rfl) (to_iload_n (dat dk_X12_encodedEnd 132 rfl) rfl (to_iconst (dat dk_X12_encodedEnd 133 rfl) (to_iadd (dat dk_X12_encodedEnd 134 rfl) ?_))))
                                  obtain ⟨x120, ex120⟩ : ∃ y : Int, h.2.2 75 (Int.toNat (y95 + 1)) = y := ⟨_, rfl⟩
                                  have rx120 := hI.atR (a := 75) (j := Int.toNat (y95 + 1)) rfl
                                  rw [ex120] at rx120
                                  refine to_baldv (q := 1) ex120 (dat dk_X12_encodedEnd 135 rfl) (by decide) (hI.atS rfl) rfl (by decide) (by omega) (to_bipush (dat dk_X12_encodedEnd 136 rfl) (by decide) ?_)
                                  refine to_ine 244 (dat dk_X12_encodedEnd 137 rfl) rfl (by omega) (by decide) (fun c121 => ?_) (fun c121 => ?_)
                                  · skip
                                    refine to_iconst (dat dk_X12_encodedEnd 142 rfl) ?_
                                    exact to_iret rfl (dat dk_X12_encodedEnd 143 rfl) (ri_mk (by decide) ⟨rfl, (show (-1 : Int) = -1 ∨ (p + 7 ≤ (-1 : Int) ∧ (-1 : Int) ≤ h.2.2 60 23) by omega), ⟨0, Or.inl rfl⟩⟩)
                                  · skip
                                    refine to_iload_n (dat dk_X12_encodedEnd 138 rfl) rfl (to_iconst (dat dk_X12_encodedEnd 139 rfl) (to_iadd (dat dk_X12_encodedEnd 140 rfl) (to_goto (dat dk_X12_encodedEnd 141 rfl) rfl ?_)))
                                    exact to_iret rfl (dat dk_X12_encodedEnd 143 rfl) (ri_mk (by omega) ⟨rfl, (show (y95 + 2) = -1 ∨ (p + 7 ≤ (y95 + 2) ∧ (y95 + 2) ≤ h.2.2 60 23) by omega), ⟨Int.toNat y7, Or.inr ⟨by omega, by omega, by omega⟩⟩⟩)
                            · skip
                              refine to_iinc (L' := [(0, .inr (.inr 60)), (1, .inl p), (2, .inl y7), (3, .inl (y95 + 1))]) (dat dk_X12_encodedEnd 116 rfl) rfl (by decide) rfl (to_goto (dat dk_X12_encodedEnd 117 rfl) rfl ?_)
                              exact ihn97 (n97 - 1) (by omega) (y95 + 1) (by omega) (show y7 + 3 ≤ (y95 + 1) ∧ (y95 + 1) ≤ h.2.2 60 23 by omega) (show h.2.2 60 23 - (y95 + 1) ≤ ((n97 - 1 : Nat) : Int) by omega)
                      exact lp167_n97 (h.2.2 60 23 - (y7 + 3)).toNat (y7 + 3) (by omega) (show y7 + 3 ≤ (y7 + 3) ∧ (y7 + 3) ≤ h.2.2 60 23 by omega) (by omega)
                    · skip
                      refine to_aload_n (dat dk_X12_encodedEnd 85 rfl) rfl (to_getR 75 g_c13_60 (dat dk_X12_encodedEnd 86 rfl) (hI.atS rfl) (hI.atE rfl) (to_iload_n (dat dk_X12_encodedEnd 87 rfl) rfl (to_iconst (dat dk_X12_encodedEnd 88 rfl) (to_iadd (dat dk_X12_encodedEnd 89 rfl) ?_))))
                      obtain ⟨x122, ex122⟩ : ∃ y : Int, h.2.2 75 (Int.toNat (y7 + 1)) = y := ⟨_, rfl⟩
                      have rx122 := hI.atR (a := 75) (j := Int.toNat (y7 + 1)) rfl
                      rw [ex122] at rx122
                      refine to_baldv (q := 1) ex122 (dat dk_X12_encodedEnd 90 rfl) (by decide) (hI.atS rfl) rfl (by decide) (by omega) ?_
                      refine to_cI ca_c13_157 (dat dk_X12_encodedEnd 91 rfl) (ct_X12_small l h hI x122 (by omega)) rfl trivial rfl (fun x123 h124 rx123 p125 => ?_)
                      subst p125
                      refine to_bipush (dat dk_X12_encodedEnd 92 rfl) (by decide) ?_
                      refine to_ieq 163 (dat dk_X12_encodedEnd 93 rfl) rfl rx123 (by decide) (fun c126 => ?_) (fun c126 => ?_)
                      · skip
                        refine to_iload_n (dat dk_X12_encodedEnd 96 rfl) rfl (to_iconst (dat dk_X12_encodedEnd 97 rfl) (to_iadd (dat dk_X12_encodedEnd 98 rfl) (to_istore_n (L' := [(0, .inr (.inr 60)), (1, .inl p), (2, .inl y7), (3, .inl (y7 + 3))]) (dat dk_X12_encodedEnd 99 rfl) (by decide) rfl ?_)))
                        have lp167_n129 : ∀ (n129 : Nat) (y127 : Int), (I32 y127) → (y7 + 3 ≤ y127 ∧ y127 ≤ h.2.2 60 23) → (h.2.2 60 23 - y127 ≤ (n129 : Int)) → To l E_X12_encodedEnd (167, [(0, .inr (.inr 60)), (1, .inl p), (2, .inl y7), (3, .inl y127)], [], h, 0, 0) (Q_X12_encodedEnd h p) := by
                          intro n129
                          induction n129 using Nat.strongRecOn with
                          | _ n129 ihn129 =>
                          intro y127 ry127 c128 c130
                          refine to_iload_n (dat dk_X12_encodedEnd 100 rfl) rfl (to_aload_n (dat dk_X12_encodedEnd 101 rfl) rfl (to_getIv (y := x1) ex1 g_c13_171 (dat dk_X12_encodedEnd 102 rfl) (hI.atS rfl) ?_))
                          refine to_ige 204 (dat dk_X12_encodedEnd 103 rfl) rfl ry127 (by omega) (fun c131 => ?_) (fun c131 => ?_)
                          · skip
                            refine to_iload_n (dat dk_X12_encodedEnd 118 rfl) rfl (to_iconst (dat dk_X12_encodedEnd 119 rfl) (to_iadd (dat dk_X12_encodedEnd 120 rfl) (to_aload_n (dat dk_X12_encodedEnd 121 rfl) rfl (to_getIv (y := x1) ex1 g_c13_171 (dat dk_X12_encodedEnd 122 rfl) (hI.atS rfl) ?_))))
                            refine to_ige 244 (dat dk_X12_encodedEnd 123 rfl) rfl (by omega) (by omega) (fun c132 => ?_) (fun c132 => ?_)
                            · skip
                              refine to_iconst (dat dk_X12_encodedEnd 142 rfl) ?_
                              exact to_iret rfl (dat dk_X12_encodedEnd 143 rfl) (ri_mk (by decide) ⟨rfl, (show (-1 : Int) = -1 ∨ (p + 7 ≤ (-1 : Int) ∧ (-1 : Int) ≤ h.2.2 60 23) by omega), ⟨0, Or.inl rfl⟩⟩)
                            · skip
                              refine to_aload_n (dat dk_X12_encodedEnd 124 rfl) rfl (to_getR 75 g_c13_60 (dat dk_X12_encodedEnd 125 rfl) (hI.atS rfl) (hI.atE rfl) (to_iload_n (dat dk_X12_encodedEnd 126 rfl) rfl ?_))
                              obtain ⟨x133, ex133⟩ : ∃ y : Int, h.2.2 75 (Int.toNat y127) = y := ⟨_, rfl⟩
                              have rx133 := hI.atR (a := 75) (j := Int.toNat y127) rfl
                              rw [ex133] at rx133
                              refine to_baldv (q := 1) ex133 (dat dk_X12_encodedEnd 127 rfl) (by decide) (hI.atS rfl) rfl (by decide) (by omega) (to_bipush (dat dk_X12_encodedEnd 128 rfl) (by decide) ?_)
                              refine to_ine 244 (dat dk_X12_encodedEnd 129 rfl) rfl (by omega) (by decide) (fun c134 => ?_) (fun c134 => ?_)
                              · skip
                                refine to_iconst (dat dk_X12_encodedEnd 142 rfl) ?_
                                exact to_iret rfl (dat dk_X12_encodedEnd 143 rfl) (ri_mk (by decide) ⟨rfl, (show (-1 : Int) = -1 ∨ (p + 7 ≤ (-1 : Int) ∧ (-1 : Int) ≤ h.2.2 60 23) by omega), ⟨0, Or.inl rfl⟩⟩)
                              · skip
                                refine to_aload_n (dat dk_X12_encodedEnd 130 rfl) rfl (to_getR 75 g_c13_60 (dat dk_X12_encodedEnd 131 rfl) (hI.atS rfl) (hI.atE rfl) (to_iload_n (dat dk_X12_encodedEnd 132 rfl) rfl (to_iconst (dat dk_X12_encodedEnd 133 rfl) (to_iadd (dat dk_X12_encodedEnd 134 rfl) ?_))))
                                obtain ⟨x135, ex135⟩ : ∃ y : Int, h.2.2 75 (Int.toNat (y127 + 1)) = y := ⟨_, rfl⟩
                                have rx135 := hI.atR (a := 75) (j := Int.toNat (y127 + 1)) rfl
                                rw [ex135] at rx135
                                refine to_baldv (q := 1) ex135 (dat dk_X12_encodedEnd 135 rfl) (by decide) (hI.atS rfl) rfl (by decide) (by omega) (to_bipush (dat dk_X12_encodedEnd 136 rfl) (by decide) ?_)
                                refine to_ine 244 (dat dk_X12_encodedEnd 137 rfl) rfl (by omega) (by decide) (fun c136 => ?_) (fun c136 => ?_)
                                · skip
                                  refine to_iconst (dat dk_X12_encodedEnd 142 rfl) ?_
                                  exact to_iret rfl (dat dk_X12_encodedEnd 143 rfl) (ri_mk (by decide) ⟨rfl, (show (-1 : Int) = -1 ∨ (p + 7 ≤ (-1 : Int) ∧ (-1 : Int) ≤ h.2.2 60 23) by omega), ⟨0, Or.inl rfl⟩⟩)
                                · skip
                                  refine to_iload_n (dat dk_X12_encodedEnd 138 rfl) rfl (to_iconst (dat dk_X12_encodedEnd 139 rfl) (to_iadd (dat dk_X12_encodedEnd 140 rfl) (to_goto (dat dk_X12_encodedEnd 141 rfl) rfl ?_)))
                                  exact to_iret rfl (dat dk_X12_encodedEnd 143 rfl) (ri_mk (by omega) ⟨rfl, (show (y127 + 2) = -1 ∨ (p + 7 ≤ (y127 + 2) ∧ (y127 + 2) ≤ h.2.2 60 23) by omega), ⟨Int.toNat y7, Or.inr ⟨by omega, by omega, by omega⟩⟩⟩)
                          · skip
                            refine to_aload_n (dat dk_X12_encodedEnd 104 rfl) rfl (to_getR 75 g_c13_60 (dat dk_X12_encodedEnd 105 rfl) (hI.atS rfl) (hI.atE rfl) (to_iload_n (dat dk_X12_encodedEnd 106 rfl) rfl ?_))
                            obtain ⟨x137, ex137⟩ : ∃ y : Int, h.2.2 75 (Int.toNat y127) = y := ⟨_, rfl⟩
                            have rx137 := hI.atR (a := 75) (j := Int.toNat y127) rfl
                            rw [ex137] at rx137
                            refine to_baldv (q := 1) ex137 (dat dk_X12_encodedEnd 107 rfl) (by decide) (hI.atS rfl) rfl (by decide) (by omega) (to_bipush (dat dk_X12_encodedEnd 108 rfl) (by decide) ?_)
                            refine to_ieq 204 (dat dk_X12_encodedEnd 109 rfl) rfl (by omega) (by decide) (fun c138 => ?_) (fun c138 => ?_)
                            · skip
                              refine to_iload_n (dat dk_X12_encodedEnd 118 rfl) rfl (to_iconst (dat dk_X12_encodedEnd 119 rfl) (to_iadd (dat dk_X12_encodedEnd 120 rfl) (to_aload_n (dat dk_X12_encodedEnd 121 rfl) rfl (to_getIv (y := x1) ex1 g_c13_171 (dat dk_X12_encodedEnd 122 rfl) (hI.atS rfl) ?_))))
                              refine to_ige 244 (dat dk_X12_encodedEnd 123 rfl) rfl (by omega) (by omega) (fun c139 => ?_) (fun c139 => ?_)
                              · skip
                                refine to_iconst (dat dk_X12_encodedEnd 142 rfl) ?_
                                exact to_iret rfl (dat dk_X12_encodedEnd 143 rfl) (ri_mk (by decide) ⟨rfl, (show (-1 : Int) = -1 ∨ (p + 7 ≤ (-1 : Int) ∧ (-1 : Int) ≤ h.2.2 60 23) by omega), ⟨0, Or.inl rfl⟩⟩)
                              · skip
                                refine to_aload_n (dat dk_X12_encodedEnd 124 rfl) rfl (to_getR 75 g_c13_60 (dat dk_X12_encodedEnd 125 rfl) (hI.atS rfl) (hI.atE rfl) (to_iload_n (dat dk_X12_encodedEnd 126 rfl) rfl ?_))
                                obtain ⟨x140, ex140⟩ : ∃ y : Int, h.2.2 75 (Int.toNat y127) = y := ⟨_, rfl⟩
                                have rx140 := hI.atR (a := 75) (j := Int.toNat y127) rfl
                                rw [ex140] at rx140
                                refine to_baldv (q := 1) ex140 (dat dk_X12_encodedEnd 127 rfl) (by decide) (hI.atS rfl) rfl (by decide) (by omega) (to_bipush (dat dk_X12_encodedEnd 128 rfl) (by decide) ?_)
                                refine to_ine 244 (dat dk_X12_encodedEnd 129 rfl) rfl (by omega) (by decide) (fun c141 => ?_) (fun c141 => ?_)
                                · skip
                                  refine to_iconst (dat dk_X12_encodedEnd 142 rfl) ?_
                                  exact to_iret rfl (dat dk_X12_encodedEnd 143 rfl) (ri_mk (by decide) ⟨rfl, (show (-1 : Int) = -1 ∨ (p + 7 ≤ (-1 : Int) ∧ (-1 : Int) ≤ h.2.2 60 23) by omega), ⟨0, Or.inl rfl⟩⟩)
                                · skip
                                  refine to_aload_n (dat dk_X12_encodedEnd 130 rfl) rfl (to_getR 75 g_c13_60 (dat dk_X12_encodedEnd 131 rfl) (hI.atS rfl) (hI.atE rfl) (to_iload_n (dat dk_X12_encodedEnd 132 rfl) rfl (to_iconst (dat dk_X12_encodedEnd 133 rfl) (to_iadd (dat dk_X12_encodedEnd 134 rfl) ?_))))
                                  obtain ⟨x142, ex142⟩ : ∃ y : Int, h.2.2 75 (Int.toNat (y127 + 1)) = y := ⟨_, rfl⟩
                                  have rx142 := hI.atR (a := 75) (j := Int.toNat (y127 + 1)) rfl
                                  rw [ex142] at rx142
                                  refine to_baldv (q := 1) ex142 (dat dk_X12_encodedEnd 135 rfl) (by decide) (hI.atS rfl) rfl (by decide) (by omega) (to_bipush (dat dk_X12_encodedEnd 136 rfl) (by decide) ?_)
                                  refine to_ine 244 (dat dk_X12_encodedEnd 137 rfl) rfl (by omega) (by decide) (fun c143 => ?_) (fun c143 => ?_)
                                  · skip
                                    refine to_iconst (dat dk_X12_encodedEnd 142 rfl) ?_
                                    exact to_iret rfl (dat dk_X12_encodedEnd 143 rfl) (ri_mk (by decide) ⟨rfl, (show (-1 : Int) = -1 ∨ (p + 7 ≤ (-1 : Int) ∧ (-1 : Int) ≤ h.2.2 60 23) by omega), ⟨0, Or.inl rfl⟩⟩)
                                  · skip
                                    refine to_iload_n (dat dk_X12_encodedEnd 138 rfl) rfl (to_iconst (dat dk_X12_encodedEnd 139 rfl) (to_iadd (dat dk_X12_encodedEnd 140 rfl) (to_goto (dat dk_X12_encodedEnd 141 rfl) rfl ?_)))
                                    exact to_iret rfl (dat dk_X12_encodedEnd 143 rfl) (ri_mk (by omega) ⟨rfl, (show (y127 + 2) = -1 ∨ (p + 7 ≤ (y127 + 2) ∧ (y127 + 2) ≤ h.2.2 60 23) by omega), ⟨Int.toNat y7, Or.inr ⟨by omega, by omega, by omega⟩⟩⟩)
                            · skip
                              refine to_aload_n (dat dk_X12_encodedEnd 110 rfl) rfl (to_getR 75 g_c13_60 (dat dk_X12_encodedEnd 111 rfl) (hI.atS rfl) (hI.atE rfl) (to_iload_n (dat dk_X12_encodedEnd 112 rfl) rfl ?_))
                              obtain ⟨x144, ex144⟩ : ∃ y : Int, h.2.2 75 (Int.toNat y127) = y := ⟨_, rfl⟩
                              have rx144 := hI.atR (a := 75) (j := Int.toNat y127) rfl
                              rw [ex144] at rx144
                              refine to_baldv (q := 1) ex144 (dat dk_X12_encodedEnd 113 rfl) (by decide) (hI.atS rfl) rfl (by decide) (by omega) ?_
                              refine to_cI ca_c13_182 (dat dk_X12_encodedEnd 114 rfl) (ct_X12_isBlank l h hI x144 (by omega)) rfl trivial rfl (fun x145 h146 rx145 p147 => ?_)
                              obtain ⟨rfl, zx145⟩ := p147
                              refine to_ifne 204 (dat dk_X12_encodedEnd 115 rfl) rfl rx145 (fun c148 => ?_) (fun c148 => ?_)
                              · skip
                                refine to_iload_n (dat dk_X12_encodedEnd 118 rfl) rfl (to_iconst (dat dk_X12_encodedEnd 119 rfl) (to_iadd (dat dk_X12_encodedEnd 120 rfl) (to_aload_n (dat dk_X12_encodedEnd 121 rfl) rfl (to_getIv (y := x1) ex1 g_c13_171 (dat dk_X12_encodedEnd 122 rfl) (hI.atS rfl) ?_))))
                                refine to_ige 244 (dat dk_X12_encodedEnd 123 rfl) rfl (by omega) (by omega) (fun c149 => ?_) (fun c149 => ?_)
                                · skip
                                  refine to_iconst (dat dk_X12_encodedEnd 142 rfl) ?_
                                  exact to_iret rfl (dat dk_X12_encodedEnd 143 rfl) (ri_mk (by decide) ⟨rfl, (show (-1 : Int) = -1 ∨ (p + 7 ≤ (-1 : Int) ∧ (-1 : Int) ≤ h.2.2 60 23) by omega), ⟨0, Or.inl rfl⟩⟩)
                                · skip
                                  refine to_aload_n (dat dk_X12_encodedEnd 124 rfl) rfl (to_getR 75 g_c13_60 (dat dk_X12_encodedEnd 125 rfl) (hI.atS rfl) (hI.atE rfl) (to_iload_n (dat dk_X12_encodedEnd 126 rfl) rfl ?_))
                                  obtain ⟨x150, ex150⟩ : ∃ y : Int, h.2.2 75 (Int.toNat y127) = y := ⟨_, rfl⟩
                                  have rx150 := hI.atR (a := 75) (j := Int.toNat y127) rfl
                                  rw [ex150] at rx150
                                  refine to_baldv (q := 1) ex150 (dat dk_X12_encodedEnd 127 rfl) (by decide) (hI.atS rfl) rfl (by decide) (by omega) (to_bipush (dat dk_X12_encodedEnd 128 rfl) (by decide) ?_)
                                  refine to_ine 244 (dat dk_X12_encodedEnd 129 rfl) rfl (by omega) (by decide) (fun c151 => ?_) (fun c151 => ?_)
                                  · skip
                                    refine to_iconst (dat dk_X12_encodedEnd 142 rfl) ?_
                                    exact to_iret rfl (dat dk_X12_encodedEnd 143 rfl) (ri_mk (by decide) ⟨rfl, (show (-1 : Int) = -1 ∨ (p + 7 ≤ (-1 : Int) ∧ (-1 : Int) ≤ h.2.2 60 23) by omega), ⟨0, Or.inl rfl⟩⟩)
                                  · skip
                                    refine to_aload_n (dat dk_X12_encodedEnd 130 rfl) rfl (to_getR 75 g_c13_60 (dat dk_X12_encodedEnd 131 rfl) (hI.atS rfl) (hI.atE rfl) (to_iload_n (dat dk_X12_encodedEnd 132 rfl) rfl (to_iconst (dat dk_X12_encodedEnd 133 rfl) (to_iadd (dat dk_X12_encodedEnd 134 rfl) ?_))))
                                    obtain ⟨x152, ex152⟩ : ∃ y : Int, h.2.2 75 (Int.toNat (y127 + 1)) = y := ⟨_, rfl⟩
                                    have rx152 := hI.atR (a := 75) (j := Int.toNat (y127 + 1)) rfl
                                    rw [ex152] at rx152
                                    refine to_baldv (q := 1) ex152 (dat dk_X12_encodedEnd 135 rfl) (by decide) (hI.atS rfl) rfl (by decide) (by omega) (to_bipush (dat dk_X12_encodedEnd 136 rfl) (by decide) ?_)
                                    refine to_ine 244 (dat dk_X12_encodedEnd 137 rfl) rfl (by omega) (by decide) (fun c153 => ?_) (fun c153 => ?_)
                                    · skip
                                      refine to_iconst (dat dk_X12_encodedEnd 142 rfl) ?_
                                      exact to_iret rfl (dat dk_X12_encodedEnd 143 rfl) (ri_mk (by decide) ⟨rfl, (show (-1 : Int) = -1 ∨ (p + 7 ≤ (-1 : Int) ∧ (-1 : Int) ≤ h.2.2 60 23) by omega), ⟨0, Or.inl rfl⟩⟩)
                                    · skip
                                      refine to_iload_n (dat dk_X12_encodedEnd 138 rfl) rfl (to_iconst (dat dk_X12_encodedEnd 139 rfl) (to_iadd (dat dk_X12_encodedEnd 140 rfl) (to_goto (dat dk_X12_encodedEnd 141 rfl) rfl ?_)))
                                      exact to_iret rfl (dat dk_X12_encodedEnd 143 rfl) (ri_mk (by omega) ⟨rfl, (show (y127 + 2) = -1 ∨ (p + 7 ≤ (y127 + 2) ∧ (y127 + 2) ≤ h.2.2 60 23) by omega), ⟨Int.toNat y7, Or.inr ⟨by omega, by omega, by omega⟩⟩⟩)
                              · skip
                                refine to_iinc (L' := [(0, .inr (.inr 60)), (1, .inl p), (2, .inl y7), (3, .inl (y127 + 1))]) (dat dk_X12_encodedEnd 116 rfl) rfl (by decide) rfl (to_goto (dat dk_X12_encodedEnd 117 rfl) rfl ?_)
                                exact ihn129 (n129 - 1) (by omega) (y127 + 1) (by omega) (show y7 + 3 ≤ (y127 + 1) ∧ (y127 + 1) ≤ h.2.2 60 23 by omega) (show h.2.2 60 23 - (y127 + 1) ≤ ((n129 - 1 : Nat) : Int) by omega)
                        exact lp167_n129 (h.2.2 60 23 - (y7 + 3)).toNat (y7 + 3) (by omega) (show y7 + 3 ≤ (y7 + 3) ∧ (y7 + 3) ≤ h.2.2 60 23 by omega) (by omega)
                      · skip
                        refine to_iconst (dat dk_X12_encodedEnd 94 rfl) ?_
                        exact to_iret rfl (dat dk_X12_encodedEnd 95 rfl) (ri_mk (by decide) ⟨rfl, (show (-1 : Int) = -1 ∨ (p + 7 ≤ (-1 : Int) ∧ (-1 : Int) ≤ h.2.2 60 23) by omega), ⟨0, Or.inl rfl⟩⟩)
              · skip
                refine to_iconst (dat dk_X12_encodedEnd 60 rfl) ?_
                exact to_iret rfl (dat dk_X12_encodedEnd 61 rfl) (ri_mk (by decide) ⟨rfl, (show (-1 : Int) = -1 ∨ (p + 7 ≤ (-1 : Int) ∧ (-1 : Int) ≤ h.2.2 60 23) by omega), ⟨0, Or.inl rfl⟩⟩)
          · skip
            refine to_aload_n (dat dk_X12_encodedEnd 30 rfl) rfl (to_getR 75 g_c13_60 (dat dk_X12_encodedEnd 31 rfl) (hI.atS rfl) (hI.atE rfl) (to_iload_n (dat dk_X12_encodedEnd 32 rfl) rfl ?_))
            obtain ⟨x154, ex154⟩ : ∃ y : Int, h.2.2 75 (Int.toNat y7) = y := ⟨_, rfl⟩
            have rx154 := hI.atR (a := 75) (j := Int.toNat y7) rfl
            rw [ex154] at rx154
            refine to_baldv (q := 1) ex154 (dat dk_X12_encodedEnd 33 rfl) (by decide) (hI.atS rfl) rfl (by decide) (by omega) (to_bipush (dat dk_X12_encodedEnd 34 rfl) (by decide) ?_)
            refine to_ieq 65 (dat dk_X12_encodedEnd 35 rfl) rfl (by omega) (by decide) (fun c155 => ?_) (fun c155 => ?_)
            · skip
              refine to_aload_n (dat dk_X12_encodedEnd 38 rfl) rfl (to_getR 75 g_c13_60 (dat dk_X12_encodedEnd 39 rfl) (hI.atS rfl) (hI.atE rfl) (to_iload_n (dat dk_X12_encodedEnd 40 rfl) rfl (to_iconst (dat dk_X12_encodedEnd 41 rfl) (to_iadd (dat dk_X12_encodedEnd 42 rfl) (to_iload_n (dat dk_X12_encodedEnd 43 rfl) rfl (to_gst (C := "MailArchiveModel") (f9 := "UTF") (d9 := "[I") (List.mem_of_getElem? (i := 14) rfl) (tin 8 83 (by decide +kernel) rfl) (dat dk_X12_encodedEnd 44 rfl) (to_iconst (dat dk_X12_encodedEnd 45 rfl) (to_iconst (dat dk_X12_encodedEnd 46 rfl) ?_))))))))
              refine to_cI ca_c13_198 (dat dk_X12_encodedEnd 47 rfl) (ct_X12_same l h hI 75 1300 rfl (p + 2) (by omega) y7 ry7 1000213 5 (List.mem_of_getElem? (i := 12) rfl) 0 (by decide) 5 (by decide) (show 0 ≤ (p + 2) ∧ (p + 2) ≤ 640000 by omega) (show -1 ≤ y7 ∧ y7 ≤ 640000 by omega) (show 0 ≤ (0 : Int) ∧ (0 : Int) ≤ 100 by omega) (show 0 ≤ (5 : Int) ∧ (5 : Int) ≤ (5 : Int) by omega) (show y7 ≤ (1300 : Int) ∨ (p + 2) + ((5 : Int) - (0 : Int)) ≤ (1300 : Int) by omega)) rfl trivial rfl (fun x156 h157 rx156 p158 => ?_)
              obtain ⟨rfl, zx156⟩ := p158
              refine to_ifne 106 (dat dk_X12_encodedEnd 48 rfl) rfl rx156 (fun c159 => ?_) (fun c159 => ?_)
              · skip
                refine to_iload_n (dat dk_X12_encodedEnd 62 rfl) rfl (to_iconst (dat dk_X12_encodedEnd 63 rfl) (to_iadd (dat dk_X12_encodedEnd 64 rfl) (to_aload_n (dat dk_X12_encodedEnd 65 rfl) rfl (to_getIv (y := x1) ex1 g_c13_171 (dat dk_X12_encodedEnd 66 rfl) (hI.atS rfl) ?_))))
                refine to_ige 161 (dat dk_X12_encodedEnd 67 rfl) rfl (by omega) (by omega) (fun c160 => ?_) (fun c160 => ?_)
                · skip
                  refine to_iconst (dat dk_X12_encodedEnd 94 rfl) ?_
                  exact to_iret rfl (dat dk_X12_encodedEnd 95 rfl) (ri_mk (by decide) ⟨rfl, (show (-1 : Int) = -1 ∨ (p + 7 ≤ (-1 : Int) ∧ (-1 : Int) ≤ h.2.2 60 23) by omega), ⟨0, Or.inl rfl⟩⟩)
                · skip
                  refine to_aload_n (dat dk_X12_encodedEnd 68 rfl) rfl (to_getR 75 g_c13_60 (dat dk_X12_encodedEnd 69 rfl) (hI.atS rfl) (hI.atE rfl) (to_iload_n (dat dk_X12_encodedEnd 70 rfl) rfl (to_iconst (dat dk_X12_encodedEnd 71 rfl) (to_iadd (dat dk_X12_encodedEnd 72 rfl) ?_))))
                  obtain ⟨x161, ex161⟩ : ∃ y : Int, h.2.2 75 (Int.toNat (y7 + 2)) = y := ⟨_, rfl⟩
                  have rx161 := hI.atR (a := 75) (j := Int.toNat (y7 + 2)) rfl
                  rw [ex161] at rx161
                  refine to_baldv (q := 1) ex161 (dat dk_X12_encodedEnd 73 rfl) (by decide) (hI.atS rfl) rfl (by decide) (by omega) (to_bipush (dat dk_X12_encodedEnd 74 rfl) (by decide) ?_)
                  refine to_ine 161 (dat dk_X12_encodedEnd 75 rfl) rfl (by omega) (by decide) (fun c162 => ?_) (fun c162 => ?_)
                  · skip
                    refine to_iconst (dat dk_X12_encodedEnd 94 rfl) ?_
                    exact to_iret rfl (dat dk_X12_encodedEnd 95 rfl) (ri_mk (by decide) ⟨rfl, (show (-1 : Int) = -1 ∨ (p + 7 ≤ (-1 : Int) ∧ (-1 : Int) ≤ h.2.2 60 23) by omega), ⟨0, Or.inl rfl⟩⟩)
                  · skip
                    refine to_aload_n (dat dk_X12_encodedEnd 76 rfl) rfl (to_getR 75 g_c13_60 (dat dk_X12_encodedEnd 77 rfl) (hI.atS rfl) (hI.atE rfl) (to_iload_n (dat dk_X12_encodedEnd 78 rfl) rfl (to_iconst (dat dk_X12_encodedEnd 79 rfl) (to_iadd (dat dk_X12_encodedEnd 80 rfl) ?_))))
                    obtain ⟨x163, ex163⟩ : ∃ y : Int, h.2.2 75 (Int.toNat (y7 + 1)) = y := ⟨_, rfl⟩
                    have rx163 := hI.atR (a := 75) (j := Int.toNat (y7 + 1)) rfl
                    rw [ex163] at rx163
                    refine to_baldv (q := 1) ex163 (dat dk_X12_encodedEnd 81 rfl) (by decide) (hI.atS rfl) rfl (by decide) (by omega) ?_
                    refine to_cI ca_c13_157 (dat dk_X12_encodedEnd 82 rfl) (ct_X12_small l h hI x163 (by omega)) rfl trivial rfl (fun x164 h165 rx164 p166 => ?_)
                    subst p166
                    refine to_bipush (dat dk_X12_encodedEnd 83 rfl) (by decide) ?_
                    refine to_ieq 163 (dat dk_X12_encodedEnd 84 rfl) rfl rx164 (by decide) (fun c167 => ?_) (fun c167 => ?_)
                    · skip
                      refine to_iload_n (dat dk_X12_encodedEnd 96 rfl) rfl (to_iconst (dat dk_X12_encodedEnd 97 rfl) (to_iadd (dat dk_X12_encodedEnd 98 rfl) (to_istore_n (L' := [(0, .inr (.inr 60)), (1, .inl p), (2, .inl y7), (3, .inl (y7 + 3))]) (dat dk_X12_encodedEnd 99 rfl) (by decide) rfl ?_)))
                      have lp167_n170 : ∀ (n170 : Nat) (y168 : Int), (I32 y168) → (y7 + 3 ≤ y168 ∧ y168 ≤ h.2.2 60 23) → (h.2.2 60 23 - y168 ≤ (n170 : Int)) → To l E_X12_encodedEnd (167, [(0, .inr (.inr 60)), (1, .inl p), (2, .inl y7), (3, .inl y168)], [], h, 0, 0) (Q_X12_encodedEnd h p) := by
                        intro n170
                        induction n170 using Nat.strongRecOn with
                        | _ n170 ihn170 =>
                        intro y168 ry168 c169 c171
                        refine to_iload_n (dat dk_X12_encodedEnd 100 rfl) rfl (to_aload_n (dat dk_X12_encodedEnd 101 rfl) rfl (to_getIv (y := x1) ex1 g_c13_171 (dat dk_X12_encodedEnd 102 rfl) (hI.atS rfl) ?_))
                        refine to_ige 204 (dat dk_X12_encodedEnd 103 rfl) rfl ry168 (by omega) (fun c172 => ?_) (fun c172 => ?_)
                        · skip
                          refine to_iload_n (dat dk_X12_encodedEnd 118 rfl) rfl (to_iconst (dat dk_X12_encodedEnd 119 rfl) (to_iadd (dat dk_X12_encodedEnd 120 rfl) (to_aload_n (dat dk_X12_encodedEnd 121 rfl) rfl (to_getIv (y := x1) ex1 g_c13_171 (dat dk_X12_encodedEnd 122 rfl) (hI.atS rfl) ?_))))
                          refine to_ige 244 (dat dk_X12_encodedEnd 123 rfl) rfl (by omega) (by omega) (fun c173 => ?_) (fun c173 => ?_)
                          · skip
                            refine to_iconst (dat dk_X12_encodedEnd 142 rfl) ?_
                            exact to_iret rfl (dat dk_X12_encodedEnd 143 rfl) (ri_mk (by decide) ⟨rfl, (show (-1 : Int) = -1 ∨ (p + 7 ≤ (-1 : Int) ∧ (-1 : Int) ≤ h.2.2 60 23) by omega), ⟨0, Or.inl rfl⟩⟩)
                          · skip
                            refine to_aload_n (dat dk_X12_encodedEnd 124 rfl) rfl (to_getR 75 g_c13_60 (dat dk_X12_encodedEnd 125 rfl) (hI.atS rfl) (hI.atE rfl) (to_iload_n (dat dk_X12_encodedEnd 126 rfl) rfl ?_))
                            obtain ⟨x174, ex174⟩ : ∃ y : Int, h.2.2 75 (Int.toNat y168) = y := ⟨_, rfl⟩
                            have rx174 := hI.atR (a := 75) (j := Int.toNat y168) rfl
                            rw [ex174] at rx174
                            refine to_baldv (q := 1) ex174 (dat dk_X12_encodedEnd 127 rfl) (by decide) (hI.atS rfl) rfl (by decide) (by omega) (to_bipush (dat dk_X12_encodedEnd 128 rfl) (by decide) ?_)
                            refine to_ine 244 (dat dk_X12_encodedEnd 129 rfl) rfl (by omega) (by decide) (fun c175 => ?_) (fun c175 => ?_)
                            · skip
                              refine to_iconst (dat dk_X12_encodedEnd 142 rfl) ?_
                              exact to_iret rfl (dat dk_X12_encodedEnd 143 rfl) (ri_mk (by decide) ⟨rfl, (show (-1 : Int) = -1 ∨ (p + 7 ≤ (-1 : Int) ∧ (-1 : Int) ≤ h.2.2 60 23) by omega), ⟨0, Or.inl rfl⟩⟩)
                            · skip
                              refine to_aload_n (dat dk_X12_encodedEnd 130 rfl) rfl (to_getR 75 g_c13_60 (dat dk_X12_encodedEnd 131 rfl) (hI.atS rfl) (hI.atE rfl) (to_iload_n (dat dk_X12_encodedEnd 132 rfl) rfl (to_iconst (dat dk_X12_encodedEnd 133 rfl) (to_iadd (dat dk_X12_encodedEnd 134 rfl) ?_))))
                              obtain ⟨x176, ex176⟩ : ∃ y : Int, h.2.2 75 (Int.toNat (y168 + 1)) = y := ⟨_, rfl⟩
                              have rx176 := hI.atR (a := 75) (j := Int.toNat (y168 + 1)) rfl
                              rw [ex176] at rx176
                              refine to_baldv (q := 1) ex176 (dat dk_X12_encodedEnd 135 rfl) (by decide) (hI.atS rfl) rfl (by decide) (by omega) (to_bipush (dat dk_X12_encodedEnd 136 rfl) (by decide) ?_)
                              refine to_ine 244 (dat dk_X12_encodedEnd 137 rfl) rfl (by omega) (by decide) (fun c177 => ?_) (fun c177 => ?_)
                              · skip
                                refine to_iconst (dat dk_X12_encodedEnd 142 rfl) ?_
                                exact to_iret rfl (dat dk_X12_encodedEnd 143 rfl) (ri_mk (by decide) ⟨rfl, (show (-1 : Int) = -1 ∨ (p + 7 ≤ (-1 : Int) ∧ (-1 : Int) ≤ h.2.2 60 23) by omega), ⟨0, Or.inl rfl⟩⟩)
                              · skip
                                refine to_iload_n (dat dk_X12_encodedEnd 138 rfl) rfl (to_iconst (dat dk_X12_encodedEnd 139 rfl) (to_iadd (dat dk_X12_encodedEnd 140 rfl) (to_goto (dat dk_X12_encodedEnd 141 rfl) rfl ?_)))
                                exact to_iret rfl (dat dk_X12_encodedEnd 143 rfl) (ri_mk (by omega) ⟨rfl, (show (y168 + 2) = -1 ∨ (p + 7 ≤ (y168 + 2) ∧ (y168 + 2) ≤ h.2.2 60 23) by omega), ⟨Int.toNat y7, Or.inr ⟨by omega, by omega, by omega⟩⟩⟩)
                        · skip
                          refine to_aload_n (dat dk_X12_encodedEnd 104 rfl) rfl (to_getR 75 g_c13_60 (dat dk_X12_encodedEnd 105 rfl) (hI.atS rfl) (hI.atE rfl) (to_iload_n (dat dk_X12_encodedEnd 106 rfl) rfl ?_))
                          obtain ⟨x178, ex178⟩ : ∃ y : Int, h.2.2 75 (Int.toNat y168) = y := ⟨_, rfl⟩
                          have rx178 := hI.atR (a := 75) (j := Int.toNat y168) rfl
                          rw [ex178] at rx178
                          refine to_baldv (q := 1) ex178 (dat dk_X12_encodedEnd 107 rfl) (by decide) (hI.atS rfl) rfl (by decide) (by omega) (to_bipush (dat dk_X12_encodedEnd 108 rfl) (by decide) ?_)
                          refine to_ieq 204 (dat dk_X12_encodedEnd 109 rfl) rfl (by omega) (by decide) (fun c179 => ?_) (fun c179 => ?_)
                          · skip
                            refine to_iload_n (dat dk_X12_encodedEnd 118 rfl) rfl (to_iconst (dat dk_X12_encodedEnd 119 rfl) (to_iadd (dat dk_X12_encodedEnd 120 rfl) (to_aload_n (dat dk_X12_encodedEnd 121 rfl) rfl (to_getIv (y := x1) ex1 g_c13_171 (dat dk_X12_encodedEnd 122 rfl) (hI.atS rfl) ?_))))
                            refine to_ige 244 (dat dk_X12_encodedEnd 123 rfl) rfl (by omega) (by omega) (fun c180 => ?_) (fun c180 => ?_)
                            · skip
                              refine to_iconst (dat dk_X12_encodedEnd 142 rfl) ?_
                              exact to_iret rfl (dat dk_X12_encodedEnd 143 rfl) (ri_mk (by decide) ⟨rfl, (show (-1 : Int) = -1 ∨ (p + 7 ≤ (-1 : Int) ∧ (-1 : Int) ≤ h.2.2 60 23) by omega), ⟨0, Or.inl rfl⟩⟩)
                            · skip
                              refine to_aload_n (dat dk_X12_encodedEnd 124 rfl) rfl (to_getR 75 g_c13_60 (dat dk_X12_encodedEnd 125 rfl) (hI.atS rfl) (hI.atE rfl) (to_iload_n (dat dk_X12_encodedEnd 126 rfl) rfl ?_))
                              obtain ⟨x181, ex181⟩ : ∃ y : Int, h.2.2 75 (Int.toNat y168) = y := ⟨_, rfl⟩
                              have rx181 := hI.atR (a := 75) (j := Int.toNat y168) rfl
                              rw [ex181] at rx181
                              refine to_baldv (q := 1) ex181 (dat dk_X12_encodedEnd 127 rfl) (by decide) (hI.atS rfl) rfl (by decide) (by omega) (to_bipush (dat dk_X12_encodedEnd 128 rfl) (by decide) ?_)
                              refine to_ine 244 (dat dk_X12_encodedEnd 129 rfl) rfl (by omega) (by decide) (fun c182 => ?_) (fun c182 => ?_)
                              · skip
                                refine to_iconst (dat dk_X12_encodedEnd 142 rfl) ?_
                                exact to_iret rfl (dat dk_X12_encodedEnd 143 rfl) (ri_mk (by decide) ⟨rfl, (show (-1 : Int) = -1 ∨ (p + 7 ≤ (-1 : Int) ∧ (-1 : Int) ≤ h.2.2 60 23) by omega), ⟨0, Or.inl rfl⟩⟩)
                              · skip
                                refine to_aload_n (dat dk_X12_encodedEnd 130 rfl) rfl (to_getR 75 g_c13_60 (dat dk_X12_encodedEnd 131 rfl) (hI.atS rfl) (hI.atE rfl) (to_iload_n (dat dk_X12_encodedEnd 132 rfl) rfl (to_iconst (dat dk_X12_encodedEnd 133 rfl) (to_iadd (dat dk_X12_encodedEnd 134 rfl) ?_))))
                                obtain ⟨x183, ex183⟩ : ∃ y : Int, h.2.2 75 (Int.toNat (y168 + 1)) = y := ⟨_, rfl⟩
                                have rx183 := hI.atR (a := 75) (j := Int.toNat (y168 + 1)) rfl
                                rw [ex183] at rx183
                                refine to_baldv (q := 1) ex183 (dat dk_X12_encodedEnd 135 rfl) (by decide) (hI.atS rfl) rfl (by decide) (by omega) (to_bipush (dat dk_X12_encodedEnd 136 rfl) (by decide) ?_)
                                refine to_ine 244 (dat dk_X12_encodedEnd 137 rfl) rfl (by omega) (by decide) (fun c184 => ?_) (fun c184 => ?_)
                                · skip
                                  refine to_iconst (dat dk_X12_encodedEnd 142 rfl) ?_
                                  exact to_iret rfl (dat dk_X12_encodedEnd 143 rfl) (ri_mk (by decide) ⟨rfl, (show (-1 : Int) = -1 ∨ (p + 7 ≤ (-1 : Int) ∧ (-1 : Int) ≤ h.2.2 60 23) by omega), ⟨0, Or.inl rfl⟩⟩)
                                · skip
                                  refine to_iload_n (dat dk_X12_encodedEnd 138 rfl) rfl (to_iconst (dat dk_X12_encodedEnd 139 rfl) (to_iadd (dat dk_X12_encodedEnd 140 rfl) (to_goto (dat dk_X12_encodedEnd 141 rfl) rfl ?_)))
                                  exact to_iret rfl (dat dk_X12_encodedEnd 143 rfl) (ri_mk (by omega) ⟨rfl, (show (y168 + 2) = -1 ∨ (p + 7 ≤ (y168 + 2) ∧ (y168 + 2) ≤ h.2.2 60 23) by omega), ⟨Int.toNat y7, Or.inr ⟨by omega, by omega, by omega⟩⟩⟩)
                          · skip
                            refine to_aload_n (dat dk_X12_encodedEnd 110 rfl) rfl (to_getR 75 g_c13_60 (dat dk_X12_encodedEnd 111 rfl) (hI.atS rfl) (hI.atE rfl) (to_iload_n (dat dk_X12_encodedEnd 112 rfl) rfl ?_))
                            obtain ⟨x185, ex185⟩ : ∃ y : Int, h.2.2 75 (Int.toNat y168) = y := ⟨_, rfl⟩
                            have rx185 := hI.atR (a := 75) (j := Int.toNat y168) rfl
                            rw [ex185] at rx185
                            refine to_baldv (q := 1) ex185 (dat dk_X12_encodedEnd 113 rfl) (by decide) (hI.atS rfl) rfl (by decide) (by omega) ?_
                            refine to_cI ca_c13_182 (dat dk_X12_encodedEnd 114 rfl) (ct_X12_isBlank l h hI x185 (by omega)) rfl trivial rfl (fun x186 h187 rx186 p188 => ?_)
                            obtain ⟨rfl, zx186⟩ := p188
                            refine to_ifne 204 (dat dk_X12_encodedEnd 115 rfl) rfl rx186 (fun c189 => ?_) (fun c189 => ?_)
                            · skip
                              refine to_iload_n (dat dk_X12_encodedEnd 118 rfl) rfl (to_iconst (dat dk_X12_encodedEnd 119 rfl) (to_iadd (dat dk_X12_encodedEnd 120 rfl) (to_aload_n (dat dk_X12_encodedEnd 121 rfl) rfl (to_getIv (y := x1) ex1 g_c13_171 (dat dk_X12_encodedEnd 122 rfl) (hI.atS rfl) ?_))))
                              refine to_ige 244 (dat dk_X12_encodedEnd 123 rfl) rfl (by omega) (by omega) (fun c190 => ?_) (fun c190 => ?_)
                              · skip
                                refine to_iconst (dat dk_X12_encodedEnd 142 rfl) ?_
                                exact to_iret rfl (dat dk_X12_encodedEnd 143 rfl) (ri_mk (by decide) ⟨rfl, (show (-1 : Int) = -1 ∨ (p + 7 ≤ (-1 : Int) ∧ (-1 : Int) ≤ h.2.2 60 23) by omega), ⟨0, Or.inl rfl⟩⟩)
                              · skip
                                refine to_aload_n (dat dk_X12_encodedEnd 124 rfl) rfl (to_getR 75 g_c13_60 (dat dk_X12_encodedEnd 125 rfl) (hI.atS rfl) (hI.atE rfl) (to_iload_n (dat dk_X12_encodedEnd 126 rfl) rfl ?_))
                                obtain ⟨x191, ex191⟩ : ∃ y : Int, h.2.2 75 (Int.toNat y168) = y := ⟨_, rfl⟩
                                have rx191 := hI.atR (a := 75) (j := Int.toNat y168) rfl
                                rw [ex191] at rx191
                                refine to_baldv (q := 1) ex191 (dat dk_X12_encodedEnd 127 rfl) (by decide) (hI.atS rfl) rfl (by decide) (by omega) (to_bipush (dat dk_X12_encodedEnd 128 rfl) (by decide) ?_)
                                refine to_ine 244 (dat dk_X12_encodedEnd 129 rfl) rfl (by omega) (by decide) (fun c192 => ?_) (fun c192 => ?_)
                                · skip
                                  refine to_iconst (dat dk_X12_encodedEnd 142 rfl) ?_
                                  exact to_iret rfl (dat dk_X12_encodedEnd 143 rfl) (ri_mk (by decide) ⟨rfl, (show (-1 : Int) = -1 ∨ (p + 7 ≤ (-1 : Int) ∧ (-1 : Int) ≤ h.2.2 60 23) by omega), ⟨0, Or.inl rfl⟩⟩)
                                · skip
                                  refine to_aload_n (dat dk_X12_encodedEnd 130 rfl) rfl (to_getR 75 g_c13_60 (dat dk_X12_encodedEnd 131 rfl) (hI.atS rfl) (hI.atE rfl) (to_iload_n (dat dk_X12_encodedEnd 132 rfl) rfl (to_iconst (dat dk_X12_encodedEnd 133 rfl) (to_iadd (dat dk_X12_encodedEnd 134 rfl) ?_))))
                                  obtain ⟨x193, ex193⟩ : ∃ y : Int, h.2.2 75 (Int.toNat (y168 + 1)) = y := ⟨_, rfl⟩
                                  have rx193 := hI.atR (a := 75) (j := Int.toNat (y168 + 1)) rfl
                                  rw [ex193] at rx193
                                  refine to_baldv (q := 1) ex193 (dat dk_X12_encodedEnd 135 rfl) (by decide) (hI.atS rfl) rfl (by decide) (by omega) (to_bipush (dat dk_X12_encodedEnd 136 rfl) (by decide) ?_)
                                  refine to_ine 244 (dat dk_X12_encodedEnd 137 rfl) rfl (by omega) (by decide) (fun c194 => ?_) (fun c194 => ?_)
                                  · skip
                                    refine to_iconst (dat dk_X12_encodedEnd 142 rfl) ?_
                                    exact to_iret rfl (dat dk_X12_encodedEnd 143 rfl) (ri_mk (by decide) ⟨rfl, (show (-1 : Int) = -1 ∨ (p + 7 ≤ (-1 : Int) ∧ (-1 : Int) ≤ h.2.2 60 23) by omega), ⟨0, Or.inl rfl⟩⟩)
                                  · skip
                                    refine to_iload_n (dat dk_X12_encodedEnd 138 rfl) rfl (to_iconst (dat dk_X12_encodedEnd 139 rfl) (to_iadd (dat dk_X12_encodedEnd 140 rfl) (to_goto (dat dk_X12_encodedEnd 141 rfl) rfl ?_)))
                                    exact to_iret rfl (dat dk_X12_encodedEnd 143 rfl) (ri_mk (by omega) ⟨rfl, (show (y168 + 2) = -1 ∨ (p + 7 ≤ (y168 + 2) ∧ (y168 + 2) ≤ h.2.2 60 23) by omega), ⟨Int.toNat y7, Or.inr ⟨by omega, by omega, by omega⟩⟩⟩)
                            · skip
                              refine to_iinc (L' := [(0, .inr (.inr 60)), (1, .inl p), (2, .inl y7), (3, .inl (y168 + 1))]) (dat dk_X12_encodedEnd 116 rfl) rfl (by decide) rfl (to_goto (dat dk_X12_encodedEnd 117 rfl) rfl ?_)
                              exact ihn170 (n170 - 1) (by omega) (y168 + 1) (by omega) (show y7 + 3 ≤ (y168 + 1) ∧ (y168 + 1) ≤ h.2.2 60 23 by omega) (show h.2.2 60 23 - (y168 + 1) ≤ ((n170 - 1 : Nat) : Int) by omega)
                      exact lp167_n170 (h.2.2 60 23 - (y7 + 3)).toNat (y7 + 3) (by omega) (show y7 + 3 ≤ (y7 + 3) ∧ (y7 + 3) ≤ h.2.2 60 23 by omega) (by omega)
                    · skip
                      refine to_aload_n (dat dk_X12_encodedEnd 85 rfl) rfl (to_getR 75 g_c13_60 (dat dk_X12_encodedEnd 86 rfl) (hI.atS rfl) (hI.atE rfl) (to_iload_n (dat dk_X12_encodedEnd 87 rfl) rfl (to_iconst (dat dk_X12_encodedEnd 88 rfl) (to_iadd (dat dk_X12_encodedEnd 89 rfl) ?_))))
                      obtain ⟨x195, ex195⟩ : ∃ y : Int, h.2.2 75 (Int.toNat (y7 + 1)) = y := ⟨_, rfl⟩
                      have rx195 := hI.atR (a := 75) (j := Int.toNat (y7 + 1)) rfl
                      rw [ex195] at rx195
                      refine to_baldv (q := 1) ex195 (dat dk_X12_encodedEnd 90 rfl) (by decide) (hI.atS rfl) rfl (by decide) (by omega) ?_
                      refine to_cI ca_c13_157 (dat dk_X12_encodedEnd 91 rfl) (ct_X12_small l h hI x195 (by omega)) rfl trivial rfl (fun x196 h197 rx196 p198 => ?_)
                      subst p198
                      refine to_bipush (dat dk_X12_encodedEnd 92 rfl) (by decide) ?_
                      refine to_ieq 163 (dat dk_X12_encodedEnd 93 rfl) rfl rx196 (by decide) (fun c199 => ?_) (fun c199 => ?_)
                      · skip
                        refine to_iload_n (dat dk_X12_encodedEnd 96 rfl) rfl (to_iconst (dat dk_X12_encodedEnd 97 rfl) (to_iadd (dat dk_X12_encodedEnd 98 rfl) (to_istore_n (L' := [(0, .inr (.inr 60)), (1, .inl p), (2, .inl y7), (3, .inl (y7 + 3))]) (dat dk_X12_encodedEnd 99 rfl) (by decide) rfl ?_)))
                        have lp167_n202 : ∀ (n202 : Nat) (y200 : Int), (I32 y200) → (y7 + 3 ≤ y200 ∧ y200 ≤ h.2.2 60 23) → (h.2.2 60 23 - y200 ≤ (n202 : Int)) → To l E_X12_encodedEnd (167, [(0, .inr (.inr 60)), (1, .inl p), (2, .inl y7), (3, .inl y200)], [], h, 0, 0) (Q_X12_encodedEnd h p) := by
                          intro n202
                          induction n202 using Nat.strongRecOn with
                          | _ n202 ihn202 =>
                          intro y200 ry200 c201 c203
                          refine to_iload_n (dat dk_X12_encodedEnd 100 rfl) rfl (to_aload_n (dat dk_X12_encodedEnd 101 rfl) rfl (to_getIv (y := x1) ex1 g_c13_171 (dat dk_X12_encodedEnd 102 rfl) (hI.atS rfl) ?_))
                          refine to_ige 204 (dat dk_X12_encodedEnd 103 rfl) rfl ry200 (by omega) (fun c204 => ?_) (fun c204 => ?_)
                          · skip
                            refine to_iload_n (dat dk_X12_encodedEnd 118 rfl) rfl (to_iconst (dat dk_X12_encodedEnd 119 rfl) (to_iadd (dat dk_X12_encodedEnd 120 rfl) (to_aload_n (dat dk_X12_encodedEnd 121 rfl) rfl (to_getIv (y := x1) ex1 g_c13_171 (dat dk_X12_encodedEnd 122 rfl) (hI.atS rfl) ?_))))
                            refine to_ige 244 (dat dk_X12_encodedEnd 123 rfl) rfl (by omega) (by omega) (fun c205 => ?_) (fun c205 => ?_)
                            · skip
                              refine to_iconst (dat dk_X12_encodedEnd 142 rfl) ?_
                              exact to_iret rfl (dat dk_X12_encodedEnd 143 rfl) (ri_mk (by decide) ⟨rfl, (show (-1 : Int) = -1 ∨ (p + 7 ≤ (-1 : Int) ∧ (-1 : Int) ≤ h.2.2 60 23) by omega), ⟨0, Or.inl rfl⟩⟩)
                            · skip
                              refine to_aload_n (dat dk_X12_encodedEnd 124 rfl) rfl (to_getR 75 g_c13_60 (dat dk_X12_encodedEnd 125 rfl) (hI.atS rfl) (hI.atE rfl) (to_iload_n (dat dk_X12_encodedEnd 126 rfl) rfl ?_))
                              obtain ⟨x206, ex206⟩ : ∃ y : Int, h.2.2 75 (Int.toNat y200) = y := ⟨_, rfl⟩
                              have rx206 := hI.atR (a := 75) (j := Int.toNat y200) rfl
                              rw [ex206] at rx206
                              refine to_baldv (q := 1) ex206 (dat dk_X12_encodedEnd 127 rfl) (by decide) (hI.atS rfl) rfl (by decide) (by omega) (to_bipush (dat dk_X12_encodedEnd 128 rfl) (by decide) ?_)
                              refine to_ine 244 (dat dk_X12_encodedEnd 129 rfl) rfl (by omega) (by decide) (fun c207 => ?_) (fun c207 => ?_)
                              · skip
                                refine to_iconst (dat dk_X12_encodedEnd 142 rfl) ?_
                                exact to_iret rfl (dat dk_X12_encodedEnd 143 rfl) (ri_mk (by decide) ⟨rfl, (show (-1 : Int) = -1 ∨ (p + 7 ≤ (-1 : Int) ∧ (-1 : Int) ≤ h.2.2 60 23) by omega), ⟨0, Or.inl rfl⟩⟩)
                              · skip
                                refine to_aload_n (dat dk_X12_encodedEnd 130 rfl) rfl (to_getR 75 g_c13_60 (dat dk_X12_encodedEnd 131 rfl) (hI.atS rfl) (hI.atE rfl) (to_iload_n (dat dk_X12_encodedEnd 132 rfl) rfl (to_iconst (dat dk_X12_encodedEnd 133 rfl) (to_iadd (dat dk_X12_encodedEnd 134 rfl) ?_))))
                                obtain ⟨x208, ex208⟩ : ∃ y : Int, h.2.2 75 (Int.toNat (y200 + 1)) = y := ⟨_, rfl⟩
                                have rx208 := hI.atR (a := 75) (j := Int.toNat (y200 + 1)) rfl
                                rw [ex208] at rx208
                                refine to_baldv (q := 1) ex208 (dat dk_X12_encodedEnd 135 rfl) (by decide) (hI.atS rfl) rfl (by decide) (by omega) (to_bipush (dat dk_X12_encodedEnd 136 rfl) (by decide) ?_)
                                refine to_ine 244 (dat dk_X12_encodedEnd 137 rfl) rfl (by omega) (by decide) (fun c209 => ?_) (fun c209 => ?_)
                                · skip
                                  refine to_iconst (dat dk_X12_encodedEnd 142 rfl) ?_
                                  exact to_iret rfl (dat dk_X12_encodedEnd 143 rfl) (ri_mk (by decide) ⟨rfl, (show (-1 : Int) = -1 ∨ (p + 7 ≤ (-1 : Int) ∧ (-1 : Int) ≤ h.2.2 60 23) by omega), ⟨0, Or.inl rfl⟩⟩)
                                · skip
                                  refine to_iload_n (dat dk_X12_encodedEnd 138 rfl) rfl (to_iconst (dat dk_X12_encodedEnd 139 rfl) (to_iadd (dat dk_X12_encodedEnd 140 rfl) (to_goto (dat dk_X12_encodedEnd 141 rfl) rfl ?_)))
                                  exact to_iret rfl (dat dk_X12_encodedEnd 143 rfl) (ri_mk (by omega) ⟨rfl, (show (y200 + 2) = -1 ∨ (p + 7 ≤ (y200 + 2) ∧ (y200 + 2) ≤ h.2.2 60 23) by omega), ⟨Int.toNat y7, Or.inr ⟨by omega, by omega, by omega⟩⟩⟩)
                          · skip
                            refine to_aload_n (dat dk_X12_encodedEnd 104 rfl) rfl (to_getR 75 g_c13_60 (dat dk_X12_encodedEnd 105 rfl) (hI.atS rfl) (hI.atE rfl) (to_iload_n (dat dk_X12_encodedEnd 106 rfl) rfl ?_))
                            obtain ⟨x210, ex210⟩ : ∃ y : Int, h.2.2 75 (Int.toNat y200) = y := ⟨_, rfl⟩
                            have rx210 := hI.atR (a := 75) (j := Int.toNat y200) rfl
                            rw [ex210] at rx210
                            refine to_baldv (q := 1) ex210 (dat dk_X12_encodedEnd 107 rfl) (by decide) (hI.atS rfl) rfl (by decide) (by omega) (to_bipush (dat dk_X12_encodedEnd 108 rfl) (by decide) ?_)
                            refine to_ieq 204 (dat dk_X12_encodedEnd 109 rfl) rfl (by omega) (by decide) (fun c211 => ?_) (fun c211 => ?_)
                            · skip
                              refine to_iload_n (dat dk_X12_encodedEnd 118 rfl) rfl (to_iconst (dat dk_X12_encodedEnd 119 rfl) (to_iadd (dat dk_X12_encodedEnd 120 rfl) (to_aload_n (dat dk_X12_encodedEnd 121 rfl) rfl (to_getIv (y := x1) ex1 g_c13_171 (dat dk_X12_encodedEnd 122 rfl) (hI.atS rfl) ?_))))
                              refine to_ige 244 (dat dk_X12_encodedEnd 123 rfl) rfl (by omega) (by omega) (fun c212 => ?_) (fun c212 => ?_)
                              · skip
                                refine to_iconst (dat dk_X12_encodedEnd 142 rfl) ?_
                                exact to_iret rfl (dat dk_X12_encodedEnd 143 rfl) (ri_mk (by decide) ⟨rfl, (show (-1 : Int) = -1 ∨ (p + 7 ≤ (-1 : Int) ∧ (-1 : Int) ≤ h.2.2 60 23) by omega), ⟨0, Or.inl rfl⟩⟩)
                              · skip
                                refine to_aload_n (dat dk_X12_encodedEnd 124 rfl) rfl (to_getR 75 g_c13_60 (dat dk_X12_encodedEnd 125 rfl) (hI.atS rfl) (hI.atE rfl) (to_iload_n (dat dk_X12_encodedEnd 126 rfl) rfl ?_))
                                obtain ⟨x213, ex213⟩ : ∃ y : Int, h.2.2 75 (Int.toNat y200) = y := ⟨_, rfl⟩
                                have rx213 := hI.atR (a := 75) (j := Int.toNat y200) rfl
                                rw [ex213] at rx213
                                refine to_baldv (q := 1) ex213 (dat dk_X12_encodedEnd 127 rfl) (by decide) (hI.atS rfl) rfl (by decide) (by omega) (to_bipush (dat dk_X12_encodedEnd 128 rfl) (by decide) ?_)
                                refine to_ine 244 (dat dk_X12_encodedEnd 129 rfl) rfl (by omega) (by decide) (fun c214 => ?_) (fun c214 => ?_)
                                · skip
                                  refine to_iconst (dat dk_X12_encodedEnd 142 rfl) ?_
                                  exact to_iret rfl (dat dk_X12_encodedEnd 143 rfl) (ri_mk (by decide) ⟨rfl, (show (-1 : Int) = -1 ∨ (p + 7 ≤ (-1 : Int) ∧ (-1 : Int) ≤ h.2.2 60 23) by omega), ⟨0, Or.inl rfl⟩⟩)
                                · skip
                                  refine to_aload_n (dat dk_X12_encodedEnd 130 rfl) rfl (to_getR 75 g_c13_60 (dat dk_X12_encodedEnd 131 rfl) (hI.atS rfl) (hI.atE rfl) (to_iload_n (dat dk_X12_encodedEnd 132 rfl) rfl (to_iconst (dat dk_X12_encodedEnd 133 rfl) (to_iadd (dat dk_X12_encodedEnd 134 rfl) ?_))))
                                  obtain ⟨x215, ex215⟩ : ∃ y : Int, h.2.2 75 (Int.toNat (y200 + 1)) = y := ⟨_, rfl⟩
                                  have rx215 := hI.atR (a := 75) (j := Int.toNat (y200 + 1)) rfl
                                  rw [ex215] at rx215
                                  refine to_baldv (q := 1) ex215 (dat dk_X12_encodedEnd 135 rfl) (by decide) (hI.atS rfl) rfl (by decide) (by omega) (to_bipush (dat dk_X12_encodedEnd 136 rfl) (by decide) ?_)
                                  refine to_ine 244 (dat dk_X12_encodedEnd 137 rfl) rfl (by omega) (by decide) (fun c216 => ?_) (fun c216 => ?_)
                                  · skip
                                    refine to_iconst (dat dk_X12_encodedEnd 142 rfl) ?_
                                    exact to_iret rfl (dat dk_X12_encodedEnd 143 rfl) (ri_mk (by decide) ⟨rfl, (show (-1 : Int) = -1 ∨ (p + 7 ≤ (-1 : Int) ∧ (-1 : Int) ≤ h.2.2 60 23) by omega), ⟨0, Or.inl rfl⟩⟩)
                                  · skip
                                    refine to_iload_n (dat dk_X12_encodedEnd 138 rfl) rfl (to_iconst (dat dk_X12_encodedEnd 139 rfl) (to_iadd (dat dk_X12_encodedEnd 140 rfl) (to_goto (dat dk_X12_encodedEnd 141 rfl) rfl ?_)))
                                    exact to_iret rfl (dat dk_X12_encodedEnd 143 rfl) (ri_mk (by omega) ⟨rfl, (show (y200 + 2) = -1 ∨ (p + 7 ≤ (y200 + 2) ∧ (y200 + 2) ≤ h.2.2 60 23) by omega), ⟨Int.toNat y7, Or.inr ⟨by omega, by omega, by omega⟩⟩⟩)
                            · skip
                              refine to_aload_n (dat dk_X12_encodedEnd 110 rfl) rfl (to_getR 75 g_c13_60 (dat dk_X12_encodedEnd 111 rfl) (hI.atS rfl) (hI.atE rfl) (to_iload_n (dat dk_X12_encodedEnd 112 rfl) rfl ?_))
                              obtain ⟨x217, ex217⟩ : ∃ y : Int, h.2.2 75 (Int.toNat y200) = y := ⟨_, rfl⟩
                              have rx217 := hI.atR (a := 75) (j := Int.toNat y200) rfl
                              rw [ex217] at rx217
                              refine to_baldv (q := 1) ex217 (dat dk_X12_encodedEnd 113 rfl) (by decide) (hI.atS rfl) rfl (by decide) (by omega) ?_
                              refine to_cI ca_c13_182 (dat dk_X12_encodedEnd 114 rfl) (ct_X12_isBlank l h hI x217 (by omega)) rfl trivial rfl (fun x218 h219 rx218 p220 => ?_)
                              obtain ⟨rfl, zx218⟩ := p220
                              refine to_ifne 204 (dat dk_X12_encodedEnd 115 rfl) rfl rx218 (fun c221 => ?_) (fun c221 => ?_)
                              · skip
                                refine to_iload_n (dat dk_X12_encodedEnd 118 rfl) rfl (to_iconst (dat dk_X12_encodedEnd 119 rfl) (to_iadd (dat dk_X12_encodedEnd 120 rfl) (to_aload_n (dat dk_X12_encodedEnd 121 rfl) rfl (to_getIv (y := x1) ex1 g_c13_171 (dat dk_X12_encodedEnd 122 rfl) (hI.atS rfl) ?_))))
                                refine to_ige 244 (dat dk_X12_encodedEnd 123 rfl) rfl (by omega) (by omega) (fun c222 => ?_) (fun c222 => ?_)
                                · skip
                                  refine to_iconst (dat dk_X12_encodedEnd 142 rfl) ?_
                                  exact to_iret rfl (dat dk_X12_encodedEnd 143 rfl) (ri_mk (by decide) ⟨rfl, (show (-1 : Int) = -1 ∨ (p + 7 ≤ (-1 : Int) ∧ (-1 : Int) ≤ h.2.2 60 23) by omega), ⟨0, Or.inl rfl⟩⟩)
                                · skip
                                  refine to_aload_n (dat dk_X12_encodedEnd 124 rfl) rfl (to_getR 75 g_c13_60 (dat dk_X12_encodedEnd 125 rfl) (hI.atS rfl) (hI.atE rfl) (to_iload_n (dat dk_X12_encodedEnd 126 rfl) rfl ?_))
                                  obtain ⟨x223, ex223⟩ : ∃ y : Int, h.2.2 75 (Int.toNat y200) = y := ⟨_, rfl⟩
                                  have rx223 := hI.atR (a := 75) (j := Int.toNat y200) rfl
                                  rw [ex223] at rx223
                                  refine to_baldv (q := 1) ex223 (dat dk_X12_encodedEnd 127 rfl) (by decide) (hI.atS rfl) rfl (by decide) (by omega) (to_bipush (dat dk_X12_encodedEnd 128 rfl) (by decide) ?_)
                                  refine to_ine 244 (dat dk_X12_encodedEnd 129 rfl) rfl (by omega) (by decide) (fun c224 => ?_) (fun c224 => ?_)
                                  · skip
                                    refine to_iconst (dat dk_X12_encodedEnd 142 rfl) ?_
                                    exact to_iret rfl (dat dk_X12_encodedEnd 143 rfl) (ri_mk (by decide) ⟨rfl, (show (-1 : Int) = -1 ∨ (p + 7 ≤ (-1 : Int) ∧ (-1 : Int) ≤ h.2.2 60 23) by omega), ⟨0, Or.inl rfl⟩⟩)
                                  · skip
                                    refine to_aload_n (dat dk_X12_encodedEnd 130 rfl) rfl (to_getR 75 g_c13_60 (dat dk_X12_encodedEnd 131 rfl) (hI.atS rfl) (hI.atE rfl) (to_iload_n (dat dk_X12_encodedEnd 132 rfl) rfl (to_iconst (dat dk_X12_encodedEnd 133 rfl) (to_iadd (dat dk_X12_encodedEnd 134 rfl) ?_))))
                                    obtain ⟨x225, ex225⟩ : ∃ y : Int, h.2.2 75 (Int.toNat (y200 + 1)) = y := ⟨_, rfl⟩
                                    have rx225 := hI.atR (a := 75) (j := Int.toNat (y200 + 1)) rfl
                                    rw [ex225] at rx225
                                    refine to_baldv (q := 1) ex225 (dat dk_X12_encodedEnd 135 rfl) (by decide) (hI.atS rfl) rfl (by decide) (by omega) (to_bipush (dat dk_X12_encodedEnd 136 rfl) (by decide) ?_)
                                    refine to_ine 244 (dat dk_X12_encodedEnd 137 rfl) rfl (by omega) (by decide) (fun c226 => ?_) (fun c226 => ?_)
                                    · skip
                                      refine to_iconst (dat dk_X12_encodedEnd 142 rfl) ?_
                                      exact to_iret rfl (dat dk_X12_encodedEnd 143 rfl) (ri_mk (by decide) ⟨rfl, (show (-1 : Int) = -1 ∨ (p + 7 ≤ (-1 : Int) ∧ (-1 : Int) ≤ h.2.2 60 23) by omega), ⟨0, Or.inl rfl⟩⟩)
                                    · skip
                                      refine to_iload_n (dat dk_X12_encodedEnd 138 rfl) rfl (to_iconst (dat dk_X12_encodedEnd 139 rfl) (to_iadd (dat dk_X12_encodedEnd 140 rfl) (to_goto (dat dk_X12_encodedEnd 141 rfl) rfl ?_)))
                                      exact to_iret rfl (dat dk_X12_encodedEnd 143 rfl) (ri_mk (by omega) ⟨rfl, (show (y200 + 2) = -1 ∨ (p + 7 ≤ (y200 + 2) ∧ (y200 + 2) ≤ h.2.2 60 23) by omega), ⟨Int.toNat y7, Or.inr ⟨by omega, by omega, by omega⟩⟩⟩)
                              · skip
                                refine to_iinc (L' := [(0, .inr (.inr 60)), (1, .inl p), (2, .inl y7), (3, .inl (y200 + 1))]) (dat dk_X12_encodedEnd 116 rfl) rfl (by decide) rfl (to_goto (dat dk_X12_encodedEnd 117 rfl) rfl ?_)
                                exact ihn202 (n202 - 1) (by omega) (y200 + 1) (by omega) (show y7 + 3 ≤ (y200 + 1) ∧ (y200 + 1) ≤ h.2.2 60 23 by omega) (show h.2.2 60 23 - (y200 + 1) ≤ ((n202 - 1 : Nat) : Int) by omega)
                        exact lp167_n202 (h.2.2 60 23 - (y7 + 3)).toNat (y7 + 3) (by omega) (show y7 + 3 ≤ (y7 + 3) ∧ (y7 + 3) ≤ h.2.2 60 23 by omega) (by omega)
                      · skip
                        refine to_iconst (dat dk_X12_encodedEnd 94 rfl) ?_
                        exact to_iret rfl (dat dk_X12_encodedEnd 95 rfl) (ri_mk (by decide) ⟨rfl, (show (-1 : Int) = -1 ∨ (p + 7 ≤ (-1 : Int) ∧ (-1 : Int) ≤ h.2.2 60 23) by omega), ⟨0, Or.inl rfl⟩⟩)
              · skip
                refine to_aload_n (dat dk_X12_encodedEnd 49 rfl) rfl (to_getR 75 g_c13_60 (dat dk_X12_encodedEnd 50 rfl) (hI.atS rfl) (hI.atE rfl) (to_iload_n (dat dk_X12_encodedEnd 51 rfl) rfl (to_iconst (dat dk_X12_encodedEnd 52 rfl) (to_iadd (dat dk_X12_encodedEnd 53 rfl) (to_iload_n (dat dk_X12_encodedEnd 54 rfl) rfl (to_gst (C := "MailArchiveModel") (f9 := "ASCII") (d9 := "[I") (List.mem_of_getElem? (i := 3) rfl) (tin 8 85 (by decide +kernel) rfl) (dat dk_X12_encodedEnd 55 rfl) (to_iconst (dat dk_X12_encodedEnd 56 rfl) (to_bipush (dat dk_X12_encodedEnd 57 rfl) (by decide) ?_))))))))
                refine to_cI ca_c13_198 (dat dk_X12_encodedEnd 58 rfl) (ct_X12_same l h hI 75 1300 rfl (p + 2) (by omega) y7 ry7 1000202 8 (List.mem_of_getElem? (i := 1) rfl) 0 (by decide) 8 (by decide) (show 0 ≤ (p + 2) ∧ (p + 2) ≤ 640000 by omega) (show -1 ≤ y7 ∧ y7 ≤ 640000 by omega) (show 0 ≤ (0 : Int) ∧ (0 : Int) ≤ 100 by omega) (show 0 ≤ (8 : Int) ∧ (8 : Int) ≤ (8 : Int) by omega) (show y7 ≤ (1300 : Int) ∨ (p + 2) + ((8 : Int) - (0 : Int)) ≤ (1300 : Int) by omega)) rfl trivial rfl (fun x227 h228 rx227 p229 => ?_)
                obtain ⟨rfl, zx227⟩ := p229
                refine to_ifne 106 (dat dk_X12_encodedEnd 59 rfl) rfl rx227 (fun c230 => ?_) (fun c230 => ?_)
                · skip
                  refine to_iload_n (dat dk_X12_encodedEnd 62 rfl) rfl (to_iconst (dat dk_X12_encodedEnd 63 rfl) (to_iadd (dat dk_X12_encodedEnd 64 rfl) (to_aload_n (dat dk_X12_encodedEnd 65 rfl) rfl (to_getIv (y := x1) ex1 g_c13_171 (dat dk_X12_encodedEnd 66 rfl) (hI.atS rfl) ?_))))
                  refine to_ige 161 (dat dk_X12_encodedEnd 67 rfl) rfl (by omega) (by omega) (fun c231 => ?_) (fun c231 => ?_)
                  · skip
                    refine to_iconst (dat dk_X12_encodedEnd 94 rfl) ?_
                    exact to_iret rfl (dat dk_X12_encodedEnd 95 rfl) (ri_mk (by decide) ⟨rfl, (show (-1 : Int) = -1 ∨ (p + 7 ≤ (-1 : Int) ∧ (-1 : Int) ≤ h.2.2 60 23) by omega), ⟨0, Or.inl rfl⟩⟩)
                  · skip
                    refine to_aload_n (dat dk_X12_encodedEnd 68 rfl) rfl (to_getR 75 g_c13_60 (dat dk_X12_encodedEnd 69 rfl) (hI.atS rfl) (hI.atE rfl) (to_iload_n (dat dk_X12_encodedEnd 70 rfl) rfl (to_iconst (dat dk_X12_encodedEnd 71 rfl) (to_iadd (dat dk_X12_encodedEnd 72 rfl) ?_))))
                    obtain ⟨x232, ex232⟩ : ∃ y : Int, h.2.2 75 (Int.toNat (y7 + 2)) = y := ⟨_, rfl⟩
                    have rx232 := hI.atR (a := 75) (j := Int.toNat (y7 + 2)) rfl
                    rw [ex232] at rx232
                    refine to_baldv (q := 1) ex232 (dat dk_X12_encodedEnd 73 rfl) (by decide) (hI.atS rfl) rfl (by decide) (by omega) (to_bipush (dat dk_X12_encodedEnd 74 rfl) (by decide) ?_)
                    refine to_ine 161 (dat dk_X12_encodedEnd 75 rfl) rfl (by omega) (by decide) (fun c233 => ?_) (fun c233 => ?_)
                    · skip
                      refine to_iconst (dat dk_X12_encodedEnd 94 rfl) ?_
                      exact to_iret rfl (dat dk_X12_encodedEnd 95 rfl) (ri_mk (by decide) ⟨rfl, (show (-1 : Int) = -1 ∨ (p + 7 ≤ (-1 : Int) ∧ (-1 : Int) ≤ h.2.2 60 23) by omega), ⟨0, Or.inl rfl⟩⟩)
                    · skip
                      refine to_aload_n (dat dk_X12_encodedEnd 76 rfl) rfl (to_getR 75 g_c13_60 (dat dk_X12_encodedEnd 77 rfl) (hI.atS rfl) (hI.atE rfl) (to_iload_n (dat dk_X12_encodedEnd 78 rfl) rfl (to_iconst (dat dk_X12_encodedEnd 79 rfl) (to_iadd (dat dk_X12_encodedEnd 80 rfl) ?_))))
                      obtain ⟨x234, ex234⟩ : ∃ y : Int, h.2.2 75 (Int.toNat (y7 + 1)) = y := ⟨_, rfl⟩
                      have rx234 := hI.atR (a := 75) (j := Int.toNat (y7 + 1)) rfl
                      rw [ex234] at rx234
                      refine to_baldv (q := 1) ex234 (dat dk_X12_encodedEnd 81 rfl) (by decide) (hI.atS rfl) rfl (by decide) (by omega) ?_
                      refine to_cI ca_c13_157 (dat dk_X12_encodedEnd 82 rfl) (ct_X12_small l h hI x234 (by omega)) rfl trivial rfl (fun x235 h236 rx235 p237 => ?_)
                      subst p237
                      refine to_bipush (dat dk_X12_encodedEnd 83 rfl) (by decide) ?_
                      refine to_ieq 163 (dat dk_X12_encodedEnd 84 rfl) rfl rx235 (by decide) (fun c238 => ?_) (fun c238 => ?_)
                      · skip
                        refine to_iload_n (dat dk_X12_encodedEnd 96 rfl) rfl (to_iconst (dat dk_X12_encodedEnd 97 rfl) (to_iadd (dat dk_X12_encodedEnd 98 rfl) (to_istore_n (L' := [(0, .inr (.inr 60)), (1, .inl p), (2, .inl y7), (3, .inl (y7 + 3))]) (dat dk_X12_encodedEnd 99 rfl) (by decide) rfl ?_)))
                        have lp167_n241 : ∀ (n241 : Nat) (y239 : Int), (I32 y239) → (y7 + 3 ≤ y239 ∧ y239 ≤ h.2.2 60 23) → (h.2.2 60 23 - y239 ≤ (n241 : Int)) → To l E_X12_encodedEnd (167, [(0, .inr (.inr 60)), (1, .inl p), (2, .inl y7), (3, .inl y239)], [], h, 0, 0) (Q_X12_encodedEnd h p) := by
                          intro n241
                          induction n241 using Nat.strongRecOn with
                          | _ n241 ihn241 =>
                          intro y239 ry239 c240 c242
                          refine to_iload_n (dat dk_X12_encodedEnd 100 rfl) rfl (to_aload_n (dat dk_X12_encodedEnd 101 rfl) rfl (to_getIv (y := x1) ex1 g_c13_171 (dat dk_X12_encodedEnd 102 rfl) (hI.atS rfl) ?_))
                          refine to_ige 204 (dat dk_X12_encodedEnd 103 rfl) rfl ry239 (by omega) (fun c243 => ?_) (fun c243 => ?_)
                          · skip
                            refine to_iload_n (dat dk_X12_encodedEnd 118 rfl) rfl (to_iconst (dat dk_X12_encodedEnd 119 rfl) (to_iadd (dat dk_X12_encodedEnd 120 rfl) (to_aload_n (dat dk_X12_encodedEnd 121 rfl) rfl (to_getIv (y := x1) ex1 g_c13_171 (dat dk_X12_encodedEnd 122 rfl) (hI.atS rfl) ?_))))
                            refine to_ige 244 (dat dk_X12_encodedEnd 123 rfl) rfl (by omega) (by omega) (fun c244 => ?_) (fun c244 => ?_)
                            · skip
                              refine to_iconst (dat dk_X12_encodedEnd 142 rfl) ?_
                              exact to_iret rfl (dat dk_X12_encodedEnd 143 rfl) (ri_mk (by decide) ⟨rfl, (show (-1 : Int) = -1 ∨ (p + 7 ≤ (-1 : Int) ∧ (-1 : Int) ≤ h.2.2 60 23) by omega), ⟨0, Or.inl rfl⟩⟩)
                            · skip
                              refine to_aload_n (dat dk_X12_encodedEnd 124 rfl) rfl (to_getR 75 g_c13_60 (dat dk_X12_encodedEnd 125 rfl) (hI.atS rfl) (hI.atE rfl) (to_iload_n (dat dk_X12_encodedEnd 126 rfl) rfl ?_))
                              obtain ⟨x245, ex245⟩ : ∃ y : Int, h.2.2 75 (Int.toNat y239) = y := ⟨_, rfl⟩
                              have rx245 := hI.atR (a := 75) (j := Int.toNat y239) rfl
                              rw [ex245] at rx245
                              refine to_baldv (q := 1) ex245 (dat dk_X12_encodedEnd 127 rfl) (by decide) (hI.atS rfl) rfl (by decide) (by omega) (to_bipush (dat dk_X12_encodedEnd 128 rfl) (by decide) ?_)
                              refine to_ine 244 (dat dk_X12_encodedEnd 129 rfl) rfl (by omega) (by decide) (fun c246 => ?_) (fun c246 => ?_)
                              · skip
                                refine to_iconst (dat dk_X12_encodedEnd 142 rfl) ?_
                                exact to_iret rfl (dat dk_X12_encodedEnd 143 rfl) (ri_mk (by decide) ⟨rfl, (show (-1 : Int) = -1 ∨ (p + 7 ≤ (-1 : Int) ∧ (-1 : Int) ≤ h.2.2 60 23) by omega), ⟨0, Or.inl rfl⟩⟩)
                              · skip
                                refine to_aload_n (dat dk_X12_encodedEnd 130 rfl) rfl (to_getR 75 g_c13_60 (dat dk_X12_encodedEnd 131 rfl) (hI.atS rfl) (hI.atE rfl) (to_iload_n (dat dk_X12_encodedEnd 132 rfl) rfl (to_iconst (dat dk_X12_encodedEnd 133 rfl) (to_iadd (dat dk_X12_encodedEnd 134 rfl) ?_))))
                                obtain ⟨x247, ex247⟩ : ∃ y : Int, h.2.2 75 (Int.toNat (y239 + 1)) = y := ⟨_, rfl⟩
                                have rx247 := hI.atR (a := 75) (j := Int.toNat (y239 + 1)) rfl
                                rw [ex247] at rx247
                                refine to_baldv (q := 1) ex247 (dat dk_X12_encodedEnd 135 rfl) (by decide) (hI.atS rfl) rfl (by decide) (by omega) (to_bipush (dat dk_X12_encodedEnd 136 rfl) (by decide) ?_)
                                refine to_ine 244 (dat dk_X12_encodedEnd 137 rfl) rfl (by omega) (by decide) (fun c248 => ?_) (fun c248 => ?_)
                                · skip
                                  refine to_iconst (dat dk_X12_encodedEnd 142 rfl) ?_
                                  exact to_iret rfl (dat dk_X12_encodedEnd 143 rfl) (ri_mk (by decide) ⟨rfl, (show (-1 : Int) = -1 ∨ (p + 7 ≤ (-1 : Int) ∧ (-1 : Int) ≤ h.2.2 60 23) by omega), ⟨0, Or.inl rfl⟩⟩)
                                · skip
                                  refine to_iload_n (dat dk_X12_encodedEnd 138 rfl) rfl (to_iconst (dat dk_X12_encodedEnd 139 rfl) (to_iadd (dat dk_X12_encodedEnd 140 rfl) (to_goto (dat dk_X12_encodedEnd 141 rfl) rfl ?_)))
                                  exact to_iret rfl (dat dk_X12_encodedEnd 143 rfl) (ri_mk (by omega) ⟨rfl, (show (y239 + 2) = -1 ∨ (p + 7 ≤ (y239 + 2) ∧ (y239 + 2) ≤ h.2.2 60 23) by omega), ⟨Int.toNat y7, Or.inr ⟨by omega, by omega, by omega⟩⟩⟩)
                          · skip
                            refine to_aload_n (dat dk_X12_encodedEnd 104 rfl) rfl (to_getR 75 g_c13_60 (dat dk_X12_encodedEnd 105 rfl) (hI.atS rfl) (hI.atE rfl) (to_iload_n (dat dk_X12_encodedEnd 106 rfl) rfl ?_))
                            obtain ⟨x249, ex249⟩ : ∃ y : Int, h.2.2 75 (Int.toNat y239) = y := ⟨_, rfl⟩
                            have rx249 := hI.atR (a := 75) (j := Int.toNat y239) rfl
                            rw [ex249] at rx249
                            refine to_baldv (q := 1) ex249 (dat dk_X12_encodedEnd 107 rfl) (by decide) (hI.atS rfl) rfl (by decide) (by omega) (to_bipush (dat dk_X12_encodedEnd 108 rfl) (by decide) ?_)
                            refine to_ieq 204 (dat dk_X12_encodedEnd 109 rfl) rfl (by omega) (by decide) (fun c250 => ?_) (fun c250 => ?_)
                            · skip
                              refine to_iload_n (dat dk_X12_encodedEnd 118 rfl) rfl (to_iconst (dat dk_X12_encodedEnd 119 rfl) (to_iadd (dat dk_X12_encodedEnd 120 rfl) (to_aload_n (dat dk_X12_encodedEnd 121 rfl) rfl (to_getIv (y := x1) ex1 g_c13_171 (dat dk_X12_encodedEnd 122 rfl) (hI.atS rfl) ?_))))
                              refine to_ige 244 (dat dk_X12_encodedEnd 123 rfl) rfl (by omega) (by omega) (fun c251 => ?_) (fun c251 => ?_)
                              · skip
                                refine to_iconst (dat dk_X12_encodedEnd 142 rfl) ?_
                                exact to_iret rfl (dat dk_X12_encodedEnd 143 rfl) (ri_mk (by decide) ⟨rfl, (show (-1 : Int) = -1 ∨ (p + 7 ≤ (-1 : Int) ∧ (-1 : Int) ≤ h.2.2 60 23) by omega), ⟨0, Or.inl rfl⟩⟩)
                              · skip
                                refine to_aload_n (dat dk_X12_encodedEnd 124 rfl) rfl (to_getR 75 g_c13_60 (dat dk_X12_encodedEnd 125 rfl) (hI.atS rfl) (hI.atE rfl) (to_iload_n (dat dk_X12_encodedEnd 126 rfl) rfl ?_))
                                obtain ⟨x252, ex252⟩ : ∃ y : Int, h.2.2 75 (Int.toNat y239) = y := ⟨_, rfl⟩
                                have rx252 := hI.atR (a := 75) (j := Int.toNat y239) rfl
                                rw [ex252] at rx252
                                refine to_baldv (q := 1) ex252 (dat dk_X12_encodedEnd 127 rfl) (by decide) (hI.atS rfl) rfl (by decide) (by omega) (to_bipush (dat dk_X12_encodedEnd 128 rfl) (by decide) ?_)
                                refine to_ine 244 (dat dk_X12_encodedEnd 129 rfl) rfl (by omega) (by decide) (fun c253 => ?_) (fun c253 => ?_)
                                · skip
                                  refine to_iconst (dat dk_X12_encodedEnd 142 rfl) ?_
                                  exact to_iret rfl (dat dk_X12_encodedEnd 143 rfl) (ri_mk (by decide) ⟨rfl, (show (-1 : Int) = -1 ∨ (p + 7 ≤ (-1 : Int) ∧ (-1 : Int) ≤ h.2.2 60 23) by omega), ⟨0, Or.inl rfl⟩⟩)
                                · skip
                                  refine to_aload_n (dat dk_X12_encodedEnd 130 rfl) rfl (to_getR 75 g_c13_60 (dat dk_X12_encodedEnd 131 rfl) (hI.atS rfl) (hI.atE rfl) (to_iload_n (dat dk_X12_encodedEnd 132 rfl) rfl (to_iconst (dat dk_X12_encodedEnd 133 rfl) (to_iadd (dat dk_X12_encodedEnd 134 rfl) ?_))))
                                  obtain ⟨x254, ex254⟩ : ∃ y : Int, h.2.2 75 (Int.toNat (y239 + 1)) = y := ⟨_, rfl⟩
                                  have rx254 := hI.atR (a := 75) (j := Int.toNat (y239 + 1)) rfl
                                  rw [ex254] at rx254
                                  refine to_baldv (q := 1) ex254 (dat dk_X12_encodedEnd 135 rfl) (by decide) (hI.atS rfl) rfl (by decide) (by omega) (to_bipush (dat dk_X12_encodedEnd 136 rfl) (by decide) ?_)
                                  refine to_ine 244 (dat dk_X12_encodedEnd 137 rfl) rfl (by omega) (by decide) (fun c255 => ?_) (fun c255 => ?_)
                                  · skip
                                    refine to_iconst (dat dk_X12_encodedEnd 142 rfl) ?_
                                    exact to_iret rfl (dat dk_X12_encodedEnd 143 rfl) (ri_mk (by decide) ⟨rfl, (show (-1 : Int) = -1 ∨ (p + 7 ≤ (-1 : Int) ∧ (-1 : Int) ≤ h.2.2 60 23) by omega), ⟨0, Or.inl rfl⟩⟩)
                                  · skip
                                    refine to_iload_n (dat dk_X12_encodedEnd 138 rfl) rfl (to_iconst (dat dk_X12_encodedEnd 139 rfl) (to_iadd (dat dk_X12_encodedEnd 140 rfl) (to_goto (dat dk_X12_encodedEnd 141 rfl) rfl ?_)))
                                    exact to_iret rfl (dat dk_X12_encodedEnd 143 rfl) (ri_mk (by omega) ⟨rfl, (show (y239 + 2) = -1 ∨ (p + 7 ≤ (y239 + 2) ∧ (y239 + 2) ≤ h.2.2 60 23) by omega), ⟨Int.toNat y7, Or.inr ⟨by omega, by omega, by omega⟩⟩⟩)
                            · skip
                              refine to_aload_n (dat dk_X12_encodedEnd 110 rfl) rfl (to_getR 75 g_c13_60 (dat dk_X12_encodedEnd 111 rfl) (hI.atS rfl) (hI.atE rfl) (to_iload_n (dat dk_X12_encodedEnd 112 rfl) rfl ?_))
                              obtain ⟨x256, ex256⟩ : ∃ y : Int, h.2.2 75 (Int.toNat y239) = y := ⟨_, rfl⟩
                              have rx256 := hI.atR (a := 75) (j := Int.toNat y239) rfl
                              rw [ex256] at rx256
                              refine to_baldv (q := 1) ex256 (dat dk_X12_encodedEnd 113 rfl) (by decide) (hI.atS rfl) rfl (by decide) (by omega) ?_
                              refine to_cI ca_c13_182 (dat dk_X12_encodedEnd 114 rfl) (ct_X12_isBlank l h hI x256 (by omega)) rfl trivial rfl (fun x257 h258 rx257 p259 => ?_)
                              obtain ⟨rfl, zx257⟩ := p259
                              refine to_ifne 204 (dat dk_X12_encodedEnd 115 rfl) rfl rx257 (fun c260 => ?_) (fun c260 => ?_)
                              · skip
                                refine to_iload_n (dat dk_X12_encodedEnd 118 rfl) rfl (to_iconst (dat dk_X12_encodedEnd 119 rfl) (to_iadd (dat dk_X12_encodedEnd 120 rfl) (to_aload_n (dat dk_X12_encodedEnd 121 rfl) rfl (to_getIv (y := x1) ex1 g_c13_171 (dat dk_X12_encodedEnd 122 rfl) (hI.atS rfl) ?_))))
                                refine to_ige 244 (dat dk_X12_encodedEnd 123 rfl) rfl (by omega) (by omega) (fun c261 => ?_) (fun c261 => ?_)
                                · skip
                                  refine to_iconst (dat dk_X12_encodedEnd 142 rfl) ?_
                                  exact to_iret rfl (dat dk_X12_encodedEnd 143 rfl) (ri_mk (by decide) ⟨rfl, (show (-1 : Int) = -1 ∨ (p + 7 ≤ (-1 : Int) ∧ (-1 : Int) ≤ h.2.2 60 23) by omega), ⟨0, Or.inl rfl⟩⟩)
                                · skip
                                  refine to_aload_n (dat dk_X12_encodedEnd 124 rfl) rfl (to_getR 75 g_c13_60 (dat dk_X12_encodedEnd 125 rfl) (hI.atS rfl) (hI.atE rfl) (to_iload_n (dat dk_X12_encodedEnd 126 rfl) rfl ?_))
                                  obtain ⟨x262, ex262⟩ : ∃ y : Int, h.2.2 75 (Int.toNat y239) = y := ⟨_, rfl⟩
                                  have rx262 := hI.atR (a := 75) (j := Int.toNat y239) rfl
                                  rw [ex262] at rx262
                                  refine to_baldv (q := 1) ex262 (dat dk_X12_encodedEnd 127 rfl) (by decide) (hI.atS rfl) rfl (by decide) (by omega) (to_bipush (dat dk_X12_encodedEnd 128 rfl) (by decide) ?_)
                                  refine to_ine 244 (dat dk_X12_encodedEnd 129 rfl) rfl (by omega) (by decide) (fun c263 => ?_) (fun c263 => ?_)
                                  · skip
                                    refine to_iconst (dat dk_X12_encodedEnd 142 rfl) ?_
                                    exact to_iret rfl (dat dk_X12_encodedEnd 143 rfl) (ri_mk (by decide) ⟨rfl, (show (-1 : Int) = -1 ∨ (p + 7 ≤ (-1 : Int) ∧ (-1 : Int) ≤ h.2.2 60 23) by omega), ⟨0, Or.inl rfl⟩⟩)
                                  · skip
                                    refine to_aload_n (dat dk_X12_encodedEnd 130 rfl) rfl (to_getR 75 g_c13_60 (dat dk_X12_encodedEnd 131 rfl) (hI.atS rfl) (hI.atE rfl) (to_iload_n (dat dk_X12_encodedEnd 132 rfl) rfl (to_iconst (dat dk_X12_encodedEnd 133 rfl) (to_iadd (dat dk_X12_encodedEnd 134 rfl) ?_))))
                                    obtain ⟨x264, ex264⟩ : ∃ y : Int, h.2.2 75 (Int.toNat (y239 + 1)) = y := ⟨_, rfl⟩
                                    have rx264 := hI.atR (a := 75) (j := Int.toNat (y239 + 1)) rfl
                                    rw [ex264] at rx264
                                    refine to_baldv (q := 1) ex264 (dat dk_X12_encodedEnd 135 rfl) (by decide) (hI.atS rfl) rfl (by decide) (by omega) (to_bipush (dat dk_X12_encodedEnd 136 rfl) (by decide) ?_)
                                    refine to_ine 244 (dat dk_X12_encodedEnd 137 rfl) rfl (by omega) (by decide) (fun c265 => ?_) (fun c265 => ?_)
                                    · skip
                                      refine to_iconst (dat dk_X12_encodedEnd 142 rfl) ?_
                                      exact to_iret rfl (dat dk_X12_encodedEnd 143 rfl) (ri_mk (by decide) ⟨rfl, (show (-1 : Int) = -1 ∨ (p + 7 ≤ (-1 : Int) ∧ (-1 : Int) ≤ h.2.2 60 23) by omega), ⟨0, Or.inl rfl⟩⟩)
                                    · skip
                                      refine to_iload_n (dat dk_X12_encodedEnd 138 rfl) rfl (to_iconst (dat dk_X12_encodedEnd 139 rfl) (to_iadd (dat dk_X12_encodedEnd 140 rfl) (to_goto (dat dk_X12_encodedEnd 141 rfl) rfl ?_)))
                                      exact to_iret rfl (dat dk_X12_encodedEnd 143 rfl) (ri_mk (by omega) ⟨rfl, (show (y239 + 2) = -1 ∨ (p + 7 ≤ (y239 + 2) ∧ (y239 + 2) ≤ h.2.2 60 23) by omega), ⟨Int.toNat y7, Or.inr ⟨by omega, by omega, by omega⟩⟩⟩)
                              · skip
                                refine to_iinc (L' := [(0, .inr (.inr 60)), (1, .inl p), (2, .inl y7), (3, .inl (y239 + 1))]) (dat dk_X12_encodedEnd 116 rfl) rfl (by decide) rfl (to_goto (dat dk_X12_encodedEnd 117 rfl) rfl ?_)
                                exact ihn241 (n241 - 1) (by omega) (y239 + 1) (by omega) (show y7 + 3 ≤ (y239 + 1) ∧ (y239 + 1) ≤ h.2.2 60 23 by omega) (show h.2.2 60 23 - (y239 + 1) ≤ ((n241 - 1 : Nat) : Int) by omega)
                        exact lp167_n241 (h.2.2 60 23 - (y7 + 3)).toNat (y7 + 3) (by omega) (show y7 + 3 ≤ (y7 + 3) ∧ (y7 + 3) ≤ h.2.2 60 23 by omega) (by omega)
                      · skip
                        refine to_aload_n (dat dk_X12_encodedEnd 85 rfl) rfl (to_getR 75 g_c13_60 (dat dk_X12_encodedEnd 86 rfl) (hI.atS rfl) (hI.atE rfl) (to_iload_n (dat dk_X12_encodedEnd 87 rfl) rfl (to_iconst (dat dk_X12_encodedEnd 88 rfl) (to_iadd (dat dk_X12_encodedEnd 89 rfl) ?_))))
                        obtain ⟨x266, ex266⟩ : ∃ y : Int, h.2.2 75 (Int.toNat (y7 + 1)) = y := ⟨_, rfl⟩
                        have rx266 := hI.atR (a := 75) (j := Int.toNat (y7 + 1)) rfl
                        rw [ex266] at rx266
                        refine to_baldv (q := 1) ex266 (dat dk_X12_encodedEnd 90 rfl) (by decide) (hI.atS rfl) rfl (by decide) (by omega) ?_
                        refine to_cI ca_c13_157 (dat dk_X12_encodedEnd 91 rfl) (ct_X12_small l h hI x266 (by omega)) rfl trivial rfl (fun x267 h268 rx267 p269 => ?_)
                        subst p269
                        refine to_bipush (dat dk_X12_encodedEnd 92 rfl) (by decide) ?_
                        refine to_ieq 163 (dat dk_X12_encodedEnd 93 rfl) rfl rx267 (by decide) (fun c270 => ?_) (fun c270 => ?_)
                        · skip
                          refine to_iload_n (dat dk_X12_encodedEnd 96 rfl) rfl (to_iconst (dat dk_X12_encodedEnd 97 rfl) (to_iadd (dat dk_X12_encodedEnd 98 rfl) (to_istore_n (L' := [(0, .inr (.inr 60)), (1, .inl p), (2, .inl y7), (3, .inl (y7 + 3))]) (dat dk_X12_encodedEnd 99 rfl) (by decide) rfl ?_)))
                          have lp167_n273 : ∀ (n273 : Nat) (y271 : Int), (I32 y271) → (y7 + 3 ≤ y271 ∧ y271 ≤ h.2.2 60 23) → (h.2.2 60 23 - y271 ≤ (n273 : Int)) → To l E_X12_encodedEnd (167, [(0, .inr (.inr 60)), (1, .inl p), (2, .inl y7), (3, .inl y271)], [], h, 0, 0) (Q_X12_encodedEnd h p) := by
                            intro n273
                            induction n273 using Nat.strongRecOn with
                            | _ n273 ihn273 =>
                            intro y271 ry271 c272 c274
                            refine to_iload_n (dat dk_X12_encodedEnd 100 rfl) rfl (to_aload_n (dat dk_X12_encodedEnd 101 rfl) rfl (to_getIv (y := x1) ex1 g_c13_171 (dat dk_X12_encodedEnd 102 rfl) (hI.atS rfl) ?_))
                            refine to_ige 204 (dat dk_X12_encodedEnd 103 rfl) rfl ry271 (by omega) (fun c275 => ?_) (fun c275 => ?_)
                            · skip
                              refine to_iload_n (dat dk_X12_encodedEnd 118 rfl) rfl (to_iconst (dat dk_X12_encodedEnd 119 rfl) (to_iadd (dat dk_X12_encodedEnd 120 rfl) (to_aload_n (dat dk_X12_encodedEnd 121 rfl) rfl (to_getIv (y := x1) ex1 g_c13_171 (dat dk_X12_encodedEnd 122 rfl) (hI.atS rfl) ?_))))
                              refine to_ige 244 (dat dk_X12_encodedEnd 123 rfl) rfl (by omega) (by omega) (fun c276 => ?_) (fun c276 => ?_)
                              · skip
                                refine to_iconst (dat dk_X12_encodedEnd 142 rfl) ?_
                                exact to_iret rfl (dat dk_X12_encodedEnd 143 rfl) (ri_mk (by decide) ⟨rfl, (show (-1 : Int) = -1 ∨ (p + 7 ≤ (-1 : Int) ∧ (-1 : Int) ≤ h.2.2 60 23) by omega), ⟨0, Or.inl rfl⟩⟩)
                              · skip
                                refine to_aload_n (dat dk_X12_encodedEnd 124 rfl) rfl (to_getR 75 g_c13_60 (dat dk_X12_encodedEnd 125 rfl) (hI.atS rfl) (hI.atE rfl) (to_iload_n (dat dk_X12_encodedEnd 126 rfl) rfl ?_))
                                obtain ⟨x277, ex277⟩ : ∃ y : Int, h.2.2 75 (Int.toNat y271) = y := ⟨_, rfl⟩
                                have rx277 := hI.atR (a := 75) (j := Int.toNat y271) rfl
                                rw [ex277] at rx277
                                refine to_baldv (q := 1) ex277 (dat dk_X12_encodedEnd 127 rfl) (by decide) (hI.atS rfl) rfl (by decide) (by omega) (to_bipush (dat dk_X12_encodedEnd 128 rfl) (by decide) ?_)
                                refine to_ine 244 (dat dk_X12_encodedEnd 129 rfl) rfl (by omega) (by decide) (fun c278 => ?_) (fun c278 => ?_)
                                · skip
                                  refine to_iconst (dat dk_X12_encodedEnd 142 rfl) ?_
                                  exact to_iret rfl (dat dk_X12_encodedEnd 143 rfl) (ri_mk (by decide) ⟨rfl, (show (-1 : Int) = -1 ∨ (p + 7 ≤ (-1 : Int) ∧ (-1 : Int) ≤ h.2.2 60 23) by omega), ⟨0, Or.inl rfl⟩⟩)
                                · skip
                                  refine to_aload_n (dat dk_X12_encodedEnd 130 rfl) rfl (to_getR 75 g_c13_60 (dat dk_X12_encodedEnd 131 rfl) (hI.atS rfl) (hI.atE rfl) (to_iload_n (dat dk_X12_encodedEnd 132 rfl) rfl (to_iconst (dat dk_X12_encodedEnd 133 rfl) (to_iadd (dat dk_X12_encodedEnd 134 rfl) ?_))))
                                  obtain ⟨x279, ex279⟩ : ∃ y : Int, h.2.2 75 (Int.toNat (y271 + 1)) = y := ⟨_, rfl⟩
                                  have rx279 := hI.atR (a := 75) (j := Int.toNat (y271 + 1)) rfl
                                  rw [ex279] at rx279
                                  refine to_baldv (q := 1) ex279 (dat dk_X12_encodedEnd 135 rfl) (by decide) (hI.atS rfl) rfl (by decide) (by omega) (to_bipush (dat dk_X12_encodedEnd 136 rfl) (by decide) ?_)
                                  refine to_ine 244 (dat dk_X12_encodedEnd 137 rfl) rfl (by omega) (by decide) (fun c280 => ?_) (fun c280 => ?_)
                                  · skip
                                    refine to_iconst (dat dk_X12_encodedEnd 142 rfl) ?_
                                    exact to_iret rfl (dat dk_X12_encodedEnd 143 rfl) (ri_mk (by decide) ⟨rfl, (show (-1 : Int) = -1 ∨ (p + 7 ≤ (-1 : Int) ∧ (-1 : Int) ≤ h.2.2 60 23) by omega), ⟨0, Or.inl rfl⟩⟩)
                                  · skip
                                    refine to_iload_n (dat dk_X12_encodedEnd 138 rfl) rfl (to_iconst (dat dk_X12_encodedEnd 139 rfl) (to_iadd (dat dk_X12_encodedEnd 140 rfl) (to_goto (dat dk_X12_encodedEnd 141 rfl) rfl ?_)))
                                    exact to_iret rfl (dat dk_X12_encodedEnd 143 rfl) (ri_mk (by omega) ⟨rfl, (show (y271 + 2) = -1 ∨ (p + 7 ≤ (y271 + 2) ∧ (y271 + 2) ≤ h.2.2 60 23) by omega), ⟨Int.toNat y7, Or.inr ⟨by omega, by omega, by omega⟩⟩⟩)
                            · skip
                              refine to_aload_n (dat dk_X12_encodedEnd 104 rfl) rfl (to_getR 75 g_c13_60 (dat dk_X12_encodedEnd 105 rfl) (hI.atS rfl) (hI.atE rfl) (to_iload_n (dat dk_X12_encodedEnd 106 rfl) rfl ?_))
                              obtain ⟨x281, ex281⟩ : ∃ y : Int, h.2.2 75 (Int.toNat y271) = y := ⟨_, rfl⟩
                              have rx281 := hI.atR (a := 75) (j := Int.toNat y271) rfl
                              rw [ex281] at rx281
                              refine to_baldv (q := 1) ex281 (dat dk_X12_encodedEnd 107 rfl) (by decide) (hI.atS rfl) rfl (by decide) (by omega) (to_bipush (dat dk_X12_encodedEnd 108 rfl) (by decide) ?_)
                              refine to_ieq 204 (dat dk_X12_encodedEnd 109 rfl) rfl (by omega) (by decide) (fun c282 => ?_) (fun c282 => ?_)
                              · skip
                                refine to_iload_n (dat dk_X12_encodedEnd 118 rfl) rfl (to_iconst (dat dk_X12_encodedEnd 119 rfl) (to_iadd (dat dk_X12_encodedEnd 120 rfl) (to_aload_n (dat dk_X12_encodedEnd 121 rfl) rfl (to_getIv (y := x1) ex1 g_c13_171 (dat dk_X12_encodedEnd 122 rfl) (hI.atS rfl) ?_))))
                                refine to_ige 244 (dat dk_X12_encodedEnd 123 rfl) rfl (by omega) (by omega) (fun c283 => ?_) (fun c283 => ?_)
                                · skip
                                  refine to_iconst (dat dk_X12_encodedEnd 142 rfl) ?_
                                  exact to_iret rfl (dat dk_X12_encodedEnd 143 rfl) (ri_mk (by decide) ⟨rfl, (show (-1 : Int) = -1 ∨ (p + 7 ≤ (-1 : Int) ∧ (-1 : Int) ≤ h.2.2 60 23) by omega), ⟨0, Or.inl rfl⟩⟩)
                                · skip
                                  refine to_aload_n (dat dk_X12_encodedEnd 124 rfl) rfl (to_getR 75 g_c13_60 (dat dk_X12_encodedEnd 125 rfl) (hI.atS rfl) (hI.atE rfl) (to_iload_n (dat dk_X12_encodedEnd 126 rfl) rfl ?_))
                                  obtain ⟨x284, ex284⟩ : ∃ y : Int, h.2.2 75 (Int.toNat y271) = y := ⟨_, rfl⟩
                                  have rx284 := hI.atR (a := 75) (j := Int.toNat y271) rfl
                                  rw [ex284] at rx284
                                  refine to_baldv (q := 1) ex284 (dat dk_X12_encodedEnd 127 rfl) (by decide) (hI.atS rfl) rfl (by decide) (by omega) (to_bipush (dat dk_X12_encodedEnd 128 rfl) (by decide) ?_)
                                  refine to_ine 244 (dat dk_X12_encodedEnd 129 rfl) rfl (by omega) (by decide) (fun c285 => ?_) (fun c285 => ?_)
                                  · skip
                                    refine to_iconst (dat dk_X12_encodedEnd 142 rfl) ?_
                                    exact to_iret rfl (dat dk_X12_encodedEnd 143 rfl) (ri_mk (by decide) ⟨rfl, (show (-1 : Int) = -1 ∨ (p + 7 ≤ (-1 : Int) ∧ (-1 : Int) ≤ h.2.2 60 23) by omega), ⟨0, Or.inl rfl⟩⟩)
                                  · skip
                                    refine to_aload_n (dat dk_X12_encodedEnd 130 rfl) rfl (to_getR 75 g_c13_60 (dat dk_X12_encodedEnd 131 rfl) (hI.atS rfl) (hI.atE rfl) (to_iload_n (dat dk_X12_encodedEnd 132 rfl) rfl (to_iconst (dat dk_X12_encodedEnd 133 rfl) (to_iadd (dat dk_X12_encodedEnd 134 rfl) ?_))))
                                    obtain ⟨x286, ex286⟩ : ∃ y : Int, h.2.2 75 (Int.toNat (y271 + 1)) = y := ⟨_, rfl⟩
                                    have rx286 := hI.atR (a := 75) (j := Int.toNat (y271 + 1)) rfl
                                    rw [ex286] at rx286
                                    refine to_baldv (q := 1) ex286 (dat dk_X12_encodedEnd 135 rfl) (by decide) (hI.atS rfl) rfl (by decide) (by omega) (to_bipush (dat dk_X12_encodedEnd 136 rfl) (by decide) ?_)
                                    refine to_ine 244 (dat dk_X12_encodedEnd 137 rfl) rfl (by omega) (by decide) (fun c287 => ?_) (fun c287 => ?_)
                                    · skip
                                      refine to_iconst (dat dk_X12_encodedEnd 142 rfl) ?_
                                      exact to_iret rfl (dat dk_X12_encodedEnd 143 rfl) (ri_mk (by decide) ⟨rfl, (show (-1 : Int) = -1 ∨ (p + 7 ≤ (-1 : Int) ∧ (-1 : Int) ≤ h.2.2 60 23) by omega), ⟨0, Or.inl rfl⟩⟩)
                                    · skip
                                      refine to_iload_n (dat dk_X12_encodedEnd 138 rfl) rfl (to_iconst (dat dk_X12_encodedEnd 139 rfl) (to_iadd (dat dk_X12_encodedEnd 140 rfl) (to_goto (dat dk_X12_encodedEnd 141 rfl) rfl ?_)))
                                      exact to_iret rfl (dat dk_X12_encodedEnd 143 rfl) (ri_mk (by omega) ⟨rfl, (show (y271 + 2) = -1 ∨ (p + 7 ≤ (y271 + 2) ∧ (y271 + 2) ≤ h.2.2 60 23) by omega), ⟨Int.toNat y7, Or.inr ⟨by omega, by omega, by omega⟩⟩⟩)
                              · skip
                                refine to_aload_n (dat dk_X12_encodedEnd 110 rfl) rfl (to_getR 75 g_c13_60 (dat dk_X12_encodedEnd 111 rfl) (hI.atS rfl) (hI.atE rfl) (to_iload_n (dat dk_X12_encodedEnd 112 rfl) rfl ?_))
                                obtain ⟨x288, ex288⟩ : ∃ y : Int, h.2.2 75 (Int.toNat y271) = y := ⟨_, rfl⟩
                                have rx288 := hI.atR (a := 75) (j := Int.toNat y271) rfl
                                rw [ex288] at rx288
                                refine to_baldv (q := 1) ex288 (dat dk_X12_encodedEnd 113 rfl) (by decide) (hI.atS rfl) rfl (by decide) (by omega) ?_
                                refine to_cI ca_c13_182 (dat dk_X12_encodedEnd 114 rfl) (ct_X12_isBlank l h hI x288 (by omega)) rfl trivial rfl (fun x289 h290 rx289 p291 => ?_)
                                obtain ⟨rfl, zx289⟩ := p291
                                refine to_ifne 204 (dat dk_X12_encodedEnd 115 rfl) rfl rx289 (fun c292 => ?_) (fun c292 => ?_)
                                · skip
                                  refine to_iload_n (dat dk_X12_encodedEnd 118 rfl) rfl (to_iconst (dat dk_X12_encodedEnd 119 rfl) (to_iadd (dat dk_X12_encodedEnd 120 rfl) (to_aload_n (dat dk_X12_encodedEnd 121 rfl) rfl (to_getIv (y := x1) ex1 g_c13_171 (dat dk_X12_encodedEnd 122 rfl) (hI.atS rfl) ?_))))
                                  refine to_ige 244 (dat dk_X12_encodedEnd 123 rfl) rfl (by omega) (by omega) (fun c293 => ?_) (fun c293 => ?_)
                                  · skip
                                    refine to_iconst (dat dk_X12_encodedEnd 142 rfl) ?_
                                    exact to_iret rfl (dat dk_X12_encodedEnd 143 rfl) (ri_mk (by decide) ⟨rfl, (show (-1 : Int) = -1 ∨ (p + 7 ≤ (-1 : Int) ∧ (-1 : Int) ≤ h.2.2 60 23) by omega), ⟨0, Or.inl rfl⟩⟩)
                                  · skip
                                    refine to_aload_n (dat dk_X12_encodedEnd 124 rfl) rfl (to_getR 75 g_c13_60 (dat dk_X12_encodedEnd 125 rfl) (hI.atS rfl) (hI.atE rfl) (to_iload_n (dat dk_X12_encodedEnd 126 rfl) rfl ?_))
                                    obtain ⟨x294, ex294⟩ : ∃ y : Int, h.2.2 75 (Int.toNat y271) = y := ⟨_, rfl⟩
                                    have rx294 := hI.atR (a := 75) (j := Int.toNat y271) rfl
                                    rw [ex294] at rx294
                                    refine to_baldv (q := 1) ex294 (dat dk_X12_encodedEnd 127 rfl) (by decide) (hI.atS rfl) rfl (by decide) (by omega) (to_bipush (dat dk_X12_encodedEnd 128 rfl) (by decide) ?_)
                                    refine to_ine 244 (dat dk_X12_encodedEnd 129 rfl) rfl (by omega) (by decide) (fun c295 => ?_) (fun c295 => ?_)
                                    · skip
                                      refine to_iconst (dat dk_X12_encodedEnd 142 rfl) ?_
                                      exact to_iret rfl (dat dk_X12_encodedEnd 143 rfl) (ri_mk (by decide) ⟨rfl, (show (-1 : Int) = -1 ∨ (p + 7 ≤ (-1 : Int) ∧ (-1 : Int) ≤ h.2.2 60 23) by omega), ⟨0, Or.inl rfl⟩⟩)
                                    · skip
                                      refine to_aload_n (dat dk_X12_encodedEnd 130 rfl) rfl (to_getR 75 g_c13_60 (dat dk_X12_encodedEnd 131 rfl) (hI.atS rfl) (hI.atE rfl) (to_iload_n (dat dk_X12_encodedEnd 132 rfl) rfl (to_iconst (dat dk_X12_encodedEnd 133 rfl) (to_iadd (dat dk_X12_encodedEnd 134 rfl) ?_))))
                                      obtain ⟨x296, ex296⟩ : ∃ y : Int, h.2.2 75 (Int.toNat (y271 + 1)) = y := ⟨_, rfl⟩
                                      have rx296 := hI.atR (a := 75) (j := Int.toNat (y271 + 1)) rfl
                                      rw [ex296] at rx296
                                      refine to_baldv (q := 1) ex296 (dat dk_X12_encodedEnd 135 rfl) (by decide) (hI.atS rfl) rfl (by decide) (by omega) (to_bipush (dat dk_X12_encodedEnd 136 rfl) (by decide) ?_)
                                      refine to_ine 244 (dat dk_X12_encodedEnd 137 rfl) rfl (by omega) (by decide) (fun c297 => ?_) (fun c297 => ?_)
                                      · skip
                                        refine to_iconst (dat dk_X12_encodedEnd 142 rfl) ?_
                                        exact to_iret rfl (dat dk_X12_encodedEnd 143 rfl) (ri_mk (by decide) ⟨rfl, (show (-1 : Int) = -1 ∨ (p + 7 ≤ (-1 : Int) ∧ (-1 : Int) ≤ h.2.2 60 23) by omega), ⟨0, Or.inl rfl⟩⟩)
                                      · skip
                                        refine to_iload_n (dat dk_X12_encodedEnd 138 rfl) rfl (to_iconst (dat dk_X12_encodedEnd 139 rfl) (to_iadd (dat dk_X12_encodedEnd 140 rfl) (to_goto (dat dk_X12_encodedEnd 141 rfl) rfl ?_)))
                                        exact to_iret rfl (dat dk_X12_encodedEnd 143 rfl) (ri_mk (by omega) ⟨rfl, (show (y271 + 2) = -1 ∨ (p + 7 ≤ (y271 + 2) ∧ (y271 + 2) ≤ h.2.2 60 23) by omega), ⟨Int.toNat y7, Or.inr ⟨by omega, by omega, by omega⟩⟩⟩)
                                · skip
                                  refine to_iinc (L' := [(0, .inr (.inr 60)), (1, .inl p), (2, .inl y7), (3, .inl (y271 + 1))]) (dat dk_X12_encodedEnd 116 rfl) rfl (by decide) rfl (to_goto (dat dk_X12_encodedEnd 117 rfl) rfl ?_)
                                  exact ihn273 (n273 - 1) (by omega) (y271 + 1) (by omega) (show y7 + 3 ≤ (y271 + 1) ∧ (y271 + 1) ≤ h.2.2 60 23 by omega) (show h.2.2 60 23 - (y271 + 1) ≤ ((n273 - 1 : Nat) : Int) by omega)
                          exact lp167_n273 (h.2.2 60 23 - (y7 + 3)).toNat (y7 + 3) (by omega) (show y7 + 3 ≤ (y7 + 3) ∧ (y7 + 3) ≤ h.2.2 60 23 by omega) (by omega)
                        · skip
                          refine to_iconst (dat dk_X12_encodedEnd 94 rfl) ?_
                          exact to_iret rfl (dat dk_X12_encodedEnd 95 rfl) (ri_mk (by decide) ⟨rfl, (show (-1 : Int) = -1 ∨ (p + 7 ≤ (-1 : Int) ∧ (-1 : Int) ≤ h.2.2 60 23) by omega), ⟨0, Or.inl rfl⟩⟩)
                · skip
                  refine to_iconst (dat dk_X12_encodedEnd 60 rfl) ?_
                  exact to_iret rfl (dat dk_X12_encodedEnd 61 rfl) (ri_mk (by decide) ⟨rfl, (show (-1 : Int) = -1 ∨ (p + 7 ≤ (-1 : Int) ∧ (-1 : Int) ≤ h.2.2 60 23) by omega), ⟨0, Or.inl rfl⟩⟩)
            · skip
              refine to_iinc (L' := [(0, .inr (.inr 60)), (1, .inl p), (2, .inl (y7 + 1))]) (dat dk_X12_encodedEnd 36 rfl) rfl (by decide) rfl (to_goto (dat dk_X12_encodedEnd 37 rfl) rfl ?_)
              exact ihn9 (n9 - 1) (by omega) (y7 + 1) (by omega) (show p + 2 ≤ (y7 + 1) ∧ (y7 + 1) ≤ h.2.2 60 23 by omega) (show h.2.2 60 23 - (y7 + 1) ≤ ((n9 - 1 : Nat) : Int) by omega)
        exact lp40_n9 (h.2.2 60 23 - (p + 2)).toNat (p + 2) (by omega) (show p + 2 ≤ (p + 2) ∧ (p + 2) ≤ h.2.2 60 23 by omega) (by omega)
      · skip
        refine to_iconst (dat dk_X12_encodedEnd 20 rfl) ?_
        exact to_iret rfl (dat dk_X12_encodedEnd 21 rfl) (ri_mk (by decide) ⟨rfl, (show (-1 : Int) = -1 ∨ (p + 7 ≤ (-1 : Int) ∧ (-1 : Int) ≤ h.2.2 60 23) by omega), ⟨0, Or.inl rfl⟩⟩)
abbrev Q_X12_readEncoded (h : Hp) : Option V → Hp → Nat → Nat → Prop := RV (fun H => Inv H ∧ Fr [76, 225] h H ∧ (H.2.2 60 25 ≤ H.2.2 60 23))
set_option maxRecDepth 100000 in
theorem ct_X12_readEncoded (l : Launch) (h : Hp) (hI : Inv h)  : Ct l D_X12_readEncoded 3 69 [.inr (.inr 60)] h (Q_X12_readEncoded h) := by
  refine ct_of pn_X12_readEncoded (Nat.le_of_ble_eq_true rfl) ?_
  show To l E_X12_readEncoded (0, [(0, .inr (.inr 60))], [], h, 0, 0) _
  obtain ⟨x1, ex1⟩ : ∃ y : Int, h.2.2 60 25 = y := ⟨_, rfl⟩
  have rx1 := hI.atR (a := 60) (j := 25) rfl
  rw [ex1] at rx1
  obtain ⟨x2, ex2⟩ : ∃ y : Int, h.2.2 60 23 = y := ⟨_, rfl⟩
  have rx2 := hI.atR (a := 60) (j := 23) rfl
  rw [ex2] at rx2
  refine to_aload_n (dat dk_X12_readEncoded 0 rfl) rfl (to_iconst (dat dk_X12_readEncoded 1 rfl) (to_putIw p_c13_165 (dat dk_X12_readEncoded 2 rfl) (hI.atS rfl) ?_))
  intro h5 wh5
  have I3 : Inv h5 := by rw [wh5]; exact hI.put (a := 60) (j := 25) (x := 0) (0) (4000) rfl rfl (show (0 : Int) ≤ 0 ∧ 0 ≤ 4000 by decide)
  have f4 : Fr [76, 225] h h5 := by rw [wh5]; exact Fr.putF (a := 60) (j := 25) (x := 0) (Fr.rf _ _) rfl
  refine to_iconst (dat dk_X12_readEncoded 3 rfl) (to_istore_n (L' := [(0, .inr (.inr 60)), (1, .inl 0)]) (dat dk_X12_readEncoded 4 rfl) (by decide) rfl (to_iconst (dat dk_X12_readEncoded 5 rfl) (to_istore_n (L' := [(0, .inr (.inr 60)), (1, .inl 0), (2, .inl 0)]) (dat dk_X12_readEncoded 6 rfl) (by decide) rfl ?_)))
  have e9 : h5.2.2 60 23 = x2 := (by rw [wh5]; exact ex2)
  have e11 : h5.2.2 60 25 = (0 : Int) := (by rw [wh5]; exact wr_eq)
  have lp9_n13 : ∀ (n13 : Nat) (y6 : Int) (y7 : Int) (h8 : Hp), (I32 y6) → (y7 = 0 ∨ y7 = 1) → (Inv h8) → (Fr [76, 225] h h8) → (0 ≤ y6 ∧ y6 ≤ h8.2.2 60 23) → (h8.2.2 60 25 ≤ y6) → (h8.2.2 60 23 - y6 ≤ (n13 : Int)) → To l E_X12_readEncoded (9, [(0, .inr (.inr 60)), (1, .inl y6), (2, .inl y7)], [], h8, 0, 0) (Q_X12_readEncoded h) := by
    intro n13
    induction n13 using Nat.strongRecOn with
    | _ n13 ihn13 =>
    intro y6 y7 h8 ry6 ry7 Ih8 fh8 c10 c12 c14
    have e15 : h8.2.2 60 23 = x2 := ((Fr.get fh8 (by have := hI.1.1; omega) rfl).trans ex2)
    obtain ⟨x16, ex16⟩ : ∃ y : Int, h8.2.2 60 25 = y := ⟨_, rfl⟩
    have rx16 := Ih8.atR (a := 60) (j := 25) rfl
    rw [ex16] at rx16
    refine to_iload_n (dat dk_X12_readEncoded 7 rfl) rfl (to_aload_n (dat dk_X12_readEncoded 8 rfl) rfl (to_getIv (y := x2) e15 g_c13_171 (dat dk_X12_readEncoded 9 rfl) (Ih8.atS rfl) ?_))
    refine to_ige 164 (dat dk_X12_readEncoded 10 rfl) rfl ry6 (by omega) (fun c17 => ?_) (fun c17 => ?_)
    · skip
      exact to_vret rfl (dat dk_X12_readEncoded 92 rfl) (rv_mk ⟨Ih8, fh8, (show h8.2.2 60 25 ≤ h8.2.2 60 23 by omega)⟩)
    · skip
      refine to_iload_n (dat dk_X12_readEncoded 11 rfl) rfl (to_istore_n (L' := [(0, .inr (.inr 60)), (1, .inl y6), (2, .inl y7), (3, .inl y6)]) (dat dk_X12_readEncoded 12 rfl) (by decide) rfl ?_)
      have lp19_n20 : ∀ (n20 : Nat) (y18 : Int), (I32 y18) → (y6 ≤ y18 ∧ y18 ≤ h8.2.2 60 23) → (h8.2.2 60 23 - y18 ≤ (n20 : Int)) → To l E_X12_readEncoded (19, [(0, .inr (.inr 60)), (1, .inl y6), (2, .inl y7), (3, .inl y18)], [], h8, 0, 0) (Q_X12_readEncoded h) := by
        intro n20
        induction n20 using Nat.strongRecOn with
        | _ n20 ihn20 =>
        intro y18 ry18 c19 c21
        refine to_iload_n (dat dk_X12_readEncoded 13 rfl) rfl ?_
        refine to_ifeq 49 (dat dk_X12_readEncoded 14 rfl) rfl (by omega) (fun c22 => ?_) (fun c22 => ?_)
        · skip
          refine to_aload_n (dat dk_X12_readEncoded 27 rfl) rfl (to_iload_n (dat dk_X12_readEncoded 28 rfl) rfl ?_)
          refine to_cI ca_c13_228 (dat dk_X12_readEncoded 29 rfl) (ct_X12_encodedEnd l h8 Ih8 y18 ry18 (show 0 ≤ y18 ∧ y18 ≤ h8.2.2 60 23 by omega)) rfl ⟨_, _, rfl, (Ih8.atS rfl)⟩ rfl (fun x23 h24 rx23 p25 => ?_)
          obtain ⟨rfl, p25_0, p25_1⟩ := p25
          obtain ⟨q26, p25_1⟩ := p25_1
          refine to_istore (L' := [(0, .inr (.inr 60)), (1, .inl y6), (2, .inl y7), (3, .inl y18), (4, .inl x23)]) (dat dk_X12_readEncoded 30 rfl) (by decide) rfl (to_iload (dat dk_X12_readEncoded 31 rfl) rfl (to_iconst (dat dk_X12_readEncoded 32 rfl) ?_))
          refine to_ine 80 (dat dk_X12_readEncoded 33 rfl) rfl rx23 (by decide) (fun c27 => ?_) (fun c27 => ?_)
          · skip
            refine to_iload_n (dat dk_X12_readEncoded 44 rfl) rfl (to_iconst (dat dk_X12_readEncoded 45 rfl) (to_iadd (dat dk_X12_readEncoded 46 rfl) (to_istore (L' := [(0, .inr (.inr 60)), (1, .inl y6), (2, .inl y7), (3, .inl y18), (4, .inl x23), (5, .inl (y18 + 2))]) (dat dk_X12_readEncoded 47 rfl) (by decide) rfl ?_)))
            have lp85_n30 : ∀ (n30 : Nat) (y28 : Int), (I32 y28) → (y18 + 2 ≤ y28 ∧ y28 ≤ (q26 : Int)) → (1300 - y28 ≤ (n30 : Int)) → To l E_X12_readEncoded (85, [(0, .inr (.inr 60)), (1, .inl y6), (2, .inl y7), (3, .inl y18), (4, .inl x23), (5, .inl y28)], [], h8, 0, 0) (Q_X12_readEncoded h) := by
              intro n30
              induction n30 using Nat.strongRecOn with
              | _ n30 ihn30 =>
              intro y28 ry28 c29 c31
              refine to_aload_n (dat dk_X12_readEncoded 48 rfl) rfl (to_getR 75 g_c13_60 (dat dk_X12_readEncoded 49 rfl) (Ih8.atS rfl) (Ih8.atE rfl) (to_iload (dat dk_X12_readEncoded 50 rfl) rfl ?_))
              obtain ⟨x32, ex32⟩ : ∃ y : Int, h8.2.2 75 (Int.toNat y28) = y := ⟨_, rfl⟩
              have rx32 := Ih8.atR (a := 75) (j := Int.toNat y28) rfl
              rw [ex32] at rx32
              refine to_baldv (q := 1) ex32 (dat dk_X12_readEncoded 51 rfl) (by decide) (Ih8.atS rfl) rfl (by decide) (by omega) (to_bipush (dat dk_X12_readEncoded 52 rfl) (by decide) ?_)
              refine to_ieq 103 (dat dk_X12_readEncoded 53 rfl) rfl (by omega) (by decide) (fun c33 => ?_) (fun c33 => ?_)
              · skip
                refine to_aload_n (dat dk_X12_readEncoded 56 rfl) rfl (to_getR 75 g_c13_60 (dat dk_X12_readEncoded 57 rfl) (Ih8.atS rfl) (Ih8.atE rfl) (to_iload (dat dk_X12_readEncoded 58 rfl) rfl (to_iconst (dat dk_X12_readEncoded 59 rfl) (to_iadd (dat dk_X12_readEncoded 60 rfl) ?_))))
                obtain ⟨x34, ex34⟩ : ∃ y : Int, h8.2.2 75 (Int.toNat (y28 + 1)) = y := ⟨_, rfl⟩
                have rx34 := Ih8.atR (a := 75) (j := Int.toNat (y28 + 1)) rfl
                rw [ex34] at rx34
                refine to_baldv (q := 1) ex34 (dat dk_X12_readEncoded 61 rfl) (by decide) (Ih8.atS rfl) rfl (by decide) (by omega) ?_
                refine to_cI ca_c13_157 (dat dk_X12_readEncoded 62 rfl) (ct_X12_small l h8 Ih8 x34 (by omega)) rfl trivial rfl (fun x35 h36 rx35 p37 => ?_)
                subst p37
                refine to_bipush (dat dk_X12_readEncoded 63 rfl) (by decide) ?_
                refine to_ine 139 (dat dk_X12_readEncoded 64 rfl) rfl rx35 (by decide) (fun c38 => ?_) (fun c38 => ?_)
                · skip
                  refine to_aload_n (dat dk_X12_readEncoded 76 rfl) rfl (to_aload_n (dat dk_X12_readEncoded 77 rfl) rfl (to_getR 75 g_c13_60 (dat dk_X12_readEncoded 78 rfl) (Ih8.atS rfl) (Ih8.atE rfl) (to_iload (dat dk_X12_readEncoded 79 rfl) rfl (to_iconst (dat dk_X12_readEncoded 80 rfl) (to_iadd (dat dk_X12_readEncoded 81 rfl) (to_iload (dat dk_X12_readEncoded 82 rfl) rfl (to_iconst (dat dk_X12_readEncoded 83 rfl) (to_isub (dat dk_X12_readEncoded 84 rfl) (to_iconst (dat dk_X12_readEncoded 85 rfl) ?_)))))))))
                  refine to_cV ca_c13_218 (dat dk_X12_readEncoded 86 rfl) (ct_X12_digits l h8 Ih8 75 1300 rfl (y28 + 3) (by omega) (x23 - 2) (by omega) 1 (by decide) (show 0 ≤ (y28 + 3) by omega) (show (x23 - 2) ≤ (1300 : Int) by omega) (show h8.2.2 60 25 + ((x23 - 2) - (y28 + 3)) ≤ 4000 by omega)) rfl ⟨_, _, rfl, (Ih8.atS rfl)⟩ rfl (fun h40 p41 => ?_)
                  obtain ⟨Ih40, fh40, p41_0, p41_1⟩ := p41
                  have f42 : Fr [76, 225] h h40 := Fr.sub fh8 fh40 (sub_self _)
                  obtain ⟨x43, ex43⟩ : ∃ y : Int, h40.2.2 60 25 = y := ⟨_, rfl⟩
                  have rx43 := Ih40.atR (a := 60) (j := 25) rfl
                  rw [ex43] at rx43
                  refine to_iconst (dat dk_X12_readEncoded 87 rfl) (to_istore_n (L' := [(0, .inr (.inr 60)), (1, .inl y6), (2, .inl 1), (3, .inl y18), (4, .inl x23), (5, .inl y28)]) (dat dk_X12_readEncoded 88 rfl) (by decide) rfl (to_iload (dat dk_X12_readEncoded 89 rfl) rfl (to_istore_n (L' := [(0, .inr (.inr 60)), (1, .inl x23), (2, .inl 1), (3, .inl y18), (4, .inl x23), (5, .inl y28)]) (dat dk_X12_readEncoded 90 rfl) (by decide) rfl (to_goto (dat dk_X12_readEncoded 91 rfl) rfl ?_))))
                  refine to_pick [0, 1, 2] rfl ?_
                  have e44 : h40.2.2 60 23 = x2 := ((Fr.get fh40 (by have := Ih8.1.1; omega) rfl).trans e15)
                  exact ihn13 (n13 - 1) (by omega) x23 1 h40 rx23 (by decide) Ih40 f42 (show 0 ≤ x23 ∧ x23 ≤ h40.2.2 60 23 by omega) (show h40.2.2 60 25 ≤ x23 by omega) (show h40.2.2 60 23 - x23 ≤ ((n13 - 1 : Nat) : Int) by omega)
                · skip
                  refine to_aload_n (dat dk_X12_readEncoded 65 rfl) rfl (to_aload_n (dat dk_X12_readEncoded 66 rfl) rfl (to_getR 75 g_c13_60 (dat dk_X12_readEncoded 67 rfl) (Ih8.atS rfl) (Ih8.atE rfl) (to_iload (dat dk_X12_readEncoded 68 rfl) rfl (to_iconst (dat dk_X12_readEncoded 69 rfl) (to_iadd (dat dk_X12_readEncoded 70 rfl) (to_iload (dat dk_X12_readEncoded 71 rfl) rfl (to_iconst (dat dk_X12_readEncoded 72 rfl) (to_isub (dat dk_X12_readEncoded 73 rfl) ?_))))))))
                  refine to_cV ca_c13_231 (dat dk_X12_readEncoded 74 rfl) (ct_X12_base l h8 Ih8 75 1300 rfl (y28 + 3) (by omega) (x23 - 2) (by omega) (show 0 ≤ (y28 + 3) by omega) (show (x23 - 2) ≤ (1300 : Int) by omega) (show h8.2.2 60 25 + ((x23 - 2) - (y28 + 3)) ≤ 4000 by omega)) rfl ⟨_, _, rfl, (Ih8.atS rfl)⟩ rfl (fun h46 p47 => ?_)
                  obtain ⟨Ih46, fh46, p47_0, p47_1⟩ := p47
                  have f48 : Fr [76, 225] h h46 := Fr.sub fh8 fh46 (sub_self _)
                  obtain ⟨x49, ex49⟩ : ∃ y : Int, h46.2.2 60 25 = y := ⟨_, rfl⟩
                  have rx49 := Ih46.atR (a := 60) (j := 25) rfl
                  rw [ex49] at rx49
                  refine to_goto (dat dk_X12_readEncoded 75 rfl) rfl (to_iconst (dat dk_X12_readEncoded 87 rfl) (to_istore_n (L' := [(0, .inr (.inr 60)), (1, .inl y6), (2, .inl 1), (3, .inl y18), (4, .inl x23), (5, .inl y28)]) (dat dk_X12_readEncoded 88 rfl) (by decide) rfl (to_iload (dat dk_X12_readEncoded 89 rfl) rfl (to_istore_n (L' := [(0, .inr (.inr 60)), (1, .inl x23), (2, .inl 1), (3, .inl y18), (4, .inl x23), (5, .inl y28)]) (dat dk_X12_readEncoded 90 rfl) (by decide) rfl (to_goto (dat dk_X12_readEncoded 91 rfl) rfl ?_)))))
                  refine to_pick [0, 1, 2] rfl ?_
                  have e50 : h46.2.2 60 23 = x2 := ((Fr.get fh46 (by have := Ih8.1.1; omega) rfl).trans e15)
                  exact ihn13 (n13 - 1) (by omega) x23 1 h46 rx23 (by decide) Ih46 f48 (show 0 ≤ x23 ∧ x23 ≤ h46.2.2 60 23 by omega) (show h46.2.2 60 25 ≤ x23 by omega) (show h46.2.2 60 23 - x23 ≤ ((n13 - 1 : Nat) : Int) by omega)
              · skip
                refine to_iinc (L' := [(0, .inr (.inr 60)), (1, .inl y6), (2, .inl y7), (3, .inl y18), (4, .inl x23), (5, .inl (y28 + 1))]) (dat dk_X12_readEncoded 54 rfl) rfl (by decide) rfl (to_goto (dat dk_X12_readEncoded 55 rfl) rfl ?_)
                exact ihn30 (n30 - 1) (by omega) (y28 + 1) (by omega) ⟨by omega, by have hz : Int.toNat y28 ≠ q26 := fun e => (by rw [e] at ex32; omega); omega⟩ (show 1300 - (y28 + 1) ≤ ((n30 - 1 : Nat) : Int) by omega)
            exact lp85_n30 (1300 - (y18 + 2)).toNat (y18 + 2) (by omega) ⟨by omega, by omega⟩ (by omega)
          · skip
            refine to_aload_n (dat dk_X12_readEncoded 34 rfl) rfl (to_aload_n (dat dk_X12_readEncoded 35 rfl) rfl (to_getR 75 g_c13_60 (dat dk_X12_readEncoded 36 rfl) (Ih8.atS rfl) (Ih8.atE rfl) (to_iload_n (dat dk_X12_readEncoded 37 rfl) rfl ?_)))
            obtain ⟨x51, ex51⟩ : ∃ y : Int, h8.2.2 75 (Int.toNat y6) = y := ⟨_, rfl⟩
            have rx51 := Ih8.atR (a := 75) (j := Int.toNat y6) rfl
            rw [ex51] at rx51
            refine to_baldv (q := 1) ex51 (dat dk_X12_readEncoded 38 rfl) (by decide) (Ih8.atS rfl) rfl (by decide) (by omega) ?_
            refine to_cV ca_c13_211 (dat dk_X12_readEncoded 39 rfl) (ct_X12_put l h8 Ih8 x51 (by omega) (show h8.2.2 60 25 ≤ 3999 by omega)) rfl ⟨_, _, rfl, (Ih8.atS rfl)⟩ rfl (fun h53 p54 => ?_)
            obtain ⟨Ih53, fh53, p54_0⟩ := p54
            have f55 : Fr [76, 225] h h53 := Fr.sub fh8 fh53 (sub_self _)
            obtain ⟨x56, ex56⟩ : ∃ y : Int, h53.2.2 60 25 = y := ⟨_, rfl⟩
            have rx56 := Ih53.atR (a := 60) (j := 25) rfl
            rw [ex56] at rx56
            refine to_iconst (dat dk_X12_readEncoded 40 rfl) (to_istore_n (L' := [(0, .inr (.inr 60)), (1, .inl y6), (2, .inl 0), (3, .inl y18), (4, .inl x23)]) (dat dk_X12_readEncoded 41 rfl) (by decide) rfl (to_iinc (L' := [(0, .inr (.inr 60)), (1, .inl (y6 + 1)), (2, .inl 0), (3, .inl y18), (4, .inl x23)]) (dat dk_X12_readEncoded 42 rfl) rfl (by decide) rfl (to_goto (dat dk_X12_readEncoded 43 rfl) rfl ?_)))
            refine to_pick [0, 1, 2] rfl ?_
            have e57 : h53.2.2 60 23 = x2 := ((Fr.get fh53 (by have := Ih8.1.1; omega) rfl).trans e15)
            exact ihn13 (n13 - 1) (by omega) (y6 + 1) 0 h53 (by omega) (by decide) Ih53 f55 (show 0 ≤ (y6 + 1) ∧ (y6 + 1) ≤ h53.2.2 60 23 by omega) (show h53.2.2 60 25 ≤ (y6 + 1) by omega) (show h53.2.2 60 23 - (y6 + 1) ≤ ((n13 - 1 : Nat) : Int) by omega)
        · skip
          refine to_iload_n (dat dk_X12_readEncoded 15 rfl) rfl (to_aload_n (dat dk_X12_readEncoded 16 rfl) rfl (to_getIv (y := x2) e15 g_c13_171 (dat dk_X12_readEncoded 17 rfl) (Ih8.atS rfl) ?_))
          refine to_ige 49 (dat dk_X12_readEncoded 18 rfl) rfl ry18 (by omega) (fun c58 => ?_) (fun c58 => ?_)
          · skip
            refine to_aload_n (dat dk_X12_readEncoded 27 rfl) rfl (to_iload_n (dat dk_X12_readEncoded 28 rfl) rfl ?_)
            refine to_cI ca_c13_228 (dat dk_X12_readEncoded 29 rfl) (ct_X12_encodedEnd l h8 Ih8 y18 ry18 (show 0 ≤ y18 ∧ y18 ≤ h8.2.2 60 23 by omega)) rfl ⟨_, _, rfl, (Ih8.atS rfl)⟩ rfl (fun x59 h60 rx59 p61 => ?_)
            obtain ⟨rfl, p61_0, p61_1⟩ := p61
            obtain ⟨q62, p61_1⟩ := p61_1
            refine to_istore (L' := [(0, .inr (.inr 60)), (1, .inl y6), (2, .inl y7), (3, .inl y18), (4, .inl x59)]) (dat dk_X12_readEncoded 30 rfl) (by decide) rfl (to_iload (dat dk_X12_readEncoded 31 rfl) rfl (to_iconst (dat dk_X12_readEncoded 32 rfl) ?_))
            refine to_ine 80 (dat dk_X12_readEncoded 33 rfl) rfl rx59 (by decide) (fun c63 => ?_) (fun c63 => ?_)
            · skip
              refine to_iload_n (dat dk_X12_readEncoded 44 rfl) rfl (to_iconst (dat dk_X12_readEncoded 45 rfl) (to_iadd (dat dk_X12_readEncoded 46 rfl) (to_istore (L' := [(0, .inr (.inr 60)), (1, .inl y6), (2, .inl y7), (3, .inl y18), (4, .inl x59), (5, .inl (y18 + 2))]) (dat dk_X12_readEncoded 47 rfl) (by decide) rfl ?_)))
              have lp85_n66 : ∀ (n66 : Nat) (y64 : Int), (I32 y64) → (y18 + 2 ≤ y64 ∧ y64 ≤ (q62 : Int)) → (1300 - y64 ≤ (n66 : Int)) → To l E_X12_readEncoded (85, [(0, .inr (.inr 60)), (1, .inl y6), (2, .inl y7), (3, .inl y18), (4, .inl x59), (5, .inl y64)], [], h8, 0, 0) (Q_X12_readEncoded h) := by
                intro n66
                induction n66 using Nat.strongRecOn with
                | _ n66 ihn66 =>
                intro y64 ry64 c65 c67
                refine to_aload_n (dat dk_X12_readEncoded 48 rfl) rfl (to_getR 75 g_c13_60 (dat dk_X12_readEncoded 49 rfl) (Ih8.atS rfl) (Ih8.atE rfl) (to_iload (dat dk_X12_readEncoded 50 rfl) rfl ?_))
                obtain ⟨x68, ex68⟩ : ∃ y : Int, h8.2.2 75 (Int.toNat y64) = y := ⟨_, rfl⟩
                have rx68 := Ih8.atR (a := 75) (j := Int.toNat y64) rfl
                rw [ex68] at rx68
                refine to_baldv (q := 1) ex68 (dat dk_X12_readEncoded 51 rfl) (by decide) (Ih8.atS rfl) rfl (by decide) (by omega) (to_bipush (dat dk_X12_readEncoded 52 rfl) (by decide) ?_)
                refine to_ieq 103 (dat dk_X12_readEncoded 53 rfl) rfl (by omega) (by decide) (fun c69 => ?_) (fun c69 => ?_)
                · skip
                  refine to_aload_n (dat dk_X12_readEncoded 56 rfl) rfl (to_getR 75 g_c13_60 (dat dk_X12_readEncoded 57 rfl) (Ih8.atS rfl) (Ih8.atE rfl) (to_iload (dat dk_X12_readEncoded 58 rfl) rfl (to_iconst (dat dk_X12_readEncoded 59 rfl) (to_iadd (dat dk_X12_readEncoded 60 rfl) ?_))))
                  obtain ⟨x70, ex70⟩ : ∃ y : Int, h8.2.2 75 (Int.toNat (y64 + 1)) = y := ⟨_, rfl⟩
                  have rx70 := Ih8.atR (a := 75) (j := Int.toNat (y64 + 1)) rfl
                  rw [ex70] at rx70
                  refine to_baldv (q := 1) ex70 (dat dk_X12_readEncoded 61 rfl) (by decide) (Ih8.atS rfl) rfl (by decide) (by omega) ?_
                  refine to_cI ca_c13_157 (dat dk_X12_readEncoded 62 rfl) (ct_X12_small l h8 Ih8 x70 (by omega)) rfl trivial rfl (fun x71 h72 rx71 p73 => ?_)
                  subst p73
                  refine to_bipush (dat dk_X12_readEncoded 63 rfl) (by decide) ?_
                  refine to_ine 139 (dat dk_X12_readEncoded 64 rfl) rfl rx71 (by decide) (fun c74 => ?_) (fun c74 => ?_)
                  · skip
                    refine to_aload_n (dat dk_X12_readEncoded 76 rfl) rfl (to_aload_n (dat dk_X12_readEncoded 77 rfl) rfl (to_getR 75 g_c13_60 (dat dk_X12_readEncoded 78 rfl) (Ih8.atS rfl) (Ih8.atE rfl) (to_iload (dat dk_X12_readEncoded 79 rfl) rfl (to_iconst (dat dk_X12_readEncoded 80 rfl) (to_iadd (dat dk_X12_readEncoded 81 rfl) (to_iload (dat dk_X12_readEncoded 82 rfl) rfl (to_iconst (dat dk_X12_readEncoded 83 rfl) (to_isub (dat dk_X12_readEncoded 84 rfl) (to_iconst (dat dk_X12_readEncoded 85 rfl) ?_)))))))))
                    refine to_cV ca_c13_218 (dat dk_X12_readEncoded 86 rfl) (ct_X12_digits l h8 Ih8 75 1300 rfl (y64 + 3) (by omega) (x59 - 2) (by omega) 1 (by decide) (show 0 ≤ (y64 + 3) by omega) (show (x59 - 2) ≤ (1300 : Int) by omega) (show h8.2.2 60 25 + ((x59 - 2) - (y64 + 3)) ≤ 4000 by omega)) rfl ⟨_, _, rfl, (Ih8.atS rfl)⟩ rfl (fun h76 p77 => ?_)
                    obtain ⟨Ih76, fh76, p77_0, p77_1⟩ := p77
                    have f78 : Fr [76, 225] h h76 := Fr.sub fh8 fh76 (sub_self _)
                    obtain ⟨x79, ex79⟩ : ∃ y : Int, h76.2.2 60 25 = y := ⟨_, rfl⟩
                    have rx79 := Ih76.atR (a := 60) (j := 25) rfl
                    rw [ex79] at rx79
                    refine to_iconst (dat dk_X12_readEncoded 87 rfl) (to_istore_n (L' := [(0, .inr (.inr 60)), (1, .inl y6), (2, .inl 1), (3, .inl y18), (4, .inl x59), (5, .inl y64)]) (dat dk_X12_readEncoded 88 rfl) (by decide) rfl (to_iload (dat dk_X12_readEncoded 89 rfl) rfl (to_istore_n (L' := [(0, .inr (.inr 60)), (1, .inl x59), (2, .inl 1), (3, .inl y18), (4, .inl x59), (5, .inl y64)]) (dat dk_X12_readEncoded 90 rfl) (by decide) rfl (to_goto (dat dk_X12_readEncoded 91 rfl) rfl ?_))))
                    refine to_pick [0, 1, 2] rfl ?_
                    have e80 : h76.2.2 60 23 = x2 := ((Fr.get fh76 (by have := Ih8.1.1; omega) rfl).trans e15)
                    exact ihn13 (n13 - 1) (by omega) x59 1 h76 rx59 (by decide) Ih76 f78 (show 0 ≤ x59 ∧ x59 ≤ h76.2.2 60 23 by omega) (show h76.2.2 60 25 ≤ x59 by omega) (show h76.2.2 60 23 - x59 ≤ ((n13 - 1 : Nat) : Int) by omega)
                  · skip
                    refine to_aload_n (dat dk_X12_readEncoded 65 rfl) rfl (to_aload_n (dat dk_X12_readEncoded 66 rfl) rfl (to_getR 75 g_c13_60 (dat dk_X12_readEncoded 67 rfl) (Ih8.atS rfl) (Ih8.atE rfl) (to_iload (dat dk_X12_readEncoded 68 rfl) rfl (to_iconst (dat dk_X12_readEncoded 69 rfl) (to_iadd (dat dk_X12_readEncoded 70 rfl) (to_iload (dat dk_X12_readEncoded 71 rfl) rfl (to_iconst (dat dk_X12_readEncoded 72 rfl) (to_isub (dat dk_X12_readEncoded 73 rfl) ?_))))))))
                    refine to_cV ca_c13_231 (dat dk_X12_readEncoded 74 rfl) (ct_X12_base l h8 Ih8 75 1300 rfl (y64 + 3) (by omega) (x59 - 2) (by omega) (show 0 ≤ (y64 + 3) by omega) (show (x59 - 2) ≤ (1300 : Int) by omega) (show h8.2.2 60 25 + ((x59 - 2) - (y64 + 3)) ≤ 4000 by omega)) rfl ⟨_, _, rfl, (Ih8.atS rfl)⟩ rfl (fun h82 p83 => ?_)
                    obtain ⟨Ih82, fh82, p83_0, p83_1⟩ := p83
                    have f84 : Fr [76, 225] h h82 := Fr.sub fh8 fh82 (sub_self _)
                    obtain ⟨x85, ex85⟩ : ∃ y : Int, h82.2.2 60 25 = y := ⟨_, rfl⟩
                    have rx85 := Ih82.atR (a := 60) (j := 25) rfl
                    rw [ex85] at rx85
                    refine to_goto (dat dk_X12_readEncoded 75 rfl) rfl (to_iconst (dat dk_X12_readEncoded 87 rfl) (to_istore_n (L' := [(0, .inr (.inr 60)), (1, .inl y6), (2, .inl 1), (3, .inl y18), (4, .inl x59), (5, .inl y64)]) (dat dk_X12_readEncoded 88 rfl) (by decide) rfl (to_iload (dat dk_X12_readEncoded 89 rfl) rfl (to_istore_n (L' := [(0, .inr (.inr 60)), (1, .inl x59), (2, .inl 1), (3, .inl y18), (4, .inl x59), (5, .inl y64)]) (dat dk_X12_readEncoded 90 rfl) (by decide) rfl (to_goto (dat dk_X12_readEncoded 91 rfl) rfl ?_)))))
                    refine to_pick [0, 1, 2] rfl ?_
                    have e86 : h82.2.2 60 23 = x2 := ((Fr.get fh82 (by have := Ih8.1.1; omega) rfl).trans e15)
                    exact ihn13 (n13 - 1) (by omega) x59 1 h82 rx59 (by decide) Ih82 f84 (show 0 ≤ x59 ∧ x59 ≤ h82.2.2 60 23 by omega) (show h82.2.2 60 25 ≤ x59 by omega) (show h82.2.2 60 23 - x59 ≤ ((n13 - 1 : Nat) : Int) by omega)
                · skip
                  refine to_iinc (L' := [(0, .inr (.inr 60)), (1, .inl y6), (2, .inl y7), (3, .inl y18), (4, .inl x59), (5, .inl (y64 + 1))]) (dat dk_X12_readEncoded 54 rfl) rfl (by decide) rfl (to_goto (dat dk_X12_readEncoded 55 rfl) rfl ?_)
                  exact ihn66 (n66 - 1) (by omega) (y64 + 1) (by omega) ⟨by omega, by have hz : Int.toNat y64 ≠ q62 := fun e => (by rw [e] at ex68; omega); omega⟩ (show 1300 - (y64 + 1) ≤ ((n66 - 1 : Nat) : Int) by omega)
              exact lp85_n66 (1300 - (y18 + 2)).toNat (y18 + 2) (by omega) ⟨by omega, by omega⟩ (by omega)
            · skip
              refine to_aload_n (dat dk_X12_readEncoded 34 rfl) rfl (to_aload_n (dat dk_X12_readEncoded 35 rfl) rfl (to_getR 75 g_c13_60 (dat dk_X12_readEncoded 36 rfl) (Ih8.atS rfl) (Ih8.atE rfl) (to_iload_n (dat dk_X12_readEncoded 37 rfl) rfl ?_)))
              obtain ⟨x87, ex87⟩ : ∃ y : Int, h8.2.2 75 (Int.toNat y6) = y := ⟨_, rfl⟩
              have rx87 := Ih8.atR (a := 75) (j := Int.toNat y6) rfl
              rw [ex87] at rx87
              refine to_baldv (q := 1) ex87 (dat dk_X12_readEncoded 38 rfl) (by decide) (Ih8.atS rfl) rfl (by decide) (by omega) ?_
              refine to_cV ca_c13_211 (dat dk_X12_readEncoded 39 rfl) (ct_X12_put l h8 Ih8 x87 (by omega) (show h8.2.2 60 25 ≤ 3999 by omega)) rfl ⟨_, _, rfl, (Ih8.atS rfl)⟩ rfl (fun h89 p90 => ?_)
              obtain ⟨Ih89, fh89, p90_0⟩ := p90
              have f91 : Fr [76, 225] h h89 := Fr.sub fh8 fh89 (sub_self _)
              obtain ⟨x92, ex92⟩ : ∃ y : Int, h89.2.2 60 25 = y := ⟨_, rfl⟩
              have rx92 := Ih89.atR (a := 60) (j := 25) rfl
              rw [ex92] at rx92
              refine to_iconst (dat dk_X12_readEncoded 40 rfl) (to_istore_n (L' := [(0, .inr (.inr 60)), (1, .inl y6), (2, .inl 0), (3, .inl y18), (4, .inl x59)]) (dat dk_X12_readEncoded 41 rfl) (by decide) rfl (to_iinc (L' := [(0, .inr (.inr 60)), (1, .inl (y6 + 1)), (2, .inl 0), (3, .inl y18), (4, .inl x59)]) (dat dk_X12_readEncoded 42 rfl) rfl (by decide) rfl (to_goto (dat dk_X12_readEncoded 43 rfl) rfl ?_)))
              refine to_pick [0, 1, 2] rfl ?_
              have e93 : h89.2.2 60 23 = x2 := ((Fr.get fh89 (by have := Ih8.1.1; omega) rfl).trans e15)
              exact ihn13 (n13 - 1) (by omega) (y6 + 1) 0 h89 (by omega) (by decide) Ih89 f91 (show 0 ≤ (y6 + 1) ∧ (y6 + 1) ≤ h89.2.2 60 23 by omega) (show h89.2.2 60 25 ≤ (y6 + 1) by omega) (show h89.2.2 60 23 - (y6 + 1) ≤ ((n13 - 1 : Nat) : Int) by omega)
          · skip
            refine to_aload_n (dat dk_X12_readEncoded 19 rfl) rfl (to_getR 75 g_c13_60 (dat dk_X12_readEncoded 20 rfl) (Ih8.atS rfl) (Ih8.atE rfl) (to_iload_n (dat dk_X12_readEncoded 21 rfl) rfl ?_))
            obtain ⟨x94, ex94⟩ : ∃ y : Int, h8.2.2 75 (Int.toNat y18) = y := ⟨_, rfl⟩
            have rx94 := Ih8.atR (a := 75) (j := Int.toNat y18) rfl
            rw [ex94] at rx94
            refine to_baldv (q := 1) ex94 (dat dk_X12_readEncoded 22 rfl) (by decide) (Ih8.atS rfl) rfl (by decide) (by omega) ?_
            refine to_cI ca_c13_182 (dat dk_X12_readEncoded 23 rfl) (ct_X12_isBlank l h8 Ih8 x94 (by omega)) rfl trivial rfl (fun x95 h96 rx95 p97 => ?_)
            obtain ⟨rfl, zx95⟩ := p97
            refine to_ifeq 49 (dat dk_X12_readEncoded 24 rfl) rfl rx95 (fun c98 => ?_) (fun c98 => ?_)
            · skip
              refine to_aload_n (dat dk_X12_readEncoded 27 rfl) rfl (to_iload_n (dat dk_X12_readEncoded 28 rfl) rfl ?_)
              refine to_cI ca_c13_228 (dat dk_X12_readEncoded 29 rfl) (ct_X12_encodedEnd l h8 Ih8 y18 ry18 (show 0 ≤ y18 ∧ y18 ≤ h8.2.2 60 23 by omega)) rfl ⟨_, _, rfl, (Ih8.atS rfl)⟩ rfl (fun x99 h100 rx99 p101 => ?_)
              obtain ⟨rfl, p101_0, p101_1⟩ := p101
              obtain ⟨q102, p101_1⟩ := p101_1
              refine to_istore (L' := [(0, .inr (.inr 60)), (1, .inl y6), (2, .inl y7), (3, .inl y18), (4, .inl x99)]) (dat dk_X12_readEncoded 30 rfl) (by decide) rfl (to_iload (dat dk_X12_readEncoded 31 rfl) rfl (to_iconst (dat dk_X12_readEncoded 32 rfl) ?_))
              refine to_ine 80 (dat dk_X12_readEncoded 33 rfl) rfl rx99 (by decide) (fun c103 => ?_) (fun c103 => ?_)
              · skip
                refine to_iload_n (dat dk_X12_readEncoded 44 rfl) rfl (to_iconst (dat dk_X12_readEncoded 45 rfl) (to_iadd (dat dk_X12_readEncoded 46 rfl) (to_istore (L' := [(0, .inr (.inr 60)), (1, .inl y6), (2, .inl y7), (3, .inl y18), (4, .inl x99), (5, .inl (y18 + 2))]) (dat dk_X12_readEncoded 47 rfl) (by decide) rfl ?_)))
                have lp85_n106 : ∀ (n106 : Nat) (y104 : Int), (I32 y104) → (y18 + 2 ≤ y104 ∧ y104 ≤ (q102 : Int)) → (1300 - y104 ≤ (n106 : Int)) → To l E_X12_readEncoded (85, [(0, .inr (.inr 60)), (1, .inl y6), (2, .inl y7), (3, .inl y18), (4, .inl x99), (5, .inl y104)], [], h8, 0, 0) (Q_X12_readEncoded h) := by
                  intro n106
                  induction n106 using Nat.strongRecOn with
                  | _ n106 ihn106 =>
                  intro y104 ry104 c105 c107
                  refine to_aload_n (dat dk_X12_readEncoded 48 rfl) rfl (to_getR 75 g_c13_60 (dat dk_X12_readEncoded 49 rfl) (Ih8.atS rfl) (Ih8.atE rfl) (to_iload (dat dk_X12_readEncoded 50 rfl) rfl ?_))
                  obtain ⟨x108, ex108⟩ : ∃ y : Int, h8.2.2 75 (Int.toNat y104) = y := ⟨_, rfl⟩
                  have rx108 := Ih8.atR (a := 75) (j := Int.toNat y104) rfl
                  rw [ex108] at rx108
                  refine to_baldv (q := 1) ex108 (dat dk_X12_readEncoded 51 rfl) (by decide) (Ih8.atS rfl) rfl (by decide) (by omega) (to_bipush (dat dk_X12_readEncoded 52 rfl) (by decide) ?_)
                  refine to_ieq 103 (dat dk_X12_readEncoded 53 rfl) rfl (by omega) (by decide) (fun c109 => ?_) (fun c109 => ?_)
                  · skip
                    refine to_aload_n (dat dk_X12_readEncoded 56 rfl) rfl (to_getR 75 g_c13_60 (dat dk_X12_readEncoded 57 rfl) (Ih8.atS rfl) (Ih8.atE rfl) (to_iload (dat dk_X12_readEncoded 58 rfl) rfl (to_iconst (dat dk_X12_readEncoded 59 rfl) (to_iadd (dat dk_X12_readEncoded 60 rfl) ?_))))
                    obtain ⟨x110, ex110⟩ : ∃ y : Int, h8.2.2 75 (Int.toNat (y104 + 1)) = y := ⟨_, rfl⟩
                    have rx110 := Ih8.atR (a := 75) (j := Int.toNat (y104 + 1)) rfl
                    rw [ex110] at rx110
                    refine to_baldv (q := 1) ex110 (dat dk_X12_readEncoded 61 rfl) (by decide) (Ih8.atS rfl) rfl (by decide) (by omega) ?_
                    refine to_cI ca_c13_157 (dat dk_X12_readEncoded 62 rfl) (ct_X12_small l h8 Ih8 x110 (by omega)) rfl trivial rfl (fun x111 h112 rx111 p113 => ?_)
                    subst p113
                    refine to_bipush (dat dk_X12_readEncoded 63 rfl) (by decide) ?_
                    refine to_ine 139 (dat dk_X12_readEncoded 64 rfl) rfl rx111 (by decide) (fun c114 => ?_) (fun c114 => ?_)
                    · skip
                      refine to_aload_n (dat dk_X12_readEncoded 76 rfl) rfl (to_aload_n (dat dk_X12_readEncoded 77 rfl) rfl (to_getR 75 g_c13_60 (dat dk_X12_readEncoded 78 rfl) (Ih8.atS rfl) (Ih8.atE rfl) (to_iload (dat dk_X12_readEncoded 79 rfl) rfl (to_iconst (dat dk_X12_readEncoded 80 rfl) (to_iadd (dat dk_X12_readEncoded 81 rfl) (to_iload (dat dk_X12_readEncoded 82 rfl) rfl (to_iconst (dat dk_X12_readEncoded 83 rfl) (to_isub (dat dk_X12_readEncoded 84 rfl) (to_iconst (dat dk_X12_readEncoded 85 rfl) ?_)))))))))
                      refine to_cV ca_c13_218 (dat dk_X12_readEncoded 86 rfl) (ct_X12_digits l h8 Ih8 75 1300 rfl (y104 + 3) (by omega) (x99 - 2) (by omega) 1 (by decide) (show 0 ≤ (y104 + 3) by omega) (show (x99 - 2) ≤ (1300 : Int) by omega) (show h8.2.2 60 25 + ((x99 - 2) - (y104 + 3)) ≤ 4000 by omega)) rfl ⟨_, _, rfl, (Ih8.atS rfl)⟩ rfl (fun h116 p117 => ?_)
                      obtain ⟨Ih116, fh116, p117_0, p117_1⟩ := p117
                      have f118 : Fr [76, 225] h h116 := Fr.sub fh8 fh116 (sub_self _)
                      obtain ⟨x119, ex119⟩ : ∃ y : Int, h116.2.2 60 25 = y := ⟨_, rfl⟩
                      have rx119 := Ih116.atR (a := 60) (j := 25) rfl
                      rw [ex119] at rx119
                      refine to_iconst (dat dk_X12_readEncoded 87 rfl) (to_istore_n (L' := [(0, .inr (.inr 60)), (1, .inl y6), (2, .inl 1), (3, .inl y18), (4, .inl x99), (5, .inl y104)]) (dat dk_X12_readEncoded 88 rfl) (by decide) rfl (to_iload (dat dk_X12_readEncoded 89 rfl) rfl (to_istore_n (L' := [(0, .inr (.inr 60)), (1, .inl x99), (2, .inl 1), (3, .inl y18), (4, .inl x99), (5, .inl y104)]) (dat dk_X12_readEncoded 90 rfl) (by decide) rfl (to_goto (dat dk_X12_readEncoded 91 rfl) rfl ?_))))
                      refine to_pick [0, 1, 2] rfl ?_
                      have e120 : h116.2.2 60 23 = x2 := ((Fr.get fh116 (by have := Ih8.1.1; omega) rfl).trans e15)
                      exact ihn13 (n13 - 1) (by omega) x99 1 h116 rx99 (by decide) Ih116 f118 (show 0 ≤ x99 ∧ x99 ≤ h116.2.2 60 23 by omega) (show h116.2.2 60 25 ≤ x99 by omega) (show h116.2.2 60 23 - x99 ≤ ((n13 - 1 : Nat) : Int) by omega)
                    · skip
                      refine to_aload_n (dat dk_X12_readEncoded 65 rfl) rfl (to_aload_n (dat dk_X12_readEncoded 66 rfl) rfl (to_getR 75 g_c13_60 (dat dk_X12_readEncoded 67 rfl) (Ih8.atS rfl) (Ih8.atE rfl) (to_iload (dat dk_X12_readEncoded 68 rfl) rfl (to_iconst (dat dk_X12_readEncoded 69 rfl) (to_iadd (dat dk_X12_readEncoded 70 rfl) (to_iload (dat dk_X12_readEncoded 71 rfl) rfl (to_iconst (dat dk_X12_readEncoded 72 rfl) (to_isub (dat dk_X12_readEncoded 73 rfl) ?_))))))))
                      refine to_cV ca_c13_231 (dat dk_X12_readEncoded 74 rfl) (ct_X12_base l h8 Ih8 75 1300 rfl (y104 + 3) (by omega) (x99 - 2) (by omega) (show 0 ≤ (y104 + 3) by omega) (show (x99 - 2) ≤ (1300 : Int) by omega) (show h8.2.2 60 25 + ((x99 - 2) - (y104 + 3)) ≤ 4000 by omega)) rfl ⟨_, _, rfl, (Ih8.atS rfl)⟩ rfl (fun h122 p123 => ?_)
                      obtain ⟨Ih122, fh122, p123_0, p123_1⟩ := p123
                      have f124 : Fr [76, 225] h h122 := Fr.sub fh8 fh122 (sub_self _)
                      obtain ⟨x125, ex125⟩ : ∃ y : Int, h122.2.2 60 25 = y := ⟨_, rfl⟩
                      have rx125 := Ih122.atR (a := 60) (j := 25) rfl
                      rw [ex125] at rx125
                      refine to_goto (dat dk_X12_readEncoded 75 rfl) rfl (to_iconst (dat dk_X12_readEncoded 87 rfl) (to_istore_n (L' := [(0, .inr (.inr 60)), (1, .inl y6), (2, .inl 1), (3, .inl y18), (4, .inl x99), (5, .inl y104)]) (dat dk_X12_readEncoded 88 rfl) (by decide) rfl (to_iload (dat dk_X12_readEncoded 89 rfl) rfl (to_istore_n (L' := [(0, .inr (.inr 60)), (1, .inl x99), (2, .inl 1), (3, .inl y18), (4, .inl x99), (5, .inl y104)]) (dat dk_X12_readEncoded 90 rfl) (by decide) rfl (to_goto (dat dk_X12_readEncoded 91 rfl) rfl ?_)))))
                      refine to_pick [0, 1, 2] rfl ?_
                      have e126 : h122.2.2 60 23 = x2 := ((Fr.get fh122 (by have := Ih8.1.1; omega) rfl).trans e15)
                      exact ihn13 (n13 - 1) (by omega) x99 1 h122 rx99 (by decide) Ih122 f124 (show 0 ≤ x99 ∧ x99 ≤ h122.2.2 60 23 by omega) (show h122.2.2 60 25 ≤ x99 by omega) (show h122.2.2 60 23 - x99 ≤ ((n13 - 1 : Nat) : Int) by omega)
                  · skip
                    refine to_iinc (L' := [(0, .inr (.inr 60)), (1, .inl y6), (2, .inl y7), (3, .inl y18), (4, .inl x99), (5, .inl (y104 + 1))]) (dat dk_X12_readEncoded 54 rfl) rfl (by decide) rfl (to_goto (dat dk_X12_readEncoded 55 rfl) rfl ?_)
                    exact ihn106 (n106 - 1) (by omega) (y104 + 1) (by omega) ⟨by omega, by have hz : Int.toNat y104 ≠ q102 := fun e => (by rw [e] at ex108; omega); omega⟩ (show 1300 - (y104 + 1) ≤ ((n106 - 1 : Nat) : Int) by omega)
                exact lp85_n106 (1300 - (y18 + 2)).toNat (y18 + 2) (by omega) ⟨by omega, by omega⟩ (by omega)
              · skip
                refine to_aload_n (dat dk_X12_readEncoded 34 rfl) rfl (to_aload_n (dat dk_X12_readEncoded 35 rfl) rfl (to_getR 75 g_c13_60 (dat dk_X12_readEncoded 36 rfl) (Ih8.atS rfl) (Ih8.atE rfl) (to_iload_n (dat dk_X12_readEncoded 37 rfl) rfl ?_)))
                obtain ⟨x127, ex127⟩ : ∃ y : Int, h8.2.2 75 (Int.toNat y6) = y := ⟨_, rfl⟩
                have rx127 := Ih8.atR (a := 75) (j := Int.toNat y6) rfl
                rw [ex127] at rx127
                refine to_baldv (q := 1) ex127 (dat dk_X12_readEncoded 38 rfl) (by decide) (Ih8.atS rfl) rfl (by decide) (by omega) ?_
                refine to_cV ca_c13_211 (dat dk_X12_readEncoded 39 rfl) (ct_X12_put l h8 Ih8 x127 (by omega) (show h8.2.2 60 25 ≤ 3999 by omega)) rfl ⟨_, _, rfl, (Ih8.atS rfl)⟩ rfl (fun h129 p130 => ?_)
                obtain ⟨Ih129, fh129, p130_0⟩ := p130
                have f131 : Fr [76, 225] h h129 := Fr.sub fh8 fh129 (sub_self _)
                obtain ⟨x132, ex132⟩ : ∃ y : Int, h129.2.2 60 25 = y := ⟨_, rfl⟩
                have rx132 := Ih129.atR (a := 60) (j := 25) rfl
                rw [ex132] at rx132
                refine to_iconst (dat dk_X12_readEncoded 40 rfl) (to_istore_n (L' := [(0, .inr (.inr 60)), (1, .inl y6), (2, .inl 0), (3, .inl y18), (4, .inl x99)]) (dat dk_X12_readEncoded 41 rfl) (by decide) rfl (to_iinc (L' := [(0, .inr (.inr 60)), (1, .inl (y6 + 1)), (2, .inl 0), (3, .inl y18), (4, .inl x99)]) (dat dk_X12_readEncoded 42 rfl) rfl (by decide) rfl (to_goto (dat dk_X12_readEncoded 43 rfl) rfl ?_)))
                refine to_pick [0, 1, 2] rfl ?_
                have e133 : h129.2.2 60 23 = x2 := ((Fr.get fh129 (by have := Ih8.1.1; omega) rfl).trans e15)
                exact ihn13 (n13 - 1) (by omega) (y6 + 1) 0 h129 (by omega) (by decide) Ih129 f131 (show 0 ≤ (y6 + 1) ∧ (y6 + 1) ≤ h129.2.2 60 23 by omega) (show h129.2.2 60 25 ≤ (y6 + 1) by omega) (show h129.2.2 60 23 - (y6 + 1) ≤ ((n13 - 1 : Nat) : Int) by omega)
            · skip
              refine to_iinc (L' := [(0, .inr (.inr 60)), (1, .inl y6), (2, .inl y7), (3, .inl (y18 + 1))]) (dat dk_X12_readEncoded 25 rfl) rfl (by decide) rfl (to_goto (dat dk_X12_readEncoded 26 rfl) rfl ?_)
              exact ihn20 (n20 - 1) (by omega) (y18 + 1) (by omega) (show y6 ≤ (y18 + 1) ∧ (y18 + 1) ≤ h8.2.2 60 23 by omega) (show h8.2.2 60 23 - (y18 + 1) ≤ ((n20 - 1 : Nat) : Int) by omega)
      exact lp19_n20 (h8.2.2 60 23 - y6).toNat y6 ry6 (show y6 ≤ y6 ∧ y6 ≤ h8.2.2 60 23 by omega) (by omega)
  exact lp9_n13 (h5.2.2 60 23 - (0 : Int)).toNat 0 0 h5 (by decide) (by decide) I3 f4 (show 0 ≤ (0 : Int) ∧ (0 : Int) ≤ h5.2.2 60 23 by omega) (show h5.2.2 60 25 ≤ (0 : Int) by omega) (by omega)
