/-! Contracts, by program. -/
abbrev Q_X12_isLeaf (h : Hp) (m : Int) (k : Int) : Option V → Hp → Nat → Nat → Prop := RI (fun x H => Inv H ∧ Fr [98, 99, 260] h H ∧ (x = 0 ∨ x = 1))
set_option maxRecDepth 100000 in
theorem ct_X12_isLeaf (l : Launch) (h : Hp) (hI : Inv h) (m : Int) (hm : I32 m) (k : Int) (hk : I32 k) (g0 : Lkd h) (g1 : LfOK h) (g2 : 0 ≤ m ∧ m ≤ 199) (g3 : h.2.2 87 (Int.toNat m) < h.2.2 60 37) (g4 : 0 ≤ k ∧ k < h.2.2 60 45) : Ct l D_X12_isLeaf 4 89 [.inr (.inr 60), .inl m, .inl k] h (Q_X12_isLeaf h m k) := by
  refine ct_of pn_X12_isLeaf (Nat.le_of_ble_eq_true rfl) ?_
  show To l E_X12_isLeaf (0, [(0, .inr (.inr 60)), (1, .inl m), (2, .inl k)], [], h, 0, 0) _
  have z45 := hI.atR (a := 60) (j := 45) rfl
  obtain ⟨x1, ex1⟩ : ∃ y : Int, h.2.2 60 37 = y := ⟨_, rfl⟩
  have rx1 := hI.atR (a := 60) (j := 37) rfl
  rw [ex1] at rx1
  obtain ⟨x2, ex2⟩ : ∃ y : Int, h.2.2 60 45 = y := ⟨_, rfl⟩
  have rx2 := hI.atR (a := 60) (j := 45) rfl
  rw [ex2] at rx2
  obtain ⟨x3, ex3⟩ : ∃ y : Int, h.2.2 60 18 = y := ⟨_, rfl⟩
  have rx3 := hI.atR (a := 60) (j := 18) rfl
  rw [ex3] at rx3
  refine to_aload_n (dat dk_X12_isLeaf 0 rfl) rfl (to_getR 89 g_c13_103 (dat dk_X12_isLeaf 1 rfl) (hI.atS rfl) (hI.atE rfl) (to_iload_n (dat dk_X12_isLeaf 2 rfl) rfl ?_))
  obtain ⟨x4, ex4⟩ : ∃ y : Int, h.2.2 89 (Int.toNat k) = y := ⟨_, rfl⟩
  have rx4 := hI.atR (a := 89) (j := Int.toNat k) rfl
  rw [ex4] at rx4
  refine to_ialdv ex4 (dat dk_X12_isLeaf 3 rfl) (hI.atS rfl) rfl (by decide) (by omega) (to_istore_n (L' := [(0, .inr (.inr 60)), (1, .inl m), (2, .inl k), (3, .inl x4)]) (dat dk_X12_isLeaf 4 rfl) (by decide) rfl (to_aload_n (dat dk_X12_isLeaf 5 rfl) rfl (to_getR 90 g_c13_106 (dat dk_X12_isLeaf 6 rfl) (hI.atS rfl) (hI.atE rfl) (to_iload_n (dat dk_X12_isLeaf 7 rfl) rfl ?_))))
  obtain ⟨x5, ex5⟩ : ∃ y : Int, h.2.2 90 (Int.toNat k) = y := ⟨_, rfl⟩
  have rx5 := hI.atR (a := 90) (j := Int.toNat k) rfl
  rw [ex5] at rx5
  refine to_ialdv ex5 (dat dk_X12_isLeaf 8 rfl) (hI.atS rfl) rfl (by decide) (by omega) (to_istore (L' := [(0, .inr (.inr 60)), (1, .inl m), (2, .inl k), (3, .inl x4), (4, .inl x5)]) (dat dk_X12_isLeaf 9 rfl) (by decide) rfl (to_aload_n (dat dk_X12_isLeaf 10 rfl) rfl (to_getR 91 g_c13_109 (dat dk_X12_isLeaf 11 rfl) (hI.atS rfl) (hI.atE rfl) (to_iload_n (dat dk_X12_isLeaf 12 rfl) rfl ?_))))
  obtain ⟨x6, ex6⟩ : ∃ y : Int, h.2.2 91 (Int.toNat k) = y := ⟨_, rfl⟩
  have rx6 := hI.atR (a := 91) (j := Int.toNat k) rfl
  rw [ex6] at rx6
  refine to_ialdv ex6 (dat dk_X12_isLeaf 13 rfl) (hI.atS rfl) rfl (by decide) (by omega) (to_istore (L' := [(0, .inr (.inr 60)), (1, .inl m), (2, .inl k), (3, .inl x4), (4, .inl x5), (5, .inl x6)]) (dat dk_X12_isLeaf 14 rfl) (by decide) rfl ?_)
  have z7 := g1 (Int.toNat k) (by omega)
  refine to_iload_n (dat dk_X12_isLeaf 15 rfl) rfl (to_iconst (dat dk_X12_isLeaf 16 rfl) ?_)
  refine to_ine 45 (dat dk_X12_isLeaf 17 rfl) rfl (by omega) (by decide) (fun c8 => ?_) (fun c8 => ?_)
  · skip
    refine to_iload_n (dat dk_X12_isLeaf 28 rfl) rfl (to_iconst (dat dk_X12_isLeaf 29 rfl) ?_)
    refine to_ine 122 (dat dk_X12_isLeaf 30 rfl) rfl (by omega) (by decide) (fun c9 => ?_) (fun c9 => ?_)
    · skip
      refine to_iload_n (dat dk_X12_isLeaf 68 rfl) rfl (to_bipush (dat dk_X12_isLeaf 69 rfl) (by decide) ?_)
      refine to_ine 171 (dat dk_X12_isLeaf 70 rfl) rfl (by omega) (by decide) (fun c10 => ?_) (fun c10 => ?_)
      · skip
        refine to_iload_n (dat dk_X12_isLeaf 96 rfl) rfl (to_bipush (dat dk_X12_isLeaf 97 rfl) (by decide) ?_)
        refine to_ine 231 (dat dk_X12_isLeaf 98 rfl) rfl (by omega) (by decide) (fun c11 => ?_) (fun c11 => ?_)
        · skip
          have jn259_n14 : ∀ (y12 : Int), (y12 = 0 ∨ y12 = 1) → (y12 ≤ x6) → To l E_X12_isLeaf (259, [(0, .inr (.inr 60)), (1, .inl m), (2, .inl k), (3, .inl x4), (4, .inl x5), (5, .inl x6)], [.inl y12], h, 0, 0) (Q_X12_isLeaf h m k) := by
            intro y12 ry12 c13
            replace ry12 := z_lin ry12
            refine to_istore (L' := [(0, .inr (.inr 60)), (1, .inl m), (2, .inl k), (3, .inl x4), (4, .inl x5), (5, .inl x6), (6, .inl y12)]) (dat dk_X12_isLeaf 144 rfl) (by decide) rfl (to_aload_n (dat dk_X12_isLeaf 145 rfl) rfl (to_aload_n (dat dk_X12_isLeaf 146 rfl) rfl (to_getR 88 g_c13_100 (dat dk_X12_isLeaf 147 rfl) (hI.atS rfl) (hI.atE rfl) (to_iload (dat dk_X12_isLeaf 148 rfl) rfl ?_))))
            have jn282_n17 : ∀ (y15 : Int), (I32 y15) → (-1 ≤ y15 ∧ y15 ≤ 1200) → To l E_X12_isLeaf (282, [(0, .inr (.inr 60)), (1, .inl m), (2, .inl k), (3, .inl x4), (4, .inl x5), (5, .inl x6), (6, .inl y12)], [.inl y15, .inl x5, .inr (.inr 88), .inr (.inr 60)], h, 0, 0) (Q_X12_isLeaf h m k) := by
              intro y15 ry15 c16
              refine to_sipush (dat dk_X12_isLeaf 156 rfl) (by decide) (to_aload_n (dat dk_X12_isLeaf 157 rfl) rfl (to_getR 98 g_c13_131 (dat dk_X12_isLeaf 158 rfl) (hI.atS rfl) (hI.atE rfl) (to_aload_n (dat dk_X12_isLeaf 159 rfl) rfl (to_getR 99 g_c13_134 (dat dk_X12_isLeaf 160 rfl) (hI.atS rfl) (hI.atE rfl) (to_iconst (dat dk_X12_isLeaf 161 rfl) ?_)))))
              refine to_cI ca_c13_296 (dat dk_X12_isLeaf 162 rfl) (ct_X12_split_v98 l h hI 88 1200 rfl x5 (by omega) y15 ry15 640 (by decide) 0 (by decide) (show 0 ≤ x5 by omega) (show y15 ≤ (1200 : Int) by omega) (show 0 ≤ (0 : Int) by omega) (show 0 ≤ (640 : Int) by omega) (show (0 : Int) + (640 : Int) ≤ 640 by omega)) rfl trivial rfl (fun x18 h19 rx18 p20 => ?_)
              obtain ⟨Ih19, fh19, p20_0⟩ := p20
              have f21 : Fr [98, 99, 260] h h19 := Fr.sub (Fr.rf _ _) fh19 rfl
              have t22 : Lkd h19 := Lkd_fr fh19 hI rfl g0
              have t23 : LfOK h19 := LfOK_fr fh19 hI rfl g1
              refine to_putIw p_c13_471 (dat dk_X12_isLeaf 163 rfl) (Ih19.atS rfl) ?_
              intro h26 wh26
              have I24 : Inv h26 := by rw [wh26]; exact Ih19.put (a := 60) (j := 60) (x := x18) (0) (640) rfl rfl (show (0 : Int) ≤ x18 ∧ x18 ≤ 640 by omega)
              have f25 : Fr [98, 99, 260] h h26 := by rw [wh26]; exact Fr.putF (a := 60) (j := 60) (x := x18) f21 rfl
              have t27 : Lkd h26 := by rw [wh26]; exact Lkd_wr rfl t22
              have t28 : LfOK h26 := by rw [wh26]; exact LfOK_wr rfl t23
              refine to_aload_n (dat dk_X12_isLeaf 164 rfl) rfl (to_getIv (y := x18) (by rw [wh26]; exact wr_eq) g_c13_471 (dat dk_X12_isLeaf 165 rfl) (I24.atS rfl) ?_)
              refine to_ifne 309 (dat dk_X12_isLeaf 166 rfl) rfl rx18 (fun c29 => ?_) (fun c29 => ?_)
              · skip
                refine to_iload_n (dat dk_X12_isLeaf 169 rfl) rfl (to_bipush (dat dk_X12_isLeaf 170 rfl) (by decide) ?_)
                refine to_ine 343 (dat dk_X12_isLeaf 171 rfl) rfl (by omega) (by decide) (fun c30 => ?_) (fun c30 => ?_)
                · skip
                  refine to_aload_n (dat dk_X12_isLeaf 186 rfl) rfl (to_iload_n (dat dk_X12_isLeaf 187 rfl) rfl (to_iload (dat dk_X12_isLeaf 188 rfl) rfl ?_))
                  refine to_cI ca_c13_489 (dat dk_X12_isLeaf 189 rfl) (ct_X12_stands l h26 I24 x4 (by omega) y12 (by omega) (show 0 ≤ x4 ∧ x4 ≤ 3 by omega)) rfl ⟨_, _, rfl, (I24.atS rfl)⟩ rfl (fun x31 h32 rx31 p33 => ?_)
                  obtain ⟨rfl, zx31⟩ := p33
                  have rzx31 := z_lin zx31
                  clear zx31
                  clear rx31
                  have rx31 := rzx31
                  clear rzx31
                  exact to_zret rfl (dat dk_X12_isLeaf 190 rfl) (by omega) (ri_mk (z_i32 rx31) ⟨I24, f25, (by omega)⟩)
                · skip
                  refine to_aload_n (dat dk_X12_isLeaf 172 rfl) rfl (to_iconst (dat dk_X12_isLeaf 173 rfl) (to_iload (dat dk_X12_isLeaf 174 rfl) rfl ?_))
                  refine to_cI ca_c13_489 (dat dk_X12_isLeaf 175 rfl) (ct_X12_stands l h26 I24 2 (by decide) y12 (by omega) (show 0 ≤ (2 : Int) ∧ (2 : Int) ≤ 3 by omega)) rfl ⟨_, _, rfl, (I24.atS rfl)⟩ rfl (fun x34 h35 rx34 p36 => ?_)
                  obtain ⟨rfl, zx34⟩ := p36
                  have rzx34 := z_lin zx34
                  clear zx34
                  clear rx34
                  have rx34 := rzx34
                  clear rzx34
                  refine to_ifne 335 (dat dk_X12_isLeaf 176 rfl) rfl (z_i32 rx34) (fun c37 => ?_) (fun c37 => ?_)
                  · skip
                    replace c37 := z_one rx34 c37
                    refine to_iconst (dat dk_X12_isLeaf 182 rfl) (to_goto (dat dk_X12_isLeaf 183 rfl) rfl ?_)
                    exact to_zret rfl (dat dk_X12_isLeaf 190 rfl) (by decide) (ri_mk (by decide) ⟨I24, f25, (by decide)⟩)
                  · skip
                    refine to_aload_n (dat dk_X12_isLeaf 177 rfl) rfl (to_iconst (dat dk_X12_isLeaf 178 rfl) (to_iload (dat dk_X12_isLeaf 179 rfl) rfl ?_))
                    refine to_cI ca_c13_489 (dat dk_X12_isLeaf 180 rfl) (ct_X12_stands l h26 I24 3 (by decide) y12 (by omega) (show 0 ≤ (3 : Int) ∧ (3 : Int) ≤ 3 by omega)) rfl ⟨_, _, rfl, (I24.atS rfl)⟩ rfl (fun x38 h39 rx38 p40 => ?_)
                    obtain ⟨rfl, zx38⟩ := p40
                    have rzx38 := z_lin zx38
                    clear zx38
                    clear rx38
                    have rx38 := rzx38
                    clear rzx38
                    refine to_ifeq 339 (dat dk_X12_isLeaf 181 rfl) rfl (z_i32 rx38) (fun c41 => ?_) (fun c41 => ?_)
                    · skip
                      refine to_iconst (dat dk_X12_isLeaf 184 rfl) (to_goto (dat dk_X12_isLeaf 185 rfl) rfl ?_)
                      exact to_zret rfl (dat dk_X12_isLeaf 190 rfl) (by decide) (ri_mk (by decide) ⟨I24, f25, (by decide)⟩)
                    · skip
                      replace c41 := z_one rx38 c41
                      refine to_iconst (dat dk_X12_isLeaf 182 rfl) (to_goto (dat dk_X12_isLeaf 183 rfl) rfl ?_)
                      exact to_zret rfl (dat dk_X12_isLeaf 190 rfl) (by decide) (ri_mk (by decide) ⟨I24, f25, (by decide)⟩)
              · skip
                refine to_iconst (dat dk_X12_isLeaf 167 rfl) ?_
                exact to_zret rfl (dat dk_X12_isLeaf 168 rfl) (by decide) (ri_mk (by decide) ⟨I24, f25, (by decide)⟩)
            refine to_iload (dat dk_X12_isLeaf 149 rfl) rfl ?_
            refine to_ifeq 280 (dat dk_X12_isLeaf 150 rfl) rfl (z_i32 ry12) (fun c42 => ?_) (fun c42 => ?_)
            · skip
              refine to_iload (dat dk_X12_isLeaf 155 rfl) rfl ?_
              exact jn282_n17 x6 (by omega) (show -1 ≤ x6 ∧ x6 ≤ 1200 by omega)
            · skip
              replace c42 := z_one ry12 c42
              refine to_iload (dat dk_X12_isLeaf 151 rfl) rfl (to_iconst (dat dk_X12_isLeaf 152 rfl) (to_isub (dat dk_X12_isLeaf 153 rfl) (to_goto (dat dk_X12_isLeaf 154 rfl) rfl ?_)))
              exact jn282_n17 (x6 - 1) (by omega) (show -1 ≤ (x6 - 1) ∧ (x6 - 1) ≤ 1200 by omega)
          refine to_aload_n (dat dk_X12_isLeaf 128 rfl) rfl (to_getR 92 g_c13_112 (dat dk_X12_isLeaf 129 rfl) (hI.atS rfl) (hI.atE rfl) (to_iload_n (dat dk_X12_isLeaf 130 rfl) rfl ?_))
          obtain ⟨x43, ex43⟩ : ∃ y : Int, h.2.2 92 (Int.toNat k) = y := ⟨_, rfl⟩
          have rx43 := hI.atR (a := 92) (j := Int.toNat k) rfl
          rw [ex43] at rx43
          refine to_baldv (q := 2) ex43 (dat dk_X12_isLeaf 131 rfl) (by decide) (hI.atS rfl) rfl (by decide) (by omega) ?_
          refine to_ifne 258 (dat dk_X12_isLeaf 132 rfl) rfl (by omega) (fun c44 => ?_) (fun c44 => ?_)
          · skip
            refine to_iconst (dat dk_X12_isLeaf 143 rfl) ?_
            exact jn259_n14 0 (by decide) (show (0 : Int) ≤ x6 by omega)
          · skip
            refine to_aload_n (dat dk_X12_isLeaf 133 rfl) rfl (to_getR 88 g_c13_100 (dat dk_X12_isLeaf 134 rfl) (hI.atS rfl) (hI.atE rfl) (to_iload (dat dk_X12_isLeaf 135 rfl) rfl (to_iconst (dat dk_X12_isLeaf 136 rfl) (to_isub (dat dk_X12_isLeaf 137 rfl) ?_))))
            obtain ⟨x45, ex45⟩ : ∃ y : Int, h.2.2 88 (Int.toNat (x6 - 1)) = y := ⟨_, rfl⟩
            have rx45 := hI.atR (a := 88) (j := Int.toNat (x6 - 1)) rfl
            rw [ex45] at rx45
            refine to_baldv (q := 1) ex45 (dat dk_X12_isLeaf 138 rfl) (by decide) (hI.atS rfl) rfl (by decide) (by omega) (to_bipush (dat dk_X12_isLeaf 139 rfl) (by decide) ?_)
            refine to_ine 258 (dat dk_X12_isLeaf 140 rfl) rfl (by omega) (by decide) (fun c46 => ?_) (fun c46 => ?_)
            · skip
              refine to_iconst (dat dk_X12_isLeaf 143 rfl) ?_
              exact jn259_n14 0 (by decide) (show (0 : Int) ≤ x6 by omega)
            · skip
              refine to_iconst (dat dk_X12_isLeaf 141 rfl) (to_goto (dat dk_X12_isLeaf 142 rfl) rfl ?_)
              exact jn259_n14 1 (by decide) (show (1 : Int) ≤ x6 by omega)
        · skip
          refine to_iconst (dat dk_X12_isLeaf 99 rfl) (to_istore (L' := [(0, .inr (.inr 60)), (1, .inl m), (2, .inl k), (3, .inl x4), (4, .inl x5), (5, .inl x6), (6, .inl 0)]) (dat dk_X12_isLeaf 100 rfl) (by decide) rfl (to_iload (dat dk_X12_isLeaf 101 rfl) rfl (to_istore (L' := [(0, .inr (.inr 60)), (1, .inl m), (2, .inl k), (3, .inl x4), (4, .inl x5), (5, .inl x6), (6, .inl 0), (7, .inl x5)]) (dat dk_X12_isLeaf 102 rfl) (by decide) rfl ?_)))
          have lp184_n50 : ∀ (n50 : Nat) (y47 : Int) (y48 : Int), (I32 y47) → (I32 y48) → (x5 ≤ y48) → (x6 - y48 ≤ (n50 : Int)) → To l E_X12_isLeaf (184, [(0, .inr (.inr 60)), (1, .inl m), (2, .inl k), (3, .inl x4), (4, .inl x5), (5, .inl x6), (6, .inl y47), (7, .inl y48)], [], h, 0, 0) (Q_X12_isLeaf h m k) := by
            intro n50
            induction n50 using Nat.strongRecOn with
            | _ n50 ihn50 =>
            intro y47 y48 ry47 ry48 c49 c51
            refine to_iload (dat dk_X12_isLeaf 103 rfl) rfl (to_iload (dat dk_X12_isLeaf 104 rfl) rfl ?_)
            refine to_ige 215 (dat dk_X12_isLeaf 105 rfl) rfl ry48 (by omega) (fun c52 => ?_) (fun c52 => ?_)
            · skip
              refine to_iload (dat dk_X12_isLeaf 119 rfl) rfl (to_aload_n (dat dk_X12_isLeaf 120 rfl) rfl (to_iload_n (dat dk_X12_isLeaf 121 rfl) rfl ?_))
              obtain ⟨x53, ex53⟩ : ∃ y : Int, h.2.2 60 4 = y := ⟨_, rfl⟩
              have rx53 := hI.atR (a := 60) (j := 4) rfl
              rw [ex53] at rx53
              refine to_cI ca_c13_486 (dat dk_X12_isLeaf 122 rfl) (ct_X12_threadOf l h hI m hm g0 (show 0 ≤ m ∧ m ≤ 199 by omega) (show h.2.2 87 (Int.toNat m) < h.2.2 60 37 by omega)) rfl ⟨_, _, rfl, (hI.atS rfl)⟩ rfl (fun x54 h55 rx54 p56 => ?_)
              obtain ⟨rfl, p56_0⟩ := p56
              refine to_ine 229 (dat dk_X12_isLeaf 123 rfl) rfl ry47 rx54 (fun c57 => ?_) (fun c57 => ?_)
              · skip
                refine to_iconst (dat dk_X12_isLeaf 126 rfl) ?_
                exact to_zret rfl (dat dk_X12_isLeaf 127 rfl) (by decide) (ri_mk (by decide) ⟨hI, (Fr.rf _ _), (by decide)⟩)
              · skip
                refine to_iconst (dat dk_X12_isLeaf 124 rfl) (to_goto (dat dk_X12_isLeaf 125 rfl) rfl ?_)
                exact to_zret rfl (dat dk_X12_isLeaf 127 rfl) (by decide) (ri_mk (by decide) ⟨hI, (Fr.rf _ _), (by decide)⟩)
            · skip
              refine to_bipush (dat dk_X12_isLeaf 106 rfl) (by decide) (to_iload (dat dk_X12_isLeaf 107 rfl) rfl (to_imul (dat dk_X12_isLeaf 108 rfl) (to_aload_n (dat dk_X12_isLeaf 109 rfl) rfl (to_getR 88 g_c13_100 (dat dk_X12_isLeaf 110 rfl) (hI.atS rfl) (hI.atE rfl) (to_iload (dat dk_X12_isLeaf 111 rfl) rfl ?_)))))
              obtain ⟨x58, ex58⟩ : ∃ y : Int, h.2.2 88 (Int.toNat y48) = y := ⟨_, rfl⟩
              have rx58 := hI.atR (a := 88) (j := Int.toNat y48) rfl
              rw [ex58] at rx58
              refine to_baldv (q := 1) ex58 (dat dk_X12_isLeaf 112 rfl) (by decide) (hI.atS rfl) rfl (by decide) (by omega) ?_
              refine to_iaddA (dat dk_X12_isLeaf 113 rfl) (fun x59 rx59 => ?_)
              refine to_bipush (dat dk_X12_isLeaf 114 rfl) (by decide) ?_
              refine to_isubA (dat dk_X12_isLeaf 115 rfl) (fun x60 rx60 => ?_)
              refine to_istore (L' := [(0, .inr (.inr 60)), (1, .inl m), (2, .inl k), (3, .inl x4), (4, .inl x5), (5, .inl x6), (6, .inl x60), (7, .inl y48)]) (dat dk_X12_isLeaf 116 rfl) (by decide) rfl (to_iinc (L' := [(0, .inr (.inr 60)), (1, .inl m), (2, .inl k), (3, .inl x4), (4, .inl x5), (5, .inl x6), (6, .inl x60), (7, .inl (y48 + 1))]) (dat dk_X12_isLeaf 117 rfl) rfl (by decide) rfl (to_goto (dat dk_X12_isLeaf 118 rfl) rfl ?_))
              exact ihn50 (n50 - 1) (by omega) x60 (y48 + 1) rx60 (by omega) (show x5 ≤ (y48 + 1) by omega) (show x6 - (y48 + 1) ≤ ((n50 - 1 : Nat) : Int) by omega)
          exact lp184_n50 (x6 - x5).toNat 0 x5 (by decide) (by omega) (show x5 ≤ x5 by omega) (by omega)
      · skip
        refine to_aload_n (dat dk_X12_isLeaf 71 rfl) rfl ?_
        refine to_getL g_c13_360 (dat dk_X12_isLeaf 72 rfl) (hI.atS rfl) ?_
        generalize h.2.2 60 16 = w61
        refine to_lconst (v := 0) (dat dk_X12_isLeaf 73 rfl) rfl ?_
        refine to_lcmp (dat dk_X12_isLeaf 74 rfl) (fun x62 rx62 => ?_)
        refine to_ifeq 169 (dat dk_X12_isLeaf 75 rfl) rfl rx62 (fun c63 => ?_) (fun c63 => ?_)
        · skip
          refine to_iconst (dat dk_X12_isLeaf 94 rfl) ?_
          exact to_zret rfl (dat dk_X12_isLeaf 95 rfl) (by decide) (ri_mk (by decide) ⟨hI, (Fr.rf _ _), (by decide)⟩)
        · skip
          refine to_aload_n (dat dk_X12_isLeaf 76 rfl) rfl ?_
          refine to_getL g_c13_360 (dat dk_X12_isLeaf 77 rfl) (hI.atS rfl) ?_
          generalize h.2.2 60 16 = w64
          refine to_aload_n (dat dk_X12_isLeaf 78 rfl) rfl (to_getR 93 g_c13_115 (dat dk_X12_isLeaf 79 rfl) (hI.atS rfl) (hI.atE rfl) (to_iload_n (dat dk_X12_isLeaf 80 rfl) rfl ?_))
          refine to_lald (dat dk_X12_isLeaf 81 rfl) (hI.atS rfl) rfl (by decide) (by omega) ?_
          generalize h.2.2 93 (Int.toNat k) = w65
          refine to_lcmp (dat dk_X12_isLeaf 82 rfl) (fun x66 rx66 => ?_)
          refine to_iflt 169 (dat dk_X12_isLeaf 83 rfl) rfl rx66 (fun c67 => ?_) (fun c67 => ?_)
          · skip
            refine to_iconst (dat dk_X12_isLeaf 94 rfl) ?_
            exact to_zret rfl (dat dk_X12_isLeaf 95 rfl) (by decide) (ri_mk (by decide) ⟨hI, (Fr.rf _ _), (by decide)⟩)
          · skip
            refine to_aload_n (dat dk_X12_isLeaf 84 rfl) rfl ?_
            refine to_getL g_c13_360 (dat dk_X12_isLeaf 85 rfl) (hI.atS rfl) ?_
            generalize h.2.2 60 16 = w68
            refine to_aload_n (dat dk_X12_isLeaf 86 rfl) rfl (to_getR 94 g_c13_119 (dat dk_X12_isLeaf 87 rfl) (hI.atS rfl) (hI.atE rfl) (to_iload_n (dat dk_X12_isLeaf 88 rfl) rfl ?_))
            refine to_lald (dat dk_X12_isLeaf 89 rfl) (hI.atS rfl) rfl (by decide) (by omega) ?_
            generalize h.2.2 94 (Int.toNat k) = w69
            refine to_lcmp (dat dk_X12_isLeaf 90 rfl) (fun x70 rx70 => ?_)
            refine to_ifgt 169 (dat dk_X12_isLeaf 91 rfl) rfl rx70 (fun c71 => ?_) (fun c71 => ?_)
            · skip
              refine to_iconst (dat dk_X12_isLeaf 94 rfl) ?_
              exact to_zret rfl (dat dk_X12_isLeaf 95 rfl) (by decide) (ri_mk (by decide) ⟨hI, (Fr.rf _ _), (by decide)⟩)
            · skip
              refine to_iconst (dat dk_X12_isLeaf 92 rfl) (to_goto (dat dk_X12_isLeaf 93 rfl) rfl ?_)
              exact to_zret rfl (dat dk_X12_isLeaf 95 rfl) (by decide) (ri_mk (by decide) ⟨hI, (Fr.rf _ _), (by decide)⟩)
    · skip
      have jn67_n74 : ∀ (y72 : Int), (y72 = 0 ∨ y72 = 1) → (y72 = 0 ∨ h.2.2 60 18 = x6 - x5) → To l E_X12_isLeaf (67, [(0, .inr (.inr 60)), (1, .inl m), (2, .inl k), (3, .inl x4), (4, .inl x5), (5, .inl x6)], [.inl y72], h, 0, 0) (Q_X12_isLeaf h m k) := by
        intro y72 ry72 c73
        replace ry72 := z_lin ry72
        refine to_istore (L' := [(0, .inr (.inr 60)), (1, .inl m), (2, .inl k), (3, .inl x4), (4, .inl x5), (5, .inl x6), (6, .inl y72)]) (dat dk_X12_isLeaf 40 rfl) (by decide) rfl (to_iconst (dat dk_X12_isLeaf 41 rfl) (to_istore (L' := [(0, .inr (.inr 60)), (1, .inl m), (2, .inl k), (3, .inl x4), (4, .inl x5), (5, .inl x6), (6, .inl y72), (7, .inl 0)]) (dat dk_X12_isLeaf 42 rfl) (by decide) rfl ?_))
        have lp72_n79 : ∀ (n79 : Nat) (y75 : Int) (y76 : Int), (y75 = 0 ∨ y75 = 1) → (I32 y76) → (0 ≤ y76) → (y75 = 0 ∨ h.2.2 60 18 = x6 - x5) → (h.2.2 60 18 - y76 ≤ (n79 : Int)) → To l E_X12_isLeaf (72, [(0, .inr (.inr 60)), (1, .inl m), (2, .inl k), (3, .inl x4), (4, .inl x5), (5, .inl x6), (6, .inl y75), (7, .inl y76)], [], h, 0, 0) (Q_X12_isLeaf h m k) := by
          intro n79
          induction n79 using Nat.strongRecOn with
          | _ n79 ihn79 =>
          intro y75 y76 ry75 ry76 c77 c78 c80
          replace ry75 := z_lin ry75
          refine to_iload (dat dk_X12_isLeaf 43 rfl) rfl (to_aload_n (dat dk_X12_isLeaf 44 rfl) rfl (to_getIv (y := x3) ex3 g_c13_364 (dat dk_X12_isLeaf 45 rfl) (hI.atS rfl) ?_))
          refine to_ige 119 (dat dk_X12_isLeaf 46 rfl) rfl ry76 (by omega) (fun c81 => ?_) (fun c81 => ?_)
          · skip
            refine to_iload (dat dk_X12_isLeaf 66 rfl) rfl ?_
            exact to_zret rfl (dat dk_X12_isLeaf 67 rfl) (by omega) (ri_mk (z_i32 ry75) ⟨hI, (Fr.rf _ _), (by omega)⟩)
          · skip
            refine to_iload (dat dk_X12_isLeaf 47 rfl) rfl ?_
            refine to_ifeq 119 (dat dk_X12_isLeaf 48 rfl) rfl (z_i32 ry75) (fun c82 => ?_) (fun c82 => ?_)
            · skip
              refine to_iload (dat dk_X12_isLeaf 66 rfl) rfl ?_
              exact to_zret rfl (dat dk_X12_isLeaf 67 rfl) (by omega) (ri_mk (z_i32 ry75) ⟨hI, (Fr.rf _ _), (by omega)⟩)
            · skip
              replace c82 := z_one ry75 c82
              have jn111_n85 : ∀ (y83 : Int), (y83 = 0 ∨ y83 = 1) → (h.2.2 60 18 = x6 - x5) → To l E_X12_isLeaf (111, [(0, .inr (.inr 60)), (1, .inl m), (2, .inl k), (3, .inl x4), (4, .inl x5), (5, .inl x6), (6, .inl y75), (7, .inl y76)], [.inl y83], h, 0, 0) (Q_X12_isLeaf h m k) := by
                intro y83 ry83 c84
                replace ry83 := z_lin ry83
                refine to_istore (L' := [(0, .inr (.inr 60)), (1, .inl m), (2, .inl k), (3, .inl x4), (4, .inl x5), (5, .inl x6), (6, .inl y83), (7, .inl y76)]) (dat dk_X12_isLeaf 63 rfl) (by decide) rfl (to_iinc (L' := [(0, .inr (.inr 60)), (1, .inl m), (2, .inl k), (3, .inl x4), (4, .inl x5), (5, .inl x6), (6, .inl y83), (7, .inl (y76 + 1))]) (dat dk_X12_isLeaf 64 rfl) rfl (by decide) rfl (to_goto (dat dk_X12_isLeaf 65 rfl) rfl ?_))
                exact ihn79 (n79 - 1) (by omega) y83 (y76 + 1) (by omega) (by omega) (show 0 ≤ (y76 + 1) by omega) (show y83 = 0 ∨ h.2.2 60 18 = x6 - x5 by omega) (show h.2.2 60 18 - (y76 + 1) ≤ ((n79 - 1 : Nat) : Int) by omega)
              refine to_aload_n (dat dk_X12_isLeaf 49 rfl) rfl (to_getR 72 g_c13_51 (dat dk_X12_isLeaf 50 rfl) (hI.atS rfl) (hI.atE rfl) (to_iload (dat dk_X12_isLeaf 51 rfl) rfl ?_))
              obtain ⟨x86, ex86⟩ : ∃ y : Int, h.2.2 72 (Int.toNat y76) = y := ⟨_, rfl⟩
              have rx86 := hI.atR (a := 72) (j := Int.toNat y76) rfl
              rw [ex86] at rx86
              refine to_baldv (q := 1) ex86 (dat dk_X12_isLeaf 52 rfl) (by decide) (hI.atS rfl) rfl (by decide) (by omega) (to_aload_n (dat dk_X12_isLeaf 53 rfl) rfl (to_getR 88 g_c13_100 (dat dk_X12_isLeaf 54 rfl) (hI.atS rfl) (hI.atE rfl) (to_iload (dat dk_X12_isLeaf 55 rfl) rfl (to_iload (dat dk_X12_isLeaf 56 rfl) rfl (to_iadd (dat dk_X12_isLeaf 57 rfl) ?_)))))
              obtain ⟨x87, ex87⟩ : ∃ y : Int, h.2.2 88 (Int.toNat (x5 + y76)) = y := ⟨_, rfl⟩
              have rx87 := hI.atR (a := 88) (j := Int.toNat (x5 + y76)) rfl
              rw [ex87] at rx87
              refine to_baldv (q := 1) ex87 (dat dk_X12_isLeaf 58 rfl) (by decide) (hI.atS rfl) rfl (by decide) (by omega) ?_
              refine to_ine 110 (dat dk_X12_isLeaf 59 rfl) rfl (by omega) (by omega) (fun c88 => ?_) (fun c88 => ?_)
              · skip
                refine to_iconst (dat dk_X12_isLeaf 62 rfl) ?_
                exact jn111_n85 0 (by decide) (show h.2.2 60 18 = x6 - x5 by omega)
              · skip
                refine to_iconst (dat dk_X12_isLeaf 60 rfl) (to_goto (dat dk_X12_isLeaf 61 rfl) rfl ?_)
                exact jn111_n85 1 (by decide) (show h.2.2 60 18 = x6 - x5 by omega)
        exact lp72_n79 (h.2.2 60 18 - (0 : Int)).toNat y72 0 (by omega) (by decide) (show 0 ≤ (0 : Int) by omega) (show y72 = 0 ∨ h.2.2 60 18 = x6 - x5 by omega) (by omega)
      refine to_aload_n (dat dk_X12_isLeaf 31 rfl) rfl (to_getIv (y := x3) ex3 g_c13_364 (dat dk_X12_isLeaf 32 rfl) (hI.atS rfl) (to_iload (dat dk_X12_isLeaf 33 rfl) rfl (to_iload (dat dk_X12_isLeaf 34 rfl) rfl (to_isub (dat dk_X12_isLeaf 35 rfl) ?_))))
      refine to_ine 66 (dat dk_X12_isLeaf 36 rfl) rfl (by omega) (by omega) (fun c89 => ?_) (fun c89 => ?_)
      · skip
        refine to_iconst (dat dk_X12_isLeaf 39 rfl) ?_
        exact jn67_n74 0 (by decide) (show (0 : Int) = 0 ∨ h.2.2 60 18 = x6 - x5 by omega)
      · skip
        refine to_iconst (dat dk_X12_isLeaf 37 rfl) (to_goto (dat dk_X12_isLeaf 38 rfl) rfl ?_)
        exact jn67_n74 1 (by decide) (show (1 : Int) = 0 ∨ h.2.2 60 18 = x6 - x5 by omega)
  · skip
    refine to_aload_n (dat dk_X12_isLeaf 18 rfl) rfl (to_iload_n (dat dk_X12_isLeaf 19 rfl) rfl (to_aload_n (dat dk_X12_isLeaf 20 rfl) rfl (to_getR 88 g_c13_100 (dat dk_X12_isLeaf 21 rfl) (hI.atS rfl) (hI.atE rfl) (to_iload (dat dk_X12_isLeaf 22 rfl) rfl (to_iload (dat dk_X12_isLeaf 23 rfl) rfl (to_iload (dat dk_X12_isLeaf 24 rfl) rfl (to_isub (dat dk_X12_isLeaf 25 rfl) ?_)))))))
    refine to_cI ca_c13_482 (dat dk_X12_isLeaf 26 rfl) (ct_X12_hasTag l h hI m hm 88 1200 rfl x5 (by omega) (x6 - x5) (by omega) (show 0 ≤ m ∧ m ≤ 199 by omega) (show 0 ≤ x5 by omega) (show 0 ≤ (x6 - x5) by omega) (show x5 + (x6 - x5) ≤ (1200 : Int) by omega)) rfl ⟨_, _, rfl, (hI.atS rfl)⟩ rfl (fun x90 h91 rx90 p92 => ?_)
    obtain ⟨rfl, zx90⟩ := p92
    have rzx90 := z_lin zx90
    clear zx90
    clear rx90
    have rx90 := rzx90
    clear rzx90
    exact to_zret rfl (dat dk_X12_isLeaf 27 rfl) (by omega) (ri_mk (z_i32 rx90) ⟨hI, (Fr.rf _ _), (by omega)⟩)
abbrev Q_X12_matches (h : Hp) (m : Int) : Option V → Hp → Nat → Nat → Prop := RI (fun x H => Inv H ∧ Fr [97, 98, 99, 260] h H ∧ (x = 0 ∨ x = 1))
set_option maxRecDepth 100000 in
theorem ct_X12_matches (l : Launch) (h : Hp) (hI : Inv h) (m : Int) (hm : I32 m) (g0 : Lkd h) (g1 : LfOK h) (g2 : Val h) (g3 : 0 ≤ m ∧ m ≤ 199) (g4 : h.2.2 87 (Int.toNat m) < h.2.2 60 37) : Ct l D_X12_matches 5 116 [.inr (.inr 60), .inl m] h (Q_X12_matches h m) := by
  refine ct_of pn_X12_matches (Nat.le_of_ble_eq_true rfl) ?_
  show To l E_X12_matches (0, [(0, .inr (.inr 60)), (1, .inl m)], [], h, 0, 0) _
  have z45 := hI.atR (a := 60) (j := 45) rfl
  have z46 := hI.atR (a := 60) (j := 46) rfl
  have z47 := hI.atR (a := 60) (j := 37) rfl
  obtain ⟨x1, ex1⟩ : ∃ y : Int, h.2.2 60 37 = y := ⟨_, rfl⟩
  have rx1 := hI.atR (a := 60) (j := 37) rfl
  rw [ex1] at rx1
  obtain ⟨x2, ex2⟩ : ∃ y : Int, h.2.2 60 46 = y := ⟨_, rfl⟩
  have rx2 := hI.atR (a := 60) (j := 46) rfl
  rw [ex2] at rx2
  obtain ⟨x3, ex3⟩ : ∃ y : Int, h.2.2 60 45 = y := ⟨_, rfl⟩
  have rx3 := hI.atR (a := 60) (j := 45) rfl
  rw [ex3] at rx3
  refine to_iconst (dat dk_X12_matches 0 rfl) (to_istore_n (L' := [(0, .inr (.inr 60)), (1, .inl m), (2, .inl 0)]) (dat dk_X12_matches 1 rfl) (by decide) rfl (to_iconst (dat dk_X12_matches 2 rfl) (to_istore_n (L' := [(0, .inr (.inr 60)), (1, .inl m), (2, .inl 0), (3, .inl 0)]) (dat dk_X12_matches 3 rfl) (by decide) rfl ?_)))
  have lp4_n14 : ∀ (n14 : Nat) (y4 : Int) (y5 : Int) (h6 : Hp), (I32 y4) → (I32 y5) → (Inv h6) → (Fr [97, 98, 99, 260] h h6) → (y4 = htN h (Int.toNat y5)) → (h6.2.2 60 46 = h.2.2 60 46) → (0 ≤ y5) → (0 ≤ y4 ∧ y4 ≤ 810) → (Lkd h6) → (LfOK h6) → (h6.2.2 60 45 = h.2.2 60 45) → (h6.2.2 60 46 - y5 ≤ (n14 : Int)) → To l E_X12_matches (4, [(0, .inr (.inr 60)), (1, .inl m), (2, .inl y4), (3, .inl y5)], [], h6, 0, 0) (Q_X12_matches h m) := by
    intro n14
    induction n14 using Nat.strongRecOn with
    | _ n14 ihn14 =>
    intro y4 y5 h6 ry4 ry5 Ih6 fh6 c7 c8 c9 c10 c11 c12 c13 c15
    have e16 : h6.2.2 60 46 = x2 := ((Fr.get fh6 (by have := hI.1.1; omega) rfl).trans ex2)
    have e17 : h6.2.2 60 45 = x3 := ((Fr.get fh6 (by have := hI.1.1; omega) rfl).trans ex3)
    refine to_iload_n (dat dk_X12_matches 4 rfl) rfl (to_aload_n (dat dk_X12_matches 5 rfl) rfl (to_getIv (y := x2) e16 g_c13_403 (dat dk_X12_matches 6 rfl) (Ih6.atS rfl) ?_))
    refine to_ige 156 (dat dk_X12_matches 7 rfl) rfl ry5 (by omega) (fun c18 => ?_) (fun c18 => ?_)
    · skip
      refine to_aload_n (dat dk_X12_matches 90 rfl) rfl (to_getIv (y := x2) e16 g_c13_403 (dat dk_X12_matches 91 rfl) (Ih6.atS rfl) ?_)
      refine to_ifeq 172 (dat dk_X12_matches 92 rfl) rfl (by omega) (fun c19 => ?_) (fun c19 => ?_)
      · skip
        refine to_iconst (dat dk_X12_matches 98 rfl) (to_goto (dat dk_X12_matches 99 rfl) rfl ?_)
        exact to_zret rfl (dat dk_X12_matches 101 rfl) (by decide) (ri_mk (by decide) ⟨Ih6, fh6, (by decide)⟩)
      · skip
        refine to_aload_n (dat dk_X12_matches 93 rfl) rfl (to_getR 97 g_c13_128 (dat dk_X12_matches 94 rfl) (Ih6.atS rfl) (Ih6.atE rfl) (to_iconst (dat dk_X12_matches 95 rfl) ?_))
        obtain ⟨x20, ex20⟩ : ∃ y : Int, h6.2.2 97 (Int.toNat 0) = y := ⟨_, rfl⟩
        have rx20 := Ih6.atR (a := 97) (j := Int.toNat 0) rfl
        rw [ex20] at rx20
        refine to_baldv (q := 2) ex20 (dat dk_X12_matches 96 rfl) (by decide) (Ih6.atS rfl) rfl (by decide) (by decide) ?_
        refine to_ifeq 176 (dat dk_X12_matches 97 rfl) rfl (by omega) (fun c21 => ?_) (fun c21 => ?_)
        · skip
          refine to_iconst (dat dk_X12_matches 100 rfl) ?_
          exact to_zret rfl (dat dk_X12_matches 101 rfl) (by decide) (ri_mk (by decide) ⟨Ih6, fh6, (by decide)⟩)
        · skip
          refine to_iconst (dat dk_X12_matches 98 rfl) (to_goto (dat dk_X12_matches 99 rfl) rfl ?_)
          exact to_zret rfl (dat dk_X12_matches 101 rfl) (by decide) (ri_mk (by decide) ⟨Ih6, fh6, (by decide)⟩)
    · skip
      refine to_aload_n (dat dk_X12_matches 8 rfl) rfl (to_getR 95 g_c13_122 (dat dk_X12_matches 9 rfl) (Ih6.atS rfl) (Ih6.atE rfl) (to_iload_n (dat dk_X12_matches 10 rfl) rfl ?_))
      obtain ⟨x22, ex22⟩ : ∃ y : Int, h6.2.2 95 (Int.toNat y5) = y := ⟨_, rfl⟩
      have rx22 := Ih6.atR (a := 95) (j := Int.toNat y5) rfl
      rw [ex22] at rx22
      refine to_ialdv ex22 (dat dk_X12_matches 11 rfl) (Ih6.atS rfl) rfl (by decide) (by omega) ?_
      have k23 : h.2.2 95 (Int.toNat y5) = x22 := (Fr.getF fh6 hI (by decide) rfl).symm.trans ex22
      have z24 := g2 (Int.toNat y5) (by omega)
      have z25 := htN_s h (x := y5) (by omega)
      rw [(show h.2.2 95 (Int.toNat y5) = x22 by omega)] at z24 z25
      have z26 := hs_c x22
      refine to_istore (L' := [(0, .inr (.inr 60)), (1, .inl m), (2, .inl y4), (3, .inl y5), (4, .inl x22)]) (dat dk_X12_matches 12 rfl) (by decide) rfl (to_iload (dat dk_X12_matches 13 rfl) rfl ?_)
      refine to_ifle 46 (dat dk_X12_matches 14 rfl) rfl (by omega) (fun c27 => ?_) (fun c27 => ?_)
      · skip
        refine to_iload (dat dk_X12_matches 27 rfl) rfl (to_iconst (dat dk_X12_matches 28 rfl) ?_)
        refine to_ine 79 (dat dk_X12_matches 29 rfl) rfl (by omega) (by decide) (fun c28 => ?_) (fun c28 => ?_)
        · skip
          refine to_iinc (L' := [(0, .inr (.inr 60)), (1, .inl m), (2, .inl (y4 + (-1))), (3, .inl y5), (4, .inl x22)]) (dat dk_X12_matches 47 rfl) rfl (by decide) rfl (to_aload_n (dat dk_X12_matches 48 rfl) rfl (to_getR 97 g_c13_128 (dat dk_X12_matches 49 rfl) (Ih6.atS rfl) (Ih6.atE rfl) (to_iload_n (dat dk_X12_matches 50 rfl) rfl (to_iconst (dat dk_X12_matches 51 rfl) (to_isub (dat dk_X12_matches 52 rfl) ?_)))))
          have jn149_n30 : ∀ (y29 : Int), (y29 = 0 ∨ y29 = 1) → To l E_X12_matches (149, [(0, .inr (.inr 60)), (1, .inl m), (2, .inl (y4 + (-1))), (3, .inl y5), (4, .inl x22)], [.inl y29, .inl ((y4 + (-1)) - 1), .inr (.inr 97)], h6, 0, 0) (Q_X12_matches h m) := by
            intro y29 ry29
            replace ry29 := z_lin ry29
            refine to_zastw (dat dk_X12_matches 87 rfl) (Ih6.atS rfl) rfl (by decide) (by omega) (by omega) ?_
            intro h33 wh33
            have I31 : Inv h33 := by rw [wh33]; exact Ih6.put (a := 97) (j := (Int.toNat ((y4 + (-1)) - 1))) (x := y29) (0) (1) rfl rfl (show (0 : Int) ≤ y29 ∧ y29 ≤ 1 by omega)
            have f32 : Fr [97, 98, 99, 260] h h33 := by rw [wh33]; exact Fr.putF (a := 97) (j := (Int.toNat ((y4 + (-1)) - 1))) (x := y29) fh6 rfl
            have t34 : Lkd h33 := by rw [wh33]; exact Lkd_wr rfl c11
            have t35 : LfOK h33 := by rw [wh33]; exact LfOK_wr rfl c12
            refine to_iinc (L' := [(0, .inr (.inr 60)), (1, .inl m), (2, .inl (y4 + (-1))), (3, .inl (y5 + 1)), (4, .inl x22)]) (dat dk_X12_matches 88 rfl) rfl (by decide) rfl (to_goto (dat dk_X12_matches 89 rfl) rfl ?_)
            refine to_pick [0, 1, 2, 3] rfl ?_
            have e36 : h33.2.2 60 46 = x2 := (by rw [wh33]; exact e16)
            have e37 : h33.2.2 60 45 = x3 := (by rw [wh33]; exact e17)
            exact ihn14 (n14 - 1) (by omega) (y4 + (-1)) (y5 + 1) h33 (by omega) (by omega) I31 f32 (show (y4 + (-1)) = htN h (Int.toNat (y5 + 1)) by omega) (show h33.2.2 60 46 = h.2.2 60 46 by omega) (show 0 ≤ (y5 + 1) by omega) (show 0 ≤ (y4 + (-1)) ∧ (y4 + (-1)) ≤ 810 by omega) t34 t35 (show h33.2.2 60 45 = h.2.2 60 45 by omega) (show h33.2.2 60 46 - (y5 + 1) ≤ ((n14 - 1 : Nat) : Int) by omega)
          refine to_iload (dat dk_X12_matches 53 rfl) rfl (to_bipush (dat dk_X12_matches 54 rfl) (by decide) ?_)
          refine to_ine 124 (dat dk_X12_matches 55 rfl) rfl (by omega) (by decide) (fun c38 => ?_) (fun c38 => ?_)
          · skip
            refine to_aload_n (dat dk_X12_matches 72 rfl) rfl (to_getR 97 g_c13_128 (dat dk_X12_matches 73 rfl) (Ih6.atS rfl) (Ih6.atE rfl) (to_iload_n (dat dk_X12_matches 74 rfl) rfl (to_iconst (dat dk_X12_matches 75 rfl) (to_isub (dat dk_X12_matches 76 rfl) ?_))))
            obtain ⟨x39, ex39⟩ : ∃ y : Int, h6.2.2 97 (Int.toNat ((y4 + (-1)) - 1)) = y := ⟨_, rfl⟩
            have rx39 := Ih6.atR (a := 97) (j := Int.toNat ((y4 + (-1)) - 1)) rfl
            rw [ex39] at rx39
            refine to_baldv (q := 2) ex39 (dat dk_X12_matches 77 rfl) (by decide) (Ih6.atS rfl) rfl (by decide) (by omega) ?_
            refine to_ifne 144 (dat dk_X12_matches 78 rfl) rfl (by omega) (fun c40 => ?_) (fun c40 => ?_)
            · skip
              refine to_iconst (dat dk_X12_matches 84 rfl) (to_goto (dat dk_X12_matches 85 rfl) rfl ?_)
              exact jn149_n30 1 (by decide)
            · skip
              refine to_aload_n (dat dk_X12_matches 79 rfl) rfl (to_getR 97 g_c13_128 (dat dk_X12_matches 80 rfl) (Ih6.atS rfl) (Ih6.atE rfl) (to_iload_n (dat dk_X12_matches 81 rfl) rfl ?_))
              obtain ⟨x41, ex41⟩ : ∃ y : Int, h6.2.2 97 (Int.toNat (y4 + (-1))) = y := ⟨_, rfl⟩
              have rx41 := Ih6.atR (a := 97) (j := Int.toNat (y4 + (-1))) rfl
              rw [ex41] at rx41
              refine to_baldv (q := 2) ex41 (dat dk_X12_matches 82 rfl) (by decide) (Ih6.atS rfl) rfl (by decide) (by omega) ?_
              refine to_ifeq 148 (dat dk_X12_matches 83 rfl) rfl (by omega) (fun c42 => ?_) (fun c42 => ?_)
              · skip
                refine to_iconst (dat dk_X12_matches 86 rfl) ?_
                exact jn149_n30 0 (by decide)
              · skip
                refine to_iconst (dat dk_X12_matches 84 rfl) (to_goto (dat dk_X12_matches 85 rfl) rfl ?_)
                exact jn149_n30 1 (by decide)
          · skip
            refine to_aload_n (dat dk_X12_matches 56 rfl) rfl (to_getR 97 g_c13_128 (dat dk_X12_matches 57 rfl) (Ih6.atS rfl) (Ih6.atE rfl) (to_iload_n (dat dk_X12_matches 58 rfl) rfl (to_iconst (dat dk_X12_matches 59 rfl) (to_isub (dat dk_X12_matches 60 rfl) ?_))))
            obtain ⟨x43, ex43⟩ : ∃ y : Int, h6.2.2 97 (Int.toNat ((y4 + (-1)) - 1)) = y := ⟨_, rfl⟩
            have rx43 := Ih6.atR (a := 97) (j := Int.toNat ((y4 + (-1)) - 1)) rfl
            rw [ex43] at rx43
            refine to_baldv (q := 2) ex43 (dat dk_X12_matches 61 rfl) (by decide) (Ih6.atS rfl) rfl (by decide) (by omega) ?_
            refine to_ifeq 120 (dat dk_X12_matches 62 rfl) rfl (by omega) (fun c44 => ?_) (fun c44 => ?_)
            · skip
              refine to_iconst (dat dk_X12_matches 70 rfl) (to_goto (dat dk_X12_matches 71 rfl) rfl ?_)
              exact jn149_n30 0 (by decide)
            · skip
              refine to_aload_n (dat dk_X12_matches 63 rfl) rfl (to_getR 97 g_c13_128 (dat dk_X12_matches 64 rfl) (Ih6.atS rfl) (Ih6.atE rfl) (to_iload_n (dat dk_X12_matches 65 rfl) rfl ?_))
              obtain ⟨x45, ex45⟩ : ∃ y : Int, h6.2.2 97 (Int.toNat (y4 + (-1))) = y := ⟨_, rfl⟩
              have rx45 := Ih6.atR (a := 97) (j := Int.toNat (y4 + (-1))) rfl
              rw [ex45] at rx45
              refine to_baldv (q := 2) ex45 (dat dk_X12_matches 66 rfl) (by decide) (Ih6.atS rfl) rfl (by decide) (by omega) ?_
              refine to_ifeq 120 (dat dk_X12_matches 67 rfl) rfl (by omega) (fun c46 => ?_) (fun c46 => ?_)
              · skip
                refine to_iconst (dat dk_X12_matches 70 rfl) (to_goto (dat dk_X12_matches 71 rfl) rfl ?_)
                exact jn149_n30 0 (by decide)
              · skip
                refine to_iconst (dat dk_X12_matches 68 rfl) (to_goto (dat dk_X12_matches 69 rfl) rfl ?_)
                exact jn149_n30 1 (by decide)
        · skip
          refine to_aload_n (dat dk_X12_matches 30 rfl) rfl (to_getR 97 g_c13_128 (dat dk_X12_matches 31 rfl) (Ih6.atS rfl) (Ih6.atE rfl) (to_iload_n (dat dk_X12_matches 32 rfl) rfl (to_iconst (dat dk_X12_matches 33 rfl) (to_isub (dat dk_X12_matches 34 rfl) ?_))))
          have jn75_n48 : ∀ (y47 : Int), (y47 = 0 ∨ y47 = 1) → To l E_X12_matches (75, [(0, .inr (.inr 60)), (1, .inl m), (2, .inl y4), (3, .inl y5), (4, .inl x22)], [.inl y47, .inl (y4 - 1), .inr (.inr 97)], h6, 0, 0) (Q_X12_matches h m) := by
            intro y47 ry47
            replace ry47 := z_lin ry47
            refine to_zastw (dat dk_X12_matches 45 rfl) (Ih6.atS rfl) rfl (by decide) (by omega) (by omega) ?_
            intro h51 wh51
            have I49 : Inv h51 := by rw [wh51]; exact Ih6.put (a := 97) (j := (Int.toNat (y4 - 1))) (x := y47) (0) (1) rfl rfl (show (0 : Int) ≤ y47 ∧ y47 ≤ 1 by omega)
            have f50 : Fr [97, 98, 99, 260] h h51 := by rw [wh51]; exact Fr.putF (a := 97) (j := (Int.toNat (y4 - 1))) (x := y47) fh6 rfl
            have t52 : Lkd h51 := by rw [wh51]; exact Lkd_wr rfl c11
            have t53 : LfOK h51 := by rw [wh51]; exact LfOK_wr rfl c12
            refine to_goto (dat dk_X12_matches 46 rfl) rfl (to_iinc (L' := [(0, .inr (.inr 60)), (1, .inl m), (2, .inl y4), (3, .inl (y5 + 1)), (4, .inl x22)]) (dat dk_X12_matches 88 rfl) rfl (by decide) rfl (to_goto (dat dk_X12_matches 89 rfl) rfl ?_))
            refine to_pick [0, 1, 2, 3] rfl ?_
            have e54 : h51.2.2 60 46 = x2 := (by rw [wh51]; exact e16)
            have e55 : h51.2.2 60 45 = x3 := (by rw [wh51]; exact e17)
            exact ihn14 (n14 - 1) (by omega) y4 (y5 + 1) h51 ry4 (by omega) I49 f50 (show y4 = htN h (Int.toNat (y5 + 1)) by omega) (show h51.2.2 60 46 = h.2.2 60 46 by omega) (show 0 ≤ (y5 + 1) by omega) (show 0 ≤ y4 ∧ y4 ≤ 810 by omega) t52 t53 (show h51.2.2 60 45 = h.2.2 60 45 by omega) (show h51.2.2 60 46 - (y5 + 1) ≤ ((n14 - 1 : Nat) : Int) by omega)
          refine to_aload_n (dat dk_X12_matches 35 rfl) rfl (to_getR 97 g_c13_128 (dat dk_X12_matches 36 rfl) (Ih6.atS rfl) (Ih6.atE rfl) (to_iload_n (dat dk_X12_matches 37 rfl) rfl (to_iconst (dat dk_X12_matches 38 rfl) (to_isub (dat dk_X12_matches 39 rfl) ?_))))
          obtain ⟨x56, ex56⟩ : ∃ y : Int, h6.2.2 97 (Int.toNat (y4 - 1)) = y := ⟨_, rfl⟩
          have rx56 := Ih6.atR (a := 97) (j := Int.toNat (y4 - 1)) rfl
          rw [ex56] at rx56
          refine to_baldv (q := 2) ex56 (dat dk_X12_matches 40 rfl) (by decide) (Ih6.atS rfl) rfl (by decide) (by omega) ?_
          refine to_ifne 74 (dat dk_X12_matches 41 rfl) rfl (by omega) (fun c57 => ?_) (fun c57 => ?_)
          · skip
            refine to_iconst (dat dk_X12_matches 44 rfl) ?_
            exact jn75_n48 0 (by decide)
          · skip
            refine to_iconst (dat dk_X12_matches 42 rfl) (to_goto (dat dk_X12_matches 43 rfl) rfl ?_)
            exact jn75_n48 1 (by decide)
      · skip
        refine to_aload_n (dat dk_X12_matches 15 rfl) rfl (to_getR 97 g_c13_128 (dat dk_X12_matches 16 rfl) (Ih6.atS rfl) (Ih6.atE rfl) (to_iload_n (dat dk_X12_matches 17 rfl) rfl (to_aload_n (dat dk_X12_matches 18 rfl) rfl (to_iload_n (dat dk_X12_matches 19 rfl) rfl (to_iload (dat dk_X12_matches 20 rfl) rfl (to_iconst (dat dk_X12_matches 21 rfl) (to_isub (dat dk_X12_matches 22 rfl) ?_)))))))
        have e58 : h6.2.2 60 37 = x1 := ((Fr.get fh6 (by have := hI.1.1; omega) rfl).trans ex1)
        refine to_cI ca_c13_493 (dat dk_X12_matches 23 rfl) (ct_X12_isLeaf l h6 Ih6 m hm (x22 - 1) (by omega) c11 c12 (show 0 ≤ m ∧ m ≤ 199 by omega) (by rw [show h6.2.2 87 = h.2.2 87 from fh6.arr hI (by decide) (fun _ => rfl)]; omega) (show 0 ≤ (x22 - 1) ∧ (x22 - 1) < h6.2.2 60 45 by omega)) rfl ⟨_, _, rfl, (Ih6.atS rfl)⟩ rfl (fun x59 h60 rx59 p61 => ?_)
        obtain ⟨Ih60, fh60, zx59⟩ := p61
        have f62 : Fr [97, 98, 99, 260] h h60 := Fr.sub fh6 fh60 rfl
        have t63 : Lkd h60 := Lkd_fr fh60 Ih6 rfl c11
        have t64 : LfOK h60 := LfOK_fr fh60 Ih6 rfl c12
        have rzx59 := z_lin zx59
        clear zx59
        clear rx59
        have rx59 := rzx59
        clear rzx59
        refine to_zastw (dat dk_X12_matches 24 rfl) (Ih60.atS rfl) rfl (by decide) (by omega) (by omega) ?_
        intro h67 wh67
        have I65 : Inv h67 := by rw [wh67]; exact Ih60.put (a := 97) (j := (Int.toNat y4)) (x := x59) (0) (1) rfl rfl (show (0 : Int) ≤ x59 ∧ x59 ≤ 1 by omega)
        have f66 : Fr [97, 98, 99, 260] h h67 := by rw [wh67]; exact Fr.putF (a := 97) (j := (Int.toNat y4)) (x := x59) f62 rfl
        have t68 : Lkd h67 := by rw [wh67]; exact Lkd_wr rfl t63
        have t69 : LfOK h67 := by rw [wh67]; exact LfOK_wr rfl t64
        refine to_iinc (L' := [(0, .inr (.inr 60)), (1, .inl m), (2, .inl (y4 + 1)), (3, .inl y5), (4, .inl x22)]) (dat dk_X12_matches 25 rfl) rfl (by decide) rfl (to_goto (dat dk_X12_matches 26 rfl) rfl (to_iinc (L' := [(0, .inr (.inr 60)), (1, .inl m), (2, .inl (y4 + 1)), (3, .inl (y5 + 1)), (4, .inl x22)]) (dat dk_X12_matches 88 rfl) rfl (by decide) rfl (to_goto (dat dk_X12_matches 89 rfl) rfl ?_)))
        refine to_pick [0, 1, 2, 3] rfl ?_
        have e70 : h67.2.2 60 46 = x2 := (by rw [wh67]; exact (show h60.2.2 60 46 = x2 from ((Fr.get fh60 (by have := Ih6.1.1; omega) rfl).trans e16)))
        have e71 : h67.2.2 60 45 = x3 := (by rw [wh67]; exact (show h60.2.2 60 45 = x3 from ((Fr.get fh60 (by have := Ih6.1.1; omega) rfl).trans e17)))
        exact ihn14 (n14 - 1) (by omega) (y4 + 1) (y5 + 1) h67 (by omega) (by omega) I65 f66 (show (y4 + 1) = htN h (Int.toNat (y5 + 1)) by omega) (show h67.2.2 60 46 = h.2.2 60 46 by omega) (show 0 ≤ (y5 + 1) by omega) (show 0 ≤ (y4 + 1) ∧ (y4 + 1) ≤ 810 by omega) t68 t69 (show h67.2.2 60 45 = h.2.2 60 45 by omega) (show h67.2.2 60 46 - (y5 + 1) ≤ ((n14 - 1 : Nat) : Int) by omega)
  exact lp4_n14 (h.2.2 60 46 - (0 : Int)).toNat 0 0 h (by decide) (by decide) hI (Fr.rf _ _) (show (0 : Int) = htN h (Int.toNat 0) from rfl) (show h.2.2 60 46 = h.2.2 60 46 by omega) (show 0 ≤ (0 : Int) by omega) (show 0 ≤ (0 : Int) ∧ (0 : Int) ≤ 810 by omega) g0 g1 (show h.2.2 60 45 = h.2.2 60 45 by omega) (by omega)
abbrev Q_X12_search (h : Hp) : Option V → Hp → Nat → Nat → Prop := RI (fun x H => Inv H ∧ Fr [69, 70, 71, 72, 73, 74, 75, 76, 77, 78, 79, 80, 81, 82, 83, 84, 85, 86, 87, 212, 216, 218, 219, 223, 225, 226, 228, 229, 233, 236, 237, 88, 244, 200, 203, 89, 90, 91, 92, 93, 94, 95, 96, 245, 246, 247, 248, 97, 98, 99, 260, 262, 100, 102] h H ∧ (Cch H) ∧ (H.2.2 60 3 = 0))
set_option maxRecDepth 100000 in
theorem ct_X12_search (l : Launch) (h : Hp) (hI : Inv h) (g0 : Cch h) (g1 : h.2.2 60 4 ≤ 64) : Ct l D_X12_search 9 217 [.inr (.inr 60)] h (Q_X12_search h) := by
  refine ct_of pn_X12_search (Nat.le_of_ble_eq_true rfl) ?_
  show To l E_X12_search (0, [(0, .inr (.inr 60))], [], h, 0, 0) _
  obtain ⟨x1, ex1⟩ : ∃ y : Int, h.2.2 60 3 = y := ⟨_, rfl⟩
  have rx1 := hI.atR (a := 60) (j := 3) rfl
  rw [ex1] at rx1
  obtain ⟨x2, ex2⟩ : ∃ y : Int, h.2.2 60 4 = y := ⟨_, rfl⟩
  have rx2 := hI.atR (a := 60) (j := 4) rfl
  rw [ex2] at rx2
  obtain ⟨x3, ex3⟩ : ∃ y : Int, h.2.2 60 62 = y := ⟨_, rfl⟩
  have rx3 := hI.atR (a := 60) (j := 62) rfl
  rw [ex3] at rx3
  refine to_aload_n (dat dk_X12_search 0 rfl) rfl (to_aload_n (dat dk_X12_search 1 rfl) rfl ?_)
  refine to_cI ca_c13_502 (dat dk_X12_search 2 rfl) (ct_X12_take l h hI ) rfl ⟨_, _, rfl, (hI.atS rfl)⟩ rfl (fun x4 h5 rx4 p6 => ?_)
  obtain ⟨Ih5, fh5, p6_0, p6_1⟩ := p6
  have f7 : Fr [69, 70, 71, 72, 73, 74, 75, 76, 77, 78, 79, 80, 81, 82, 83, 84, 85, 86, 87, 212, 216, 218, 219, 223, 225, 226, 228, 229, 233, 236, 237, 88, 244, 200, 203, 89, 90, 91, 92, 93, 94, 95, 96, 245, 246, 247, 248, 97, 98, 99, 260, 262, 100, 102] h h5 := Fr.sub (Fr.rf _ _) fh5 rfl
  have t8 : Cch h5 := Cch_fr fh5 hI rfl g0
  obtain ⟨x9, ex9⟩ : ∃ y : Int, h5.2.2 60 3 = y := ⟨_, rfl⟩
  have rx9 := Ih5.atR (a := 60) (j := 3) rfl
  rw [ex9] at rx9
  refine to_putIw p_c13_412 (dat dk_X12_search 3 rfl) (Ih5.atS rfl) ?_
  intro h12 wh12
  have I10 : Inv h12 := by rw [wh12]; exact Ih5.put (a := 60) (j := 44) (x := x4) (0) (1200) rfl rfl (show (0 : Int) ≤ x4 ∧ x4 ≤ 1200 by omega)
  have f11 : Fr [69, 70, 71, 72, 73, 74, 75, 76, 77, 78, 79, 80, 81, 82, 83, 84, 85, 86, 87, 212, 216, 218, 219, 223, 225, 226, 228, 229, 233, 236, 237, 88, 244, 200, 203, 89, 90, 91, 92, 93, 94, 95, 96, 245, 246, 247, 248, 97, 98, 99, 260, 262, 100, 102] h h12 := by rw [wh12]; exact Fr.putF (a := 60) (j := 44) (x := x4) f7 rfl
  have t13 : Cch h12 := by rw [wh12]; exact Cch_wr rfl t8
  refine to_iconst (dat dk_X12_search 4 rfl) (to_istore_n (L' := [(0, .inr (.inr 60)), (1, .inl 0)]) (dat dk_X12_search 5 rfl) (by decide) rfl ?_)
  have e18 : h12.2.2 60 3 = x9 := (by rw [wh12]; exact ex9)
  have e22 : h12.2.2 60 44 = x4 := (by rw [wh12]; exact wr_eq)
  have lp10_n20 : ∀ (n20 : Nat) (y14 : Int) (h15 : Hp), (I32 y14) → (Inv h15) → (Fr [69, 70, 71, 72, 73, 74, 75, 76, 77, 78, 79, 80, 81, 82, 83, 84, 85, 86, 87, 212, 216, 218, 219, 223, 225, 226, 228, 229, 233, 236, 237, 88, 244, 200, 203, 89, 90, 91, 92, 93, 94, 95, 96, 245, 246, 247, 248, 97, 98, 99, 260, 262, 100, 102] h h15) → (0 ≤ y14) → (Cch h15) → (h15.2.2 60 3 = 0) → (h15.2.2 60 44 - y14 ≤ (n20 : Int)) → To l E_X12_search (10, [(0, .inr (.inr 60)), (1, .inl y14)], [], h15, 0, 0) (Q_X12_search h) := by
    intro n20
    induction n20 using Nat.strongRecOn with
    | _ n20 ihn20 =>
    intro y14 h15 ry14 Ih15 fh15 c16 c17 c19 c21
    obtain ⟨x23, ex23⟩ : ∃ y : Int, h15.2.2 60 3 = y := ⟨_, rfl⟩
    have rx23 := Ih15.atR (a := 60) (j := 3) rfl
    rw [ex23] at rx23
    refine to_iload_n (dat dk_X12_search 6 rfl) rfl (to_aload_n (dat dk_X12_search 7 rfl) rfl ?_)
    obtain ⟨x24, ex24⟩ : ∃ y : Int, h15.2.2 60 44 = y := ⟨_, rfl⟩
    have rx24 := Ih15.atR (a := 60) (j := 44) rfl
    rw [ex24] at rx24
    refine to_getIv (y := x24) ex24 g_c13_412 (dat dk_X12_search 8 rfl) (Ih15.atS rfl) ?_
    refine to_ige 36 (dat dk_X12_search 9 rfl) rfl ry14 (by omega) (fun c25 => ?_) (fun c25 => ?_)
    · skip
      refine to_aload_n (dat dk_X12_search 20 rfl) rfl ?_
      have jn49_n32 : ∀ (y26 : Int) (h27 : Hp), (y26 = 0 ∨ y26 = 1) → (Inv h27) → (Fr [69, 70, 71, 72, 73, 74, 75, 76, 77, 78, 79, 80, 81, 82, 83, 84, 85, 86, 87, 212, 216, 218, 219, 223, 225, 226, 228, 229, 233, 236, 237, 88, 244, 200, 203, 89, 90, 91, 92, 93, 94, 95, 96, 245, 246, 247, 248, 97, 98, 99, 260, 262, 100, 102] h h27) → (Cch h27) → (h27.2.2 60 3 = 0) → (Val h27) → (LfOK h27) → To l E_X12_search (49, [(0, .inr (.inr 60)), (1, .inl y14)], [.inl y26, .inr (.inr 60)], h27, 0, 0) (Q_X12_search h) := by
        intro y26 h27 ry26 Ih27 fh27 c28 c29 c30 c31
        replace ry26 := z_lin ry26
        obtain ⟨x33, ex33⟩ : ∃ y : Int, h27.2.2 60 3 = y := ⟨_, rfl⟩
        have rx33 := Ih27.atR (a := 60) (j := 3) rfl
        rw [ex33] at rx33
        refine to_putIw p_c13_154 (dat dk_X12_search 27 rfl) (Ih27.atS rfl) ?_
        intro h36 wh36
        have I34 : Inv h36 := by rw [wh36]; exact Ih27.put (a := 60) (j := 0) (x := y26) (0) (3) rfl rfl (show (0 : Int) ≤ y26 ∧ y26 ≤ 3 by omega)
        have f35 : Fr [69, 70, 71, 72, 73, 74, 75, 76, 77, 78, 79, 80, 81, 82, 83, 84, 85, 86, 87, 212, 216, 218, 219, 223, 225, 226, 228, 229, 233, 236, 237, 88, 244, 200, 203, 89, 90, 91, 92, 93, 94, 95, 96, 245, 246, 247, 248, 97, 98, 99, 260, 262, 100, 102] h h36 := by rw [wh36]; exact Fr.putF (a := 60) (j := 0) (x := y26) fh27 rfl
        have t37 : Cch h36 := by rw [wh36]; exact Cch_wr rfl c28
        have t38 : Val h36 := by rw [wh36]; exact Val_wr rfl c30
        have t39 : LfOK h36 := by rw [wh36]; exact LfOK_wr rfl c31
        refine to_aload_n (dat dk_X12_search 28 rfl) rfl (to_getIv (y := y26) (by rw [wh36]; exact wr_eq) g_c13_154 (dat dk_X12_search 29 rfl) (I34.atS rfl) ?_)
        refine to_ifle 61 (dat dk_X12_search 30 rfl) rfl (z_i32 ry26) (fun c40 => ?_) (fun c40 => ?_)
        · skip
          refine to_aload_n (dat dk_X12_search 33 rfl) rfl ?_
          have e41 : h36.2.2 60 4 = x2 := (by rw [wh36]; exact (show h27.2.2 60 4 = x2 from ((Fr.get fh27 (by have := hI.1.1; omega) rfl).trans ex2)))
          refine to_cV ca_c13_518 (dat dk_X12_search 34 rfl) (ct_X12_link l h36 I34 t37 (show h36.2.2 60 4 ≤ 64 by omega)) rfl ⟨_, _, rfl, (I34.atS rfl)⟩ rfl (fun h43 p44 => ?_)
          obtain ⟨Ih43, fh43, p44_0, p44_1⟩ := p44
          have f45 : Fr [69, 70, 71, 72, 73, 74, 75, 76, 77, 78, 79, 80, 81, 82, 83, 84, 85, 86, 87, 212, 216, 218, 219, 223, 225, 226, 228, 229, 233, 236, 237, 88, 244, 200, 203, 89, 90, 91, 92, 93, 94, 95, 96, 245, 246, 247, 248, 97, 98, 99, 260, 262, 100, 102] h h43 := Fr.sub f35 fh43 rfl
          have t46 : Val h43 := Val_fr fh43 I34 rfl t38
          have t47 : LfOK h43 := LfOK_fr fh43 I34 rfl t39
          refine to_aload_n (dat dk_X12_search 35 rfl) rfl (to_iconst (dat dk_X12_search 36 rfl) (to_putIw p_c13_521 (dat dk_X12_search 37 rfl) (Ih43.atS rfl) ?_))
          intro h50 wh50
          have I48 : Inv h50 := by rw [wh50]; exact Ih43.put (a := 60) (j := 62) (x := 0) (0) (200) rfl rfl (show (0 : Int) ≤ 0 ∧ 0 ≤ 200 by decide)
          have f49 : Fr [69, 70, 71, 72, 73, 74, 75, 76, 77, 78, 79, 80, 81, 82, 83, 84, 85, 86, 87, 212, 216, 218, 219, 223, 225, 226, 228, 229, 233, 236, 237, 88, 244, 200, 203, 89, 90, 91, 92, 93, 94, 95, 96, 245, 246, 247, 248, 97, 98, 99, 260, 262, 100, 102] h h50 := by rw [wh50]; exact Fr.putF (a := 60) (j := 62) (x := 0) f45 rfl
          have t51 : Cch h50 := by rw [wh50]; exact Cch_wr rfl p44_1
          have t52 : Val h50 := by rw [wh50]; exact Val_wr rfl t46
          have t53 : LfOK h50 := by rw [wh50]; exact LfOK_wr rfl t47
          have t54 : Lkd h50 := by rw [wh50]; exact Lkd_wr rfl p44_0
          refine to_iconst (dat dk_X12_search 38 rfl) (to_istore_n (L' := [(0, .inr (.inr 60)), (1, .inl 0)]) (dat dk_X12_search 39 rfl) (by decide) rfl ?_)
          have e58 : h50.2.2 60 62 = (0 : Int) := (by rw [wh50]; exact wr_eq)
          have e61 : h50.2.2 60 3 = x33 := (by rw [wh50]; exact (show h43.2.2 60 3 = x33 from ((Fr.get fh43 (by have := I34.1.1; omega) rfl).trans (by rw [wh36]; exact ex33))))
          have e66 : h50.2.2 60 4 = x2 := (by rw [wh50]; exact (show h43.2.2 60 4 = x2 from ((Fr.get fh43 (by have := I34.1.1; omega) rfl).trans e41)))
          have lp72_n68 : ∀ (n68 : Nat) (y55 : Int) (h56 : Hp), (I32 y55) → (Inv h56) → (Fr [69, 70, 71, 72, 73, 74, 75, 76, 77, 78, 79, 80, 81, 82, 83, 84, 85, 86, 87, 212, 216, 218, 219, 223, 225, 226, 228, 229, 233, 236, 237, 88, 244, 200, 203, 89, 90, 91, 92, 93, 94, 95, 96, 245, 246, 247, 248, 97, 98, 99, 260, 262, 100, 102] h h56) → (0 ≤ y55) → (h56.2.2 60 62 ≤ y55) → (Cch h56) → (h56.2.2 60 3 = 0) → (Val h56) → (LfOK h56) → (Lkd h56) → (h56.2.2 60 4 = h.2.2 60 4) → (h56.2.2 60 4 - y55 ≤ (n68 : Int)) → To l E_X12_search (72, [(0, .inr (.inr 60)), (1, .inl y55)], [], h56, 0, 0) (Q_X12_search h) := by
            intro n68
            induction n68 using Nat.strongRecOn with
            | _ n68 ihn68 =>
            intro y55 h56 ry55 Ih56 fh56 c57 c59 c60 c62 c63 c64 c65 c67 c69
            obtain ⟨x70, ex70⟩ : ∃ y : Int, h56.2.2 60 62 = y := ⟨_, rfl⟩
            have rx70 := Ih56.atR (a := 60) (j := 62) rfl
            rw [ex70] at rx70
            obtain ⟨x71, ex71⟩ : ∃ y : Int, h56.2.2 60 3 = y := ⟨_, rfl⟩
            have rx71 := Ih56.atR (a := 60) (j := 3) rfl
            rw [ex71] at rx71
            have e72 : h56.2.2 60 4 = x2 := ((Fr.get fh56 (by have := hI.1.1; omega) rfl).trans ex2)
            refine to_iload_n (dat dk_X12_search 40 rfl) rfl (to_aload_n (dat dk_X12_search 41 rfl) rfl (to_getIv (y := x2) e72 g_c13_382 (dat dk_X12_search 42 rfl) (Ih56.atS rfl) ?_))
            refine to_ige 193 (dat dk_X12_search 43 rfl) rfl ry55 (by omega) (fun c73 => ?_) (fun c73 => ?_)
            · skip
              refine to_aload_n (dat dk_X12_search 109 rfl) rfl (to_getIv (y := x70) ex70 g_c13_521 (dat dk_X12_search 110 rfl) (Ih56.atS rfl) ?_)
              exact to_iret rfl (dat dk_X12_search 111 rfl) (ri_mk (by omega) ⟨Ih56, fh56, c60, (show h56.2.2 60 3 = 0 by omega)⟩)
            · skip
              refine to_aload_n (dat dk_X12_search 44 rfl) rfl (to_getR 65 g_c13_24 (dat dk_X12_search 45 rfl) (Ih56.atS rfl) (Ih56.atE rfl) (to_iload_n (dat dk_X12_search 46 rfl) rfl ?_))
              obtain ⟨x74, ex74⟩ : ∃ y : Int, h56.2.2 65 (Int.toNat y55) = y := ⟨_, rfl⟩
              have rx74 := Ih56.atR (a := 65) (j := Int.toNat y55) rfl
              rw [ex74] at rx74
              refine to_baldv (q := 2) ex74 (dat dk_X12_search 47 rfl) (by decide) (Ih56.atS rfl) rfl (by decide) (by omega) ?_
              have k75 : h.2.2 65 (Int.toNat y55) = x74 := (Fr.getF fh56 hI (by decide) rfl).symm.trans ex74
              refine to_ifne 92 (dat dk_X12_search 48 rfl) rfl (by omega) (fun c76 => ?_) (fun c76 => ?_)
              · skip
                refine to_aload_n (dat dk_X12_search 50 rfl) rfl (to_iload_n (dat dk_X12_search 51 rfl) rfl ?_)
                refine to_cV ca_c13_373 (dat dk_X12_search 52 rfl) (ct_X12_read l h56 Ih56 y55 ry55 c60 (show 0 ≤ y55 ∧ y55 < h56.2.2 60 4 by omega)) rfl ⟨_, _, rfl, (Ih56.atS rfl)⟩ rfl (fun h78 p79 => ?_)
                obtain ⟨Ih78, fh78, p79_0, p79_1⟩ := p79
                have f80 : Fr [69, 70, 71, 72, 73, 74, 75, 76, 77, 78, 79, 80, 81, 82, 83, 84, 85, 86, 87, 212, 216, 218, 219, 223, 225, 226, 228, 229, 233, 236, 237, 88, 244, 200, 203, 89, 90, 91, 92, 93, 94, 95, 96, 245, 246, 247, 248, 97, 98, 99, 260, 262, 100, 102] h h78 := Fr.sub fh56 fh78 rfl
                have t81 : Val h78 := Val_fr fh78 Ih56 rfl c63
                have t82 : LfOK h78 := LfOK_fr fh78 Ih56 rfl c64
                have t83 : Lkd h78 := Lkd_fr fh78 Ih56 rfl c65
                obtain ⟨x84, ex84⟩ : ∃ y : Int, h78.2.2 60 12 = y := ⟨_, rfl⟩
                have rx84 := Ih78.atR (a := 60) (j := 12) rfl
                rw [ex84] at rx84
                refine to_aload_n (dat dk_X12_search 53 rfl) rfl (to_getR 102 g_c13_143 (dat dk_X12_search 54 rfl) (Ih78.atS rfl) (Ih78.atE rfl) (to_iload_n (dat dk_X12_search 55 rfl) rfl (to_aload_n (dat dk_X12_search 56 rfl) rfl ?_)))
                refine to_getL g_c13_360 (dat dk_X12_search 57 rfl) (Ih78.atS rfl) ?_
                generalize h78.2.2 60 16 = w85
                refine to_lastw (dat dk_X12_search 58 rfl) (Ih78.atS rfl) rfl (by decide) (by omega) ?_
                intro h88 wh88
                have I86 : Inv h88 := by rw [wh88]; exact Ih78.putL (x := w85) (a := 102) (j := (Int.toNat y55)) rfl
                have f87 : Fr [69, 70, 71, 72, 73, 74, 75, 76, 77, 78, 79, 80, 81, 82, 83, 84, 85, 86, 87, 212, 216, 218, 219, 223, 225, 226, 228, 229, 233, 236, 237, 88, 244, 200, 203, 89, 90, 91, 92, 93, 94, 95, 96, 245, 246, 247, 248, 97, 98, 99, 260, 262, 100, 102] h h88 := by rw [wh88]; exact Fr.putF (a := 102) (j := (Int.toNat y55)) (x := w85) f80 rfl
                have t89 : Cch h88 := by rw [wh88]; exact Cch_wr rfl p79_0
                have t90 : Val h88 := by rw [wh88]; exact Val_wr rfl t81
                have t91 : LfOK h88 := by rw [wh88]; exact LfOK_wr rfl t82
                have t92 : Lkd h88 := by rw [wh88]; exact Lkd_wr rfl t83
                refine to_aload_n (dat dk_X12_search 59 rfl) rfl (to_iload_n (dat dk_X12_search 60 rfl) rfl ?_)
                have e94 : h88.2.2 60 4 = x2 := (by rw [wh88]; exact (show h78.2.2 60 4 = x2 from ((Fr.get fh78 (by have := Ih56.1.1; omega) rfl).trans e72)))
                have z93 := t92.2.2 (Int.toNat y55) (by omega)
                rw [show h88.2.2 65 = h.2.2 65 from f87.arr hI (by decide) (fun _ => rfl)] at z93
                refine to_cI ca_c13_524 (dat dk_X12_search 61 rfl) (ct_X12_matches l h88 I86 y55 ry55 t92 t91 t90 (show 0 ≤ y55 ∧ y55 ≤ 199 by omega) (show h88.2.2 87 (Int.toNat y55) < h88.2.2 60 37 by omega)) rfl ⟨_, _, rfl, (I86.atS rfl)⟩ rfl (fun x95 h96 rx95 p97 => ?_)
                obtain ⟨Ih96, fh96, zx95⟩ := p97
                have f98 : Fr [69, 70, 71, 72, 73, 74, 75, 76, 77, 78, 79, 80, 81, 82, 83, 84, 85, 86, 87, 212, 216, 218, 219, 223, 225, 226, 228, 229, 233, 236, 237, 88, 244, 200, 203, 89, 90, 91, 92, 93, 94, 95, 96, 245, 246, 247, 248, 97, 98, 99, 260, 262, 100, 102] h h96 := Fr.sub f87 fh96 rfl
                have t99 : Cch h96 := Cch_fr fh96 I86 rfl t89
                have t100 : Val h96 := Val_fr fh96 I86 rfl t90
                have t101 : LfOK h96 := LfOK_fr fh96 I86 rfl t91
                have t102 : Lkd h96 := Lkd_fr fh96 I86 rfl t92
                have rzx95 := z_lin zx95
                clear zx95
                clear rx95
                have rx95 := rzx95
                clear rzx95
                refine to_ifne 118 (dat dk_X12_search 62 rfl) rfl (z_i32 rx95) (fun c103 => ?_) (fun c103 => ?_)
                · skip
                  replace c103 := z_one rx95 c103
                  refine to_aload_n (dat dk_X12_search 64 rfl) rfl (to_getIv (y := x70) ((Fr.get fh96 (by have := I86.1.1; omega) rfl).trans (by rw [wh88]; exact (show h78.2.2 60 62 = x70 from ((Fr.get fh78 (by have := Ih56.1.1; omega) rfl).trans ex70)))) g_c13_521 (dat dk_X12_search 65 rfl) (Ih96.atS rfl) (to_istore_n (L' := [(0, .inr (.inr 60)), (1, .inl y55), (2, .inl x70)]) (dat dk_X12_search 66 rfl) (by decide) rfl ?_))
                  have e106 : h96.2.2 60 62 = x70 := ((Fr.get fh96 (by have := I86.1.1; omega) rfl).trans (by rw [wh88]; exact (show h78.2.2 60 62 = x70 from ((Fr.get fh78 (by have := Ih56.1.1; omega) rfl).trans ex70))))
                  have e110 : h96.2.2 60 3 = x71 := ((Fr.get fh96 (by have := I86.1.1; omega) rfl).trans (by rw [wh88]; exact (show h78.2.2 60 3 = x71 from ((Fr.get fh78 (by have := Ih56.1.1; omega) rfl).trans ex71))))
                  have e115 : h96.2.2 60 4 = x2 := ((Fr.get fh96 (by have := I86.1.1; omega) rfl).trans e94)
                  have lp123_n117 : ∀ (n117 : Nat) (y104 : Int) (h105 : Hp), (I32 y104) → (Inv h105) → (Fr [69, 70, 71, 72, 73, 74, 75, 76, 77, 78, 79, 80, 81, 82, 83, 84, 85, 86, 87, 212, 216, 218, 219, 223, 225, 226, 228, 229, 233, 236, 237, 88, 244, 200, 203, 89, 90, 91, 92, 93, 94, 95, 96, 245, 246, 247, 248, 97, 98, 99, 260, 262, 100, 102] h h105) → (0 ≤ y104 ∧ y104 ≤ h105.2.2 60 62) → (h105.2.2 60 62 ≤ y55) → (Cch h105) → (h105.2.2 60 3 = 0) → (Val h105) → (LfOK h105) → (Lkd h105) → (h105.2.2 60 4 = h.2.2 60 4) → (y104 ≤ (n117 : Int)) → To l E_X12_search (123, [(0, .inr (.inr 60)), (1, .inl y55), (2, .inl y104)], [], h105, 0, 0) (Q_X12_search h) := by
                    intro n117
                    induction n117 using Nat.strongRecOn with
                    | _ n117 ihn117 =>
                    intro y104 h105 ry104 Ih105 fh105 c107 c108 c109 c111 c112 c113 c114 c116 c118
                    obtain ⟨x119, ex119⟩ : ∃ y : Int, h105.2.2 60 62 = y := ⟨_, rfl⟩
                    have rx119 := Ih105.atR (a := 60) (j := 62) rfl
                    rw [ex119] at rx119
                    obtain ⟨x120, ex120⟩ : ∃ y : Int, h105.2.2 60 3 = y := ⟨_, rfl⟩
                    have rx120 := Ih105.atR (a := 60) (j := 3) rfl
                    rw [ex120] at rx120
                    have e121 : h105.2.2 60 4 = x2 := ((Fr.get fh105 (by have := hI.1.1; omega) rfl).trans ex2)
                    refine to_iload_n (dat dk_X12_search 67 rfl) rfl ?_
                    refine to_ifle 170 (dat dk_X12_search 68 rfl) rfl ry104 (fun c122 => ?_) (fun c122 => ?_)
                    · skip
                      refine to_aload_n (dat dk_X12_search 96 rfl) rfl (to_getR 100 g_c13_137 (dat dk_X12_search 97 rfl) (Ih105.atS rfl) (Ih105.atE rfl) (to_iload_n (dat dk_X12_search 98 rfl) rfl (to_iload_n (dat dk_X12_search 99 rfl) rfl (to_iastw (dat dk_X12_search 100 rfl) (Ih105.atS rfl) rfl (by decide) (by omega) ?_))))
                      intro h125 wh125
                      have I123 : Inv h125 := by rw [wh125]; exact Ih105.put (a := 100) (j := (Int.toNat y104)) (x := y55) (0) (199) rfl rfl (show (0 : Int) ≤ y55 ∧ y55 ≤ 199 by omega)
                      have f124 : Fr [69, 70, 71, 72, 73, 74, 75, 76, 77, 78, 79, 80, 81, 82, 83, 84, 85, 86, 87, 212, 216, 218, 219, 223, 225, 226, 228, 229, 233, 236, 237, 88, 244, 200, 203, 89, 90, 91, 92, 93, 94, 95, 96, 245, 246, 247, 248, 97, 98, 99, 260, 262, 100, 102] h h125 := by rw [wh125]; exact Fr.putF (a := 100) (j := (Int.toNat y104)) (x := y55) fh105 rfl
                      have t126 : Cch h125 := by rw [wh125]; exact Cch_wr rfl c109
                      have t127 : Val h125 := by rw [wh125]; exact Val_wr rfl c112
                      have t128 : LfOK h125 := by rw [wh125]; exact LfOK_wr rfl c113
                      have t129 : Lkd h125 := by rw [wh125]; exact Lkd_wr rfl c114
                      refine to_aload_n (dat dk_X12_search 101 rfl) rfl (to_dup (dat dk_X12_search 102 rfl) rfl (to_getIv (y := x119) (by rw [wh125]; exact ex119) g_c13_521 (dat dk_X12_search 103 rfl) (I123.atS rfl) (to_iconst (dat dk_X12_search 104 rfl) (to_iadd (dat dk_X12_search 105 rfl) (to_putIw p_c13_521 (dat dk_X12_search 106 rfl) (I123.atS rfl) ?_)))))
                      intro h132 wh132
                      have I130 : Inv h132 := by rw [wh132]; exact I123.put (a := 60) (j := 62) (x := (x119 + 1)) (0) (200) rfl rfl (show (0 : Int) ≤ (x119 + 1) ∧ (x119 + 1) ≤ 200 by omega)
                      have f131 : Fr [69, 70, 71, 72, 73, 74, 75, 76, 77, 78, 79, 80, 81, 82, 83, 84, 85, 86, 87, 212, 216, 218, 219, 223, 225, 226, 228, 229, 233, 236, 237, 88, 244, 200, 203, 89, 90, 91, 92, 93, 94, 95, 96, 245, 246, 247, 248, 97, 98, 99, 260, 262, 100, 102] h h132 := by rw [wh132]; exact Fr.putF (a := 60) (j := 62) (x := (x119 + 1)) f124 rfl
                      have t133 : Cch h132 := by rw [wh132]; exact Cch_wr rfl t126
                      have t134 : Val h132 := by rw [wh132]; exact Val_wr rfl t127
                      have t135 : LfOK h132 := by rw [wh132]; exact LfOK_wr rfl t128
                      have t136 : Lkd h132 := by rw [wh132]; exact Lkd_wr rfl t129
                      refine to_iinc (L' := [(0, .inr (.inr 60)), (1, .inl (y55 + 1)), (2, .inl y104)]) (dat dk_X12_search 107 rfl) rfl (by decide) rfl (to_goto (dat dk_X12_search 108 rfl) rfl ?_)
                      refine to_pick [0, 1] rfl ?_
                      have e137 : h132.2.2 60 62 = (x119 + 1) := (by rw [wh132]; exact wr_eq)
                      have e138 : h132.2.2 60 3 = x120 := (by rw [wh132]; exact (show h125.2.2 60 3 = x120 from (by rw [wh125]; exact ex120)))
                      have e139 : h132.2.2 60 4 = x2 := (by rw [wh132]; exact (show h125.2.2 60 4 = x2 from (by rw [wh125]; exact e121)))
                      exact ihn68 (n68 - 1) (by omega) (y55 + 1) h132 (by omega) I130 f131 (show 0 ≤ (y55 + 1) by omega) (show h132.2.2 60 62 ≤ (y55 + 1) by omega) t133 (show h132.2.2 60 3 = 0 by omega) t134 t135 t136 (show h132.2.2 60 4 = h.2.2 60 4 by omega) (show h132.2.2 60 4 - (y55 + 1) ≤ ((n68 - 1 : Nat) : Int) by omega)
                    · skip
                      refine to_aload_n (dat dk_X12_search 69 rfl) rfl (to_getR 102 g_c13_143 (dat dk_X12_search 70 rfl) (Ih105.atS rfl) (Ih105.atE rfl) (to_aload_n (dat dk_X12_search 71 rfl) rfl (to_getR 100 g_c13_137 (dat dk_X12_search 72 rfl) (Ih105.atS rfl) (Ih105.atE rfl) (to_iload_n (dat dk_X12_search 73 rfl) rfl (to_iconst (dat dk_X12_search 74 rfl) (to_isub (dat dk_X12_search 75 rfl) ?_))))))
                      obtain ⟨x140, ex140⟩ : ∃ y : Int, h105.2.2 100 (Int.toNat (y104 - 1)) = y := ⟨_, rfl⟩
                      have rx140 := Ih105.atR (a := 100) (j := Int.toNat (y104 - 1)) rfl
                      rw [ex140] at rx140
                      refine to_ialdv ex140 (dat dk_X12_search 76 rfl) (Ih105.atS rfl) rfl (by decide) (by omega) ?_
                      refine to_lald (dat dk_X12_search 77 rfl) (Ih105.atS rfl) rfl (by decide) (by omega) ?_
                      generalize h105.2.2 102 (Int.toNat x140) = w141
                      refine to_aload_n (dat dk_X12_search 78 rfl) rfl (to_getR 102 g_c13_143 (dat dk_X12_search 79 rfl) (Ih105.atS rfl) (Ih105.atE rfl) (to_iload_n (dat dk_X12_search 80 rfl) rfl ?_))
                      refine to_lald (dat dk_X12_search 81 rfl) (Ih105.atS rfl) rfl (by decide) (by omega) ?_
                      generalize h105.2.2 102 (Int.toNat y55) = w142
                      refine to_lcmp (dat dk_X12_search 82 rfl) (fun x143 rx143 => ?_)
                      refine to_ifgt 170 (dat dk_X12_search 83 rfl) rfl rx143 (fun c144 => ?_) (fun c144 => ?_)
                      · skip
                        refine to_aload_n (dat dk_X12_search 96 rfl) rfl (to_getR 100 g_c13_137 (dat dk_X12_search 97 rfl) (Ih105.atS rfl) (Ih105.atE rfl) (to_iload_n (dat dk_X12_search 98 rfl) rfl (to_iload_n (dat dk_X12_search 99 rfl) rfl (to_iastw (dat dk_X12_search 100 rfl) (Ih105.atS rfl) rfl (by decide) (by omega) ?_))))
                        intro h147 wh147
                        have I145 : Inv h147 := by rw [wh147]; exact Ih105.put (a := 100) (j := (Int.toNat y104)) (x := y55) (0) (199) rfl rfl (show (0 : Int) ≤ y55 ∧ y55 ≤ 199 by omega)
                        have f146 : Fr [69, 70, 71, 72, 73, 74, 75, 76, 77, 78, 79, 80, 81, 82, 83, 84, 85, 86, 87, 212, 216, 218, 219, 223, 225, 226, 228, 229, 233, 236, 237, 88, 244, 200, 203, 89, 90, 91, 92, 93, 94, 95, 96, 245, 246, 247, 248, 97, 98, 99, 260, 262, 100, 102] h h147 := by rw [wh147]; exact Fr.putF (a := 100) (j := (Int.toNat y104)) (x := y55) fh105 rfl
                        have t148 : Cch h147 := by rw [wh147]; exact Cch_wr rfl c109
                        have t149 : Val h147 := by rw [wh147]; exact Val_wr rfl c112
                        have t150 : LfOK h147 := by rw [wh147]; exact LfOK_wr rfl c113
                        have t151 : Lkd h147 := by rw [wh147]; exact Lkd_wr rfl c114
                        refine to_aload_n (dat dk_X12_search 101 rfl) rfl (to_dup (dat dk_X12_search 102 rfl) rfl (to_getIv (y := x119) (by rw [wh147]; exact ex119) g_c13_521 (dat dk_X12_search 103 rfl) (I145.atS rfl) (to_iconst (dat dk_X12_search 104 rfl) (to_iadd (dat dk_X12_search 105 rfl) (to_putIw p_c13_521 (dat dk_X12_search 106 rfl) (I145.atS rfl) ?_)))))
                        intro h154 wh154
                        have I152 : Inv h154 := by rw [wh154]; exact I145.put (a := 60) (j := 62) (x := (x119 + 1)) (0) (200) rfl rfl (show (0 : Int) ≤ (x119 + 1) ∧ (x119 + 1) ≤ 200 by omega)
                        have f153 : Fr [69, 70, 71, 72, 73, 74, 75, 76, 77, 78, 79, 80, 81, 82, 83, 84, 85, 86, 87, 212, 216, 218, 219, 223, 225, 226, 228, 229, 233, 236, 237, 88, 244, 200, 203, 89, 90, 91, 92, 93, 94, 95, 96, 245, 246, 247, 248, 97, 98, 99, 260, 262, 100, 102] h h154 := by rw [wh154]; exact Fr.putF (a := 60) (j := 62) (x := (x119 + 1)) f146 rfl
                        have t155 : Cch h154 := by rw [wh154]; exact Cch_wr rfl t148
                        have t156 : Val h154 := by rw [wh154]; exact Val_wr rfl t149
                        have t157 : LfOK h154 := by rw [wh154]; exact LfOK_wr rfl t150
                        have t158 : Lkd h154 := by rw [wh154]; exact Lkd_wr rfl t151
                        refine to_iinc (L' := [(0, .inr (.inr 60)), (1, .inl (y55 + 1)), (2, .inl y104)]) (dat dk_X12_search 107 rfl) rfl (by decide) rfl (to_goto (dat dk_X12_search 108 rfl) rfl ?_)
                        refine to_pick [0, 1] rfl ?_
                        have e159 : h154.2.2 60 62 = (x119 + 1) := (by rw [wh154]; exact wr_eq)
                        have e160 : h154.2.2 60 3 = x120 := (by rw [wh154]; exact (show h147.2.2 60 3 = x120 from (by rw [wh147]; exact ex120)))
                        have e161 : h154.2.2 60 4 = x2 := (by rw [wh154]; exact (show h147.2.2 60 4 = x2 from (by rw [wh147]; exact e121)))
                        exact ihn68 (n68 - 1) (by omega) (y55 + 1) h154 (by omega) I152 f153 (show 0 ≤ (y55 + 1) by omega) (show h154.2.2 60 62 ≤ (y55 + 1) by omega) t155 (show h154.2.2 60 3 = 0 by omega) t156 t157 t158 (show h154.2.2 60 4 = h.2.2 60 4 by omega) (show h154.2.2 60 4 - (y55 + 1) ≤ ((n68 - 1 : Nat) : Int) by omega)
                      · skip
                        refine to_aload_n (dat dk_X12_search 84 rfl) rfl (to_getR 100 g_c13_137 (dat dk_X12_search 85 rfl) (Ih105.atS rfl) (Ih105.atE rfl) (to_iload_n (dat dk_X12_search 86 rfl) rfl (to_aload_n (dat dk_X12_search 87 rfl) rfl (to_getR 100 g_c13_137 (dat dk_X12_search 88 rfl) (Ih105.atS rfl) (Ih105.atE rfl) (to_iload_n (dat dk_X12_search 89 rfl) rfl (to_iconst (dat dk_X12_search 90 rfl) (to_isub (dat dk_X12_search 91 rfl) ?_)))))))
                        obtain ⟨x162, ex162⟩ : ∃ y : Int, h105.2.2 100 (Int.toNat (y104 - 1)) = y := ⟨_, rfl⟩
                        have rx162 := Ih105.atR (a := 100) (j := Int.toNat (y104 - 1)) rfl
                        rw [ex162] at rx162
                        refine to_ialdv ex162 (dat dk_X12_search 92 rfl) (Ih105.atS rfl) rfl (by decide) (by omega) (to_iastw (dat dk_X12_search 93 rfl) (Ih105.atS rfl) rfl (by decide) (by omega) ?_)
                        intro h165 wh165
                        have I163 : Inv h165 := by rw [wh165]; exact Ih105.put (a := 100) (j := (Int.toNat y104)) (x := x162) (0) (199) rfl rfl (show (0 : Int) ≤ x162 ∧ x162 ≤ 199 by omega)
                        have f164 : Fr [69, 70, 71, 72, 73, 74, 75, 76, 77, 78, 79, 80, 81, 82, 83, 84, 85, 86, 87, 212, 216, 218, 219, 223, 225, 226, 228, 229, 233, 236, 237, 88, 244, 200, 203, 89, 90, 91, 92, 93, 94, 95, 96, 245, 246, 247, 248, 97, 98, 99, 260, 262, 100, 102] h h165 := by rw [wh165]; exact Fr.putF (a := 100) (j := (Int.toNat y104)) (x := x162) fh105 rfl
                        have t166 : Cch h165 := by rw [wh165]; exact Cch_wr rfl c109
                        have t167 : Val h165 := by rw [wh165]; exact Val_wr rfl c112
                        have t168 : LfOK h165 := by rw [wh165]; exact LfOK_wr rfl c113
                        have t169 : Lkd h165 := by rw [wh165]; exact Lkd_wr rfl c114
                        refine to_iinc (L' := [(0, .inr (.inr 60)), (1, .inl y55), (2, .inl (y104 + (-1)))]) (dat dk_X12_search 94 rfl) rfl (by decide) rfl (to_goto (dat dk_X12_search 95 rfl) rfl ?_)
                        have e170 : h165.2.2 60 62 = x119 := (by rw [wh165]; exact ex119)
                        have e171 : h165.2.2 60 3 = x120 := (by rw [wh165]; exact ex120)
                        have e172 : h165.2.2 60 4 = x2 := (by rw [wh165]; exact e121)
                        exact ihn117 (n117 - 1) (by omega) (y104 + (-1)) h165 (by omega) I163 f164 (show 0 ≤ (y104 + (-1)) ∧ (y104 + (-1)) ≤ h165.2.2 60 62 by omega) (show h165.2.2 60 62 ≤ y55 by omega) t166 (show h165.2.2 60 3 = 0 by omega) t167 t168 t169 (show h165.2.2 60 4 = h.2.2 60 4 by omega) (show (y104 + (-1)) ≤ ((n117 - 1 : Nat) : Int) by omega)
                  exact lp123_n117 (x70).toNat x70 h96 (by omega) Ih96 f98 (show 0 ≤ x70 ∧ x70 ≤ h96.2.2 60 62 by omega) (show h96.2.2 60 62 ≤ y55 by omega) t99 (show h96.2.2 60 3 = 0 by omega) t100 t101 t102 (show h96.2.2 60 4 = h.2.2 60 4 by omega) (by omega)
                · skip
                  refine to_goto (dat dk_X12_search 63 rfl) rfl (to_iinc (L' := [(0, .inr (.inr 60)), (1, .inl (y55 + 1))]) (dat dk_X12_search 107 rfl) rfl (by decide) rfl (to_goto (dat dk_X12_search 108 rfl) rfl ?_))
                  have e173 : h96.2.2 60 62 = x70 := ((Fr.get fh96 (by have := I86.1.1; omega) rfl).trans (by rw [wh88]; exact (show h78.2.2 60 62 = x70 from ((Fr.get fh78 (by have := Ih56.1.1; omega) rfl).trans ex70))))
                  have e174 : h96.2.2 60 3 = x71 := ((Fr.get fh96 (by have := I86.1.1; omega) rfl).trans (by rw [wh88]; exact (show h78.2.2 60 3 = x71 from ((Fr.get fh78 (by have := Ih56.1.1; omega) rfl).trans ex71))))
                  have e175 : h96.2.2 60 4 = x2 := ((Fr.get fh96 (by have := I86.1.1; omega) rfl).trans e94)
                  exact ihn68 (n68 - 1) (by omega) (y55 + 1) h96 (by omega) Ih96 f98 (show 0 ≤ (y55 + 1) by omega) (show h96.2.2 60 62 ≤ (y55 + 1) by omega) t99 (show h96.2.2 60 3 = 0 by omega) t100 t101 t102 (show h96.2.2 60 4 = h.2.2 60 4 by omega) (show h96.2.2 60 4 - (y55 + 1) ≤ ((n68 - 1 : Nat) : Int) by omega)
              · skip
                refine to_goto (dat dk_X12_search 49 rfl) rfl (to_iinc (L' := [(0, .inr (.inr 60)), (1, .inl (y55 + 1))]) (dat dk_X12_search 107 rfl) rfl (by decide) rfl (to_goto (dat dk_X12_search 108 rfl) rfl ?_))
                exact ihn68 (n68 - 1) (by omega) (y55 + 1) h56 (by omega) Ih56 fh56 (show 0 ≤ (y55 + 1) by omega) (show h56.2.2 60 62 ≤ (y55 + 1) by omega) c60 (show h56.2.2 60 3 = 0 by omega) c63 c64 c65 (show h56.2.2 60 4 = h.2.2 60 4 by omega) (show h56.2.2 60 4 - (y55 + 1) ≤ ((n68 - 1 : Nat) : Int) by omega)
          exact lp72_n68 (h50.2.2 60 4 - (0 : Int)).toNat 0 h50 (by decide) I48 f49 (show 0 ≤ (0 : Int) by omega) (show h50.2.2 60 62 ≤ (0 : Int) by omega) t51 (show h50.2.2 60 3 = 0 by omega) t52 t53 t54 (show h50.2.2 60 4 = h.2.2 60 4 by omega) (by omega)
        · skip
          refine to_iconst (dat dk_X12_search 31 rfl) ?_
          have e176 : h36.2.2 60 3 = x33 := (by rw [wh36]; exact ex33)
          exact to_iret rfl (dat dk_X12_search 32 rfl) (ri_mk (by decide) ⟨I34, f35, t37, (show h36.2.2 60 3 = 0 by omega)⟩)
      refine to_aload_n (dat dk_X12_search 21 rfl) rfl ?_
      refine to_cI ca_c13_514 (dat dk_X12_search 22 rfl) (ct_X12_readQuery l h15 Ih15 ) rfl ⟨_, _, rfl, (Ih15.atS rfl)⟩ rfl (fun x177 h178 rx177 p179 => ?_)
      obtain ⟨Ih178, fh178, zx177, p179_0, p179_1⟩ := p179
      have f180 : Fr [69, 70, 71, 72, 73, 74, 75, 76, 77, 78, 79, 80, 81, 82, 83, 84, 85, 86, 87, 212, 216, 218, 219, 223, 225, 226, 228, 229, 233, 236, 237, 88, 244, 200, 203, 89, 90, 91, 92, 93, 94, 95, 96, 245, 246, 247, 248, 97, 98, 99, 260, 262, 100, 102] h h178 := Fr.sub fh15 fh178 rfl
      have t181 : Cch h178 := Cch_fr fh178 Ih15 rfl c17
      have rzx177 := z_lin zx177
      clear zx177
      clear rx177
      have rx177 := rzx177
      clear rzx177
      refine to_ifeq 48 (dat dk_X12_search 23 rfl) rfl (z_i32 rx177) (fun c182 => ?_) (fun c182 => ?_)
      · skip
        refine to_iconst (dat dk_X12_search 26 rfl) ?_
        have e183 : h178.2.2 60 3 = x23 := ((Fr.get fh178 (by have := Ih15.1.1; omega) rfl).trans ex23)
        exact jn49_n32 1 h178 (by decide) Ih178 f180 t181 (show h178.2.2 60 3 = 0 by omega) p179_0 p179_1
      · skip
        replace c182 := z_one rx177 c182
        refine to_iconst (dat dk_X12_search 24 rfl) (to_goto (dat dk_X12_search 25 rfl) rfl ?_)
        have e184 : h178.2.2 60 3 = x23 := ((Fr.get fh178 (by have := Ih15.1.1; omega) rfl).trans ex23)
        exact jn49_n32 0 h178 (by decide) Ih178 f180 t181 (show h178.2.2 60 3 = 0 by omega) p179_0 p179_1
    · skip
      refine to_aload_n (dat dk_X12_search 10 rfl) rfl (to_getR 88 g_c13_100 (dat dk_X12_search 11 rfl) (Ih15.atS rfl) (Ih15.atE rfl) (to_iload_n (dat dk_X12_search 12 rfl) rfl (to_aload_n (dat dk_X12_search 13 rfl) rfl (to_getR 62 g_c13_13 (dat dk_X12_search 14 rfl) (Ih15.atS rfl) (Ih15.atE rfl) (to_iload_n (dat dk_X12_search 15 rfl) rfl ?_)))))
      obtain ⟨x185, ex185⟩ : ∃ y : Int, h15.2.2 62 (Int.toNat y14) = y := ⟨_, rfl⟩
      have rx185 := Ih15.atR (a := 62) (j := Int.toNat y14) rfl
      rw [ex185] at rx185
      refine to_baldv (q := 1) ex185 (dat dk_X12_search 16 rfl) (by decide) (Ih15.atS rfl) rfl (by decide) (by omega) (to_bastw (dat dk_X12_search 17 rfl) (Ih15.atS rfl) rfl (by decide) (by omega) ?_)
      intro h188 wh188
      have I186 : Inv h188 := by rw [wh188]; exact Ih15.put (a := 88) (j := (Int.toNat y14)) (x := (b8 x185)) (-128) (127) rfl rfl (show (-128 : Int) ≤ (b8 x185) ∧ (b8 x185) ≤ 127 by have := b8_in x185; omega)
      have f187 : Fr [69, 70, 71, 72, 73, 74, 75, 76, 77, 78, 79, 80, 81, 82, 83, 84, 85, 86, 87, 212, 216, 218, 219, 223, 225, 226, 228, 229, 233, 236, 237, 88, 244, 200, 203, 89, 90, 91, 92, 93, 94, 95, 96, 245, 246, 247, 248, 97, 98, 99, 260, 262, 100, 102] h h188 := by rw [wh188]; exact Fr.putF (a := 88) (j := (Int.toNat y14)) (x := (b8 x185)) fh15 rfl
      have t189 : Cch h188 := by rw [wh188]; exact Cch_wr rfl c17
      refine to_iinc (L' := [(0, .inr (.inr 60)), (1, .inl (y14 + 1))]) (dat dk_X12_search 18 rfl) rfl (by decide) rfl (to_goto (dat dk_X12_search 19 rfl) rfl ?_)
      have e190 : h188.2.2 60 3 = x23 := (by rw [wh188]; exact ex23)
      have e191 : h188.2.2 60 44 = x24 := (by rw [wh188]; exact ex24)
      exact ihn20 (n20 - 1) (by omega) (y14 + 1) h188 (by omega) I186 f187 (show 0 ≤ (y14 + 1) by omega) t189 (show h188.2.2 60 3 = 0 by omega) (show h188.2.2 60 44 - (y14 + 1) ≤ ((n20 - 1 : Nat) : Int) by omega)
  exact lp10_n20 (h12.2.2 60 44 - (0 : Int)).toNat 0 h12 (by decide) I10 f11 (show 0 ≤ (0 : Int) by omega) t13 (show h12.2.2 60 3 = 0 by omega) (by omega)
abbrev Q_X12_conversations (h : Hp) : Option V → Hp → Nat → Nat → Prop := RI (fun x H => Inv H ∧ Fr [69, 70, 71, 72, 73, 74, 75, 76, 77, 78, 79, 80, 81, 82, 83, 84, 85, 86, 87, 212, 216, 218, 219, 223, 225, 226, 228, 229, 233, 236, 237, 200, 263, 101] h H ∧ (Cch H))
set_option maxRecDepth 100000 in
theorem ct_X12_conversations (l : Launch) (h : Hp) (hI : Inv h) (g0 : Cch h) (g1 : h.2.2 60 4 ≤ 64) (g2 : IsOK h) : Ct l D_X12_conversations 9 217 [.inr (.inr 60)] h (Q_X12_conversations h) := by
  refine ct_of pn_X12_conversations (Nat.le_of_ble_eq_true rfl) ?_
  show To l E_X12_conversations (0, [(0, .inr (.inr 60))], [], h, 0, 0) _
  obtain ⟨x1, ex1⟩ : ∃ y : Int, h.2.2 60 4 = y := ⟨_, rfl⟩
  have rx1 := hI.atR (a := 60) (j := 4) rfl
  rw [ex1] at rx1
  obtain ⟨x2, ex2⟩ : ∃ y : Int, h.2.2 60 63 = y := ⟨_, rfl⟩
  have rx2 := hI.atR (a := 60) (j := 63) rfl
  rw [ex2] at rx2
  refine to_aload_n (dat dk_X12_conversations 0 rfl) rfl (to_iconst (dat dk_X12_conversations 1 rfl) (to_putIw p_c13_154 (dat dk_X12_conversations 2 rfl) (hI.atS rfl) ?_))
  intro h5 wh5
  have I3 : Inv h5 := by rw [wh5]; exact hI.put (a := 60) (j := 0) (x := 0) (0) (3) rfl rfl (show (0 : Int) ≤ 0 ∧ 0 ≤ 3 by decide)
  have f4 : Fr [69, 70, 71, 72, 73, 74, 75, 76, 77, 78, 79, 80, 81, 82, 83, 84, 85, 86, 87, 212, 216, 218, 219, 223, 225, 226, 228, 229, 233, 236, 237, 200, 263, 101] h h5 := by rw [wh5]; exact Fr.putF (a := 60) (j := 0) (x := 0) (Fr.rf _ _) rfl
  have t6 : Cch h5 := by rw [wh5]; exact Cch_wr rfl g0
  have t7 : IsOK h5 := by rw [wh5]; exact IsOK_wr rfl g2
  refine to_aload_n (dat dk_X12_conversations 3 rfl) rfl ?_
  have e8 : h5.2.2 60 4 = x1 := (by rw [wh5]; exact ex1)
  refine to_cV ca_c13_518 (dat dk_X12_conversations 4 rfl) (ct_X12_link l h5 I3 t6 (show h5.2.2 60 4 ≤ 64 by omega)) rfl ⟨_, _, rfl, (I3.atS rfl)⟩ rfl (fun h10 p11 => ?_)
  obtain ⟨Ih10, fh10, p11_0, p11_1⟩ := p11
  have f12 : Fr [69, 70, 71, 72, 73, 74, 75, 76, 77, 78, 79, 80, 81, 82, 83, 84, 85, 86, 87, 212, 216, 218, 219, 223, 225, 226, 228, 229, 233, 236, 237, 200, 263, 101] h h10 := Fr.sub f4 fh10 rfl
  have t13 : IsOK h10 := IsOK_fr fh10 I3 rfl t7
  refine to_aload_n (dat dk_X12_conversations 5 rfl) rfl (to_iconst (dat dk_X12_conversations 6 rfl) (to_putIw p_c13_527 (dat dk_X12_conversations 7 rfl) (Ih10.atS rfl) ?_))
  intro h16 wh16
  have I14 : Inv h16 := by rw [wh16]; exact Ih10.put (a := 60) (j := 63) (x := 0) (0) (200) rfl rfl (show (0 : Int) ≤ 0 ∧ 0 ≤ 200 by decide)
  have f15 : Fr [69, 70, 71, 72, 73, 74, 75, 76, 77, 78, 79, 80, 81, 82, 83, 84, 85, 86, 87, 212, 216, 218, 219, 223, 225, 226, 228, 229, 233, 236, 237, 200, 263, 101] h h16 := by rw [wh16]; exact Fr.putF (a := 60) (j := 63) (x := 0) f12 rfl
  have t17 : Cch h16 := by rw [wh16]; exact Cch_wr rfl p11_1
  have t18 : Lkd h16 := by rw [wh16]; exact Lkd_wr rfl p11_0
  have t19 : IsOK h16 := by rw [wh16]; exact IsOK_wr rfl t13
  refine to_iconst (dat dk_X12_conversations 8 rfl) (to_istore_n (L' := [(0, .inr (.inr 60)), (1, .inl 0)]) (dat dk_X12_conversations 9 rfl) (by decide) rfl ?_)
  have e23 : h16.2.2 60 63 = (0 : Int) := (by rw [wh16]; exact wr_eq)
  have e28 : h16.2.2 60 4 = x1 := (by rw [wh16]; exact (show h10.2.2 60 4 = x1 from ((Fr.get fh10 (by have := I3.1.1; omega) rfl).trans e8)))
  have lp16_n30 : ∀ (n30 : Nat) (y20 : Int) (h21 : Hp), (I32 y20) → (Inv h21) → (Fr [69, 70, 71, 72, 73, 74, 75, 76, 77, 78, 79, 80, 81, 82, 83, 84, 85, 86, 87, 212, 216, 218, 219, 223, 225, 226, 228, 229, 233, 236, 237, 200, 263, 101] h h21) → (0 ≤ y20) → (h21.2.2 60 63 ≤ y20) → (Cch h21) → (Lkd h21) → (IsOK h21) → (h21.2.2 60 4 = h.2.2 60 4) → (h21.2.2 60 62 - y20 ≤ (n30 : Int)) → To l E_X12_conversations (16, [(0, .inr (.inr 60)), (1, .inl y20)], [], h21, 0, 0) (Q_X12_conversations h) := by
    intro n30
    induction n30 using Nat.strongRecOn with
    | _ n30 ihn30 =>
    intro y20 h21 ry20 Ih21 fh21 c22 c24 c25 c26 c27 c29 c31
    obtain ⟨x32, ex32⟩ : ∃ y : Int, h21.2.2 60 63 = y := ⟨_, rfl⟩
    have rx32 := Ih21.atR (a := 60) (j := 63) rfl
    rw [ex32] at rx32
    have e33 : h21.2.2 60 4 = x1 := ((Fr.get fh21 (by have := hI.1.1; omega) rfl).trans ex1)
    refine to_iload_n (dat dk_X12_conversations 10 rfl) rfl (to_aload_n (dat dk_X12_conversations 11 rfl) rfl ?_)
    obtain ⟨x34, ex34⟩ : ∃ y : Int, h21.2.2 60 62 = y := ⟨_, rfl⟩
    have rx34 := Ih21.atR (a := 60) (j := 62) rfl
    rw [ex34] at rx34
    refine to_getIv (y := x34) ex34 g_c13_521 (dat dk_X12_conversations 12 rfl) (Ih21.atS rfl) ?_
    refine to_ige 126 (dat dk_X12_conversations 13 rfl) rfl ry20 (by omega) (fun c35 => ?_) (fun c35 => ?_)
    · skip
      refine to_aload_n (dat dk_X12_conversations 69 rfl) rfl (to_getIv (y := x32) ex32 g_c13_527 (dat dk_X12_conversations 70 rfl) (Ih21.atS rfl) ?_)
      exact to_iret rfl (dat dk_X12_conversations 71 rfl) (ri_mk (by omega) ⟨Ih21, fh21, c25⟩)
    · skip
      refine to_aload_n (dat dk_X12_conversations 14 rfl) rfl (to_getR 65 g_c13_24 (dat dk_X12_conversations 15 rfl) (Ih21.atS rfl) (Ih21.atE rfl) (to_aload_n (dat dk_X12_conversations 16 rfl) rfl (to_getR 100 g_c13_137 (dat dk_X12_conversations 17 rfl) (Ih21.atS rfl) (Ih21.atE rfl) (to_iload_n (dat dk_X12_conversations 18 rfl) rfl ?_))))
      obtain ⟨x36, ex36⟩ : ∃ y : Int, h21.2.2 100 (Int.toNat y20) = y := ⟨_, rfl⟩
      have rx36 := Ih21.atR (a := 100) (j := Int.toNat y20) rfl
      rw [ex36] at rx36
      refine to_ialdv ex36 (dat dk_X12_conversations 19 rfl) (Ih21.atS rfl) rfl (by decide) (by omega) ?_
      have k37 : h.2.2 100 (Int.toNat y20) = x36 := (Fr.getF fh21 hI (by decide) rfl).symm.trans ex36
      obtain ⟨x38, ex38⟩ : ∃ y : Int, h21.2.2 65 (Int.toNat x36) = y := ⟨_, rfl⟩
      have rx38 := Ih21.atR (a := 65) (j := Int.toNat x36) rfl
      rw [ex38] at rx38
      refine to_baldv (q := 2) ex38 (dat dk_X12_conversations 20 rfl) (by decide) (Ih21.atS rfl) rfl (by decide) (by omega) ?_
      have k39 : h.2.2 65 (Int.toNat x36) = x38 := (Fr.getF fh21 hI (by decide) rfl).symm.trans ex38
      refine to_ifne 41 (dat dk_X12_conversations 21 rfl) rfl (by omega) (fun c40 => ?_) (fun c40 => ?_)
      · skip
        refine to_aload_n (dat dk_X12_conversations 23 rfl) rfl (to_aload_n (dat dk_X12_conversations 24 rfl) rfl (to_getR 100 g_c13_137 (dat dk_X12_conversations 25 rfl) (Ih21.atS rfl) (Ih21.atE rfl) (to_iload_n (dat dk_X12_conversations 26 rfl) rfl ?_)))
        obtain ⟨x41, ex41⟩ : ∃ y : Int, h21.2.2 100 (Int.toNat y20) = y := ⟨_, rfl⟩
        have rx41 := Ih21.atR (a := 100) (j := Int.toNat y20) rfl
        rw [ex41] at rx41
        refine to_ialdv ex41 (dat dk_X12_conversations 27 rfl) (Ih21.atS rfl) rfl (by decide) (by omega) ?_
        have k42 : h.2.2 100 (Int.toNat y20) = x41 := (Fr.getF fh21 hI (by decide) rfl).symm.trans ex41
        have z43q : x41 = x36 := by omega
        have z43r : h.2.2 65 (Int.toNat x41) = h.2.2 65 (Int.toNat x36) := by rw [z43q]
        have z43 : x41 < h21.2.2 60 4 := by
          by_cases q : x41 < h21.2.2 60 4
          · exact q
          · have q2 := c27 (Int.toNat x41) (by omega)
            rw [show h21.2.2 65 = h.2.2 65 from fh21.arr hI (by decide) (fun _ => rfl)] at q2
            omega
        have z44 := c26.2.2 (Int.toNat x41) (by omega)
        rw [show h21.2.2 65 = h.2.2 65 from fh21.arr hI (by decide) (fun _ => rfl)] at z44
        refine to_cI ca_c13_486 (dat dk_X12_conversations 28 rfl) (ct_X12_threadOf l h21 Ih21 x41 (by omega) c26 (show 0 ≤ x41 ∧ x41 ≤ 199 by omega) (show h21.2.2 87 (Int.toNat x41) < h21.2.2 60 37 by omega)) rfl ⟨_, _, rfl, (Ih21.atS rfl)⟩ rfl (fun x45 h46 rx45 p47 => ?_)
        obtain ⟨rfl, p47_0⟩ := p47
        refine to_istore_n (L' := [(0, .inr (.inr 60)), (1, .inl y20), (2, .inl x45)]) (dat dk_X12_conversations 29 rfl) (by decide) rfl (to_iconst (dat dk_X12_conversations 30 rfl) (to_istore_n (L' := [(0, .inr (.inr 60)), (1, .inl y20), (2, .inl x45), (3, .inl 0)]) (dat dk_X12_conversations 31 rfl) (by decide) rfl (to_iconst (dat dk_X12_conversations 32 rfl) (to_istore (L' := [(0, .inr (.inr 60)), (1, .inl y20), (2, .inl x45), (3, .inl 0), (4, .inl 0)]) (dat dk_X12_conversations 33 rfl) (by decide) rfl ?_))))
        have lp57_n51 : ∀ (n51 : Nat) (y48 : Int) (y49 : Int), (y48 = 0 ∨ y48 = 1) → (I32 y49) → (0 ≤ y49) → (h21.2.2 60 63 - y49 ≤ (n51 : Int)) → To l E_X12_conversations (57, [(0, .inr (.inr 60)), (1, .inl y20), (2, .inl x45), (3, .inl y48), (4, .inl y49)], [], h21, 0, 0) (Q_X12_conversations h) := by
          intro n51
          induction n51 using Nat.strongRecOn with
          | _ n51 ihn51 =>
          intro y48 y49 ry48 ry49 c50 c52
          replace ry48 := z_lin ry48
          refine to_iload (dat dk_X12_conversations 34 rfl) rfl (to_aload_n (dat dk_X12_conversations 35 rfl) rfl (to_getIv (y := x32) ex32 g_c13_527 (dat dk_X12_conversations 36 rfl) (Ih21.atS rfl) ?_))
          refine to_ige 93 (dat dk_X12_conversations 37 rfl) rfl ry49 (by omega) (fun c53 => ?_) (fun c53 => ?_)
          · skip
            refine to_iload_n (dat dk_X12_conversations 52 rfl) rfl ?_
            refine to_ifeq 100 (dat dk_X12_conversations 53 rfl) rfl (z_i32 ry48) (fun c54 => ?_) (fun c54 => ?_)
            · skip
              refine to_aload_n (dat dk_X12_conversations 55 rfl) rfl (to_getR 101 g_c13_140 (dat dk_X12_conversations 56 rfl) (Ih21.atS rfl) (Ih21.atE rfl) (to_aload_n (dat dk_X12_conversations 57 rfl) rfl (to_getIv (y := x32) ex32 g_c13_527 (dat dk_X12_conversations 58 rfl) (Ih21.atS rfl) (to_iload_n (dat dk_X12_conversations 59 rfl) rfl (to_iastw (dat dk_X12_conversations 60 rfl) (Ih21.atS rfl) rfl (by decide) (by omega) ?_)))))
              intro h57 wh57
              have I55 : Inv h57 := by rw [wh57]; exact Ih21.put (a := 101) (j := (Int.toNat x32)) (x := x45) (0) (199) rfl rfl (show (0 : Int) ≤ x45 ∧ x45 ≤ 199 by omega)
              have f56 : Fr [69, 70, 71, 72, 73, 74, 75, 76, 77, 78, 79, 80, 81, 82, 83, 84, 85, 86, 87, 212, 216, 218, 219, 223, 225, 226, 228, 229, 233, 236, 237, 200, 263, 101] h h57 := by rw [wh57]; exact Fr.putF (a := 101) (j := (Int.toNat x32)) (x := x45) fh21 rfl
              have t58 : Cch h57 := by rw [wh57]; exact Cch_wr rfl c25
              have t59 : Lkd h57 := by rw [wh57]; exact Lkd_wr rfl c26
              have t60 : IsOK h57 := by rw [wh57]; exact IsOK_wr rfl c27
              refine to_aload_n (dat dk_X12_conversations 61 rfl) rfl (to_dup (dat dk_X12_conversations 62 rfl) rfl (to_getIv (y := x32) (by rw [wh57]; exact ex32) g_c13_527 (dat dk_X12_conversations 63 rfl) (I55.atS rfl) (to_iconst (dat dk_X12_conversations 64 rfl) (to_iadd (dat dk_X12_conversations 65 rfl) (to_putIw p_c13_527 (dat dk_X12_conversations 66 rfl) (I55.atS rfl) ?_)))))
              intro h63 wh63
              have I61 : Inv h63 := by rw [wh63]; exact I55.put (a := 60) (j := 63) (x := (x32 + 1)) (0) (200) rfl rfl (show (0 : Int) ≤ (x32 + 1) ∧ (x32 + 1) ≤ 200 by omega)
              have f62 : Fr [69, 70, 71, 72, 73, 74, 75, 76, 77, 78, 79, 80, 81, 82, 83, 84, 85, 86, 87, 212, 216, 218, 219, 223, 225, 226, 228, 229, 233, 236, 237, 200, 263, 101] h h63 := by rw [wh63]; exact Fr.putF (a := 60) (j := 63) (x := (x32 + 1)) f56 rfl
              have t64 : Cch h63 := by rw [wh63]; exact Cch_wr rfl t58
              have t65 : Lkd h63 := by rw [wh63]; exact Lkd_wr rfl t59
              have t66 : IsOK h63 := by rw [wh63]; exact IsOK_wr rfl t60
              refine to_iinc (L' := [(0, .inr (.inr 60)), (1, .inl (y20 + 1)), (2, .inl x45), (3, .inl y48), (4, .inl y49)]) (dat dk_X12_conversations 67 rfl) rfl (by decide) rfl (to_goto (dat dk_X12_conversations 68 rfl) rfl ?_)
              refine to_pick [0, 1] rfl ?_
              have e67 : h63.2.2 60 63 = (x32 + 1) := (by rw [wh63]; exact wr_eq)
              have e68 : h63.2.2 60 4 = x1 := (by rw [wh63]; exact (show h57.2.2 60 4 = x1 from (by rw [wh57]; exact e33)))
              have e69 : h63.2.2 60 62 = x34 := (by rw [wh63]; exact (show h57.2.2 60 62 = x34 from (by rw [wh57]; exact ex34)))
              exact ihn30 (n30 - 1) (by omega) (y20 + 1) h63 (by omega) I61 f62 (show 0 ≤ (y20 + 1) by omega) (show h63.2.2 60 63 ≤ (y20 + 1) by omega) t64 t65 t66 (show h63.2.2 60 4 = h.2.2 60 4 by omega) (show h63.2.2 60 62 - (y20 + 1) ≤ ((n30 - 1 : Nat) : Int) by omega)
            · skip
              replace c54 := z_one ry48 c54
              refine to_goto (dat dk_X12_conversations 54 rfl) rfl (to_iinc (L' := [(0, .inr (.inr 60)), (1, .inl (y20 + 1)), (2, .inl x45), (3, .inl y48), (4, .inl y49)]) (dat dk_X12_conversations 67 rfl) rfl (by decide) rfl (to_goto (dat dk_X12_conversations 68 rfl) rfl ?_))
              refine to_pick [0, 1] rfl ?_
              exact ihn30 (n30 - 1) (by omega) (y20 + 1) h21 (by omega) Ih21 fh21 (show 0 ≤ (y20 + 1) by omega) (show h21.2.2 60 63 ≤ (y20 + 1) by omega) c25 c26 c27 (show h21.2.2 60 4 = h.2.2 60 4 by omega) (show h21.2.2 60 62 - (y20 + 1) ≤ ((n30 - 1 : Nat) : Int) by omega)
          · skip
            refine to_iload_n (dat dk_X12_conversations 38 rfl) rfl ?_
            refine to_ifne 81 (dat dk_X12_conversations 39 rfl) rfl (z_i32 ry48) (fun c70 => ?_) (fun c70 => ?_)
            · skip
              replace c70 := z_one ry48 c70
              refine to_iconst (dat dk_X12_conversations 46 rfl) (to_goto (dat dk_X12_conversations 47 rfl) rfl (to_istore_n (L' := [(0, .inr (.inr 60)), (1, .inl y20), (2, .inl x45), (3, .inl 1), (4, .inl y49)]) (dat dk_X12_conversations 49 rfl) (by decide) rfl (to_iinc (L' := [(0, .inr (.inr 60)), (1, .inl y20), (2, .inl x45), (3, .inl 1), (4, .inl (y49 + 1))]) (dat dk_X12_conversations 50 rfl) rfl (by decide) rfl (to_goto (dat dk_X12_conversations 51 rfl) rfl ?_))))
              exact ihn51 (n51 - 1) (by omega) 1 (y49 + 1) (by decide) (by omega) (show 0 ≤ (y49 + 1) by omega) (show h21.2.2 60 63 - (y49 + 1) ≤ ((n51 - 1 : Nat) : Int) by omega)
            · skip
              have jn86_n72 : ∀ (y71 : Int), (y71 = 0 ∨ y71 = 1) → To l E_X12_conversations (86, [(0, .inr (.inr 60)), (1, .inl y20), (2, .inl x45), (3, .inl y48), (4, .inl y49)], [.inl y71], h21, 0, 0) (Q_X12_conversations h) := by
                intro y71 ry71
                replace ry71 := z_lin ry71
                refine to_istore_n (L' := [(0, .inr (.inr 60)), (1, .inl y20), (2, .inl x45), (3, .inl y71), (4, .inl y49)]) (dat dk_X12_conversations 49 rfl) (by decide) rfl (to_iinc (L' := [(0, .inr (.inr 60)), (1, .inl y20), (2, .inl x45), (3, .inl y71), (4, .inl (y49 + 1))]) (dat dk_X12_conversations 50 rfl) rfl (by decide) rfl (to_goto (dat dk_X12_conversations 51 rfl) rfl ?_))
                exact ihn51 (n51 - 1) (by omega) y71 (y49 + 1) (by omega) (by omega) (show 0 ≤ (y49 + 1) by omega) (show h21.2.2 60 63 - (y49 + 1) ≤ ((n51 - 1 : Nat) : Int) by omega)
              refine to_aload_n (dat dk_X12_conversations 40 rfl) rfl (to_getR 101 g_c13_140 (dat dk_X12_conversations 41 rfl) (Ih21.atS rfl) (Ih21.atE rfl) (to_iload (dat dk_X12_conversations 42 rfl) rfl ?_))
              obtain ⟨x73, ex73⟩ : ∃ y : Int, h21.2.2 101 (Int.toNat y49) = y := ⟨_, rfl⟩
              have rx73 := Ih21.atR (a := 101) (j := Int.toNat y49) rfl
              rw [ex73] at rx73
              refine to_ialdv ex73 (dat dk_X12_conversations 43 rfl) (Ih21.atS rfl) rfl (by decide) (by omega) (to_iload_n (dat dk_X12_conversations 44 rfl) rfl ?_)
              refine to_ine 85 (dat dk_X12_conversations 45 rfl) rfl (by omega) rx45 (fun c74 => ?_) (fun c74 => ?_)
              · skip
                refine to_iconst (dat dk_X12_conversations 48 rfl) ?_
                exact jn86_n72 0 (by decide)
              · skip
                refine to_iconst (dat dk_X12_conversations 46 rfl) (to_goto (dat dk_X12_conversations 47 rfl) rfl ?_)
                exact jn86_n72 1 (by decide)
        exact lp57_n51 (h21.2.2 60 63 - (0 : Int)).toNat 0 0 (by decide) (by decide) (show 0 ≤ (0 : Int) by omega) (by omega)
      · skip
        refine to_goto (dat dk_X12_conversations 22 rfl) rfl (to_iinc (L' := [(0, .inr (.inr 60)), (1, .inl (y20 + 1))]) (dat dk_X12_conversations 67 rfl) rfl (by decide) rfl (to_goto (dat dk_X12_conversations 68 rfl) rfl ?_))
        exact ihn30 (n30 - 1) (by omega) (y20 + 1) h21 (by omega) Ih21 fh21 (show 0 ≤ (y20 + 1) by omega) (show h21.2.2 60 63 ≤ (y20 + 1) by omega) c25 c26 c27 (show h21.2.2 60 4 = h.2.2 60 4 by omega) (show h21.2.2 60 62 - (y20 + 1) ≤ ((n30 - 1 : Nat) : Int) by omega)
  exact lp16_n30 (h16.2.2 60 62 - (0 : Int)).toNat 0 h16 (by decide) I14 f15 (show 0 ≤ (0 : Int) by omega) (show h16.2.2 60 63 ≤ (0 : Int) by omega) t17 t18 t19 (show h16.2.2 60 4 = h.2.2 60 4 by omega) (by omega)
abbrev Q_X12_isThere_vb (h : Hp) (n : Int) : Option V → Hp → Nat → Nat → Prop := RI (fun x H => h = H ∧ (x = 0 ∨ x = 1) ∧ (x = 0 ∨ (0 ≤ n ∧ n < H.2.2 60 4 ∧ H.2.2 65 (Int.toNat n) ≠ 0)))
set_option maxRecDepth 100000 in
theorem ct_X12_isThere_vb (l : Launch) (h : Hp) (hI : Inv h) (n : Int) (hn : I32 n) : Ct l D_X12_isThere 0 0 [.inr (.inr 60), .inl n] h (Q_X12_isThere_vb h n) := by
  refine ct_of pn_X12_isThere (Nat.le_of_ble_eq_true rfl) ?_
  show To l E_X12_isThere (0, [(0, .inr (.inr 60)), (1, .inl n)], [], h, 0, 0) _
  refine to_iload_n (dat dk_X12_isThere 0 rfl) rfl ?_
  refine to_iflt 25 (dat dk_X12_isThere 1 rfl) rfl hn (fun c1 => ?_) (fun c1 => ?_)
  · skip
    refine to_iconst (dat dk_X12_isThere 13 rfl) ?_
    exact to_zret rfl (dat dk_X12_isThere 14 rfl) (by decide) (ri_mk (by decide) ⟨rfl, (by decide), (show (0 : Int) = 0 ∨ (0 ≤ n ∧ n < h.2.2 60 4 ∧ h.2.2 65 (Int.toNat n) ≠ 0) by omega)⟩)
  · skip
    refine to_iload_n (dat dk_X12_isThere 2 rfl) rfl (to_aload_n (dat dk_X12_isThere 3 rfl) rfl ?_)
    obtain ⟨x2, ex2⟩ : ∃ y : Int, h.2.2 60 4 = y := ⟨_, rfl⟩
    have rx2 := hI.atR (a := 60) (j := 4) rfl
    rw [ex2] at rx2
    refine to_getIv (y := x2) ex2 g_c13_382 (dat dk_X12_isThere 4 rfl) (hI.atS rfl) ?_
    refine to_ige 25 (dat dk_X12_isThere 5 rfl) rfl hn (by omega) (fun c3 => ?_) (fun c3 => ?_)
    · skip
      refine to_iconst (dat dk_X12_isThere 13 rfl) ?_
      exact to_zret rfl (dat dk_X12_isThere 14 rfl) (by decide) (ri_mk (by decide) ⟨rfl, (by decide), (show (0 : Int) = 0 ∨ (0 ≤ n ∧ n < h.2.2 60 4 ∧ h.2.2 65 (Int.toNat n) ≠ 0) by omega)⟩)
    · skip
      refine to_aload_n (dat dk_X12_isThere 6 rfl) rfl (to_getR 65 g_c13_24 (dat dk_X12_isThere 7 rfl) (hI.atS rfl) (hI.atE rfl) (to_iload_n (dat dk_X12_isThere 8 rfl) rfl ?_))
      obtain ⟨x4, ex4⟩ : ∃ y : Int, h.2.2 65 (Int.toNat n) = y := ⟨_, rfl⟩
      have rx4 := hI.atR (a := 65) (j := Int.toNat n) rfl
      rw [ex4] at rx4
      refine to_baldv (q := 2) ex4 (dat dk_X12_isThere 9 rfl) (by decide) (hI.atS rfl) rfl (by decide) (by omega) ?_
      refine to_ifeq 25 (dat dk_X12_isThere 10 rfl) rfl (by omega) (fun c5 => ?_) (fun c5 => ?_)
      · skip
        refine to_iconst (dat dk_X12_isThere 13 rfl) ?_
        exact to_zret rfl (dat dk_X12_isThere 14 rfl) (by decide) (ri_mk (by decide) ⟨rfl, (by decide), (show (0 : Int) = 0 ∨ (0 ≤ n ∧ n < h.2.2 60 4 ∧ h.2.2 65 (Int.toNat n) ≠ 0) by omega)⟩)
      · skip
        refine to_iconst (dat dk_X12_isThere 11 rfl) (to_goto (dat dk_X12_isThere 12 rfl) rfl ?_)
        exact to_zret rfl (dat dk_X12_isThere 14 rfl) (by decide) (ri_mk (by decide) ⟨rfl, (by decide), (show (1 : Int) = 0 ∨ (0 ≤ n ∧ n < h.2.2 60 4 ∧ h.2.2 65 (Int.toNat n) ≠ 0) by omega)⟩)
abbrev Q_X12_about (h : Hp) (n : Int) (q : Int) : Option V → Hp → Nat → Nat → Prop := RI (fun x H => Inv H ∧ Fr [69, 70, 71, 72, 73, 74, 75, 76, 77, 78, 79, 80, 81, 82, 83, 84, 85, 86, 87, 212, 216, 218, 219, 223, 225, 226, 228, 229, 233, 236, 237, 200] h H ∧ (Cch H))
set_option maxRecDepth 100000 in
theorem ct_X12_about (l : Launch) (h : Hp) (hI : Inv h) (n : Int) (hn : I32 n) (q : Int) (hq : I32 q) (g0 : Cch h) (g1 : h.2.2 60 4 ≤ 64) : Ct l D_X12_about 9 217 [.inr (.inr 60), .inl n, .inl q] h (Q_X12_about h n q) := by
  refine ct_of pn_X12_about (Nat.le_of_ble_eq_true rfl) ?_
  show To l E_X12_about (0, [(0, .inr (.inr 60)), (1, .inl n), (2, .inl q)], [], h, 0, 0) _
  have z04 := hI.atR (a := 60) (j := 4) rfl
  obtain ⟨x1, ex1⟩ : ∃ y : Int, h.2.2 60 4 = y := ⟨_, rfl⟩
  have rx1 := hI.atR (a := 60) (j := 4) rfl
  rw [ex1] at rx1
  refine to_aload_n (dat dk_X12_about 0 rfl) rfl (to_iconst (dat dk_X12_about 1 rfl) (to_putIw p_c13_154 (dat dk_X12_about 2 rfl) (hI.atS rfl) ?_))
  intro h4 wh4
  have I2 : Inv h4 := by rw [wh4]; exact hI.put (a := 60) (j := 0) (x := 0) (0) (3) rfl rfl (show (0 : Int) ≤ 0 ∧ 0 ≤ 3 by decide)
  have f3 : Fr [69, 70, 71, 72, 73, 74, 75, 76, 77, 78, 79, 80, 81, 82, 83, 84, 85, 86, 87, 212, 216, 218, 219, 223, 225, 226, 228, 229, 233, 236, 237, 200] h h4 := by rw [wh4]; exact Fr.putF (a := 60) (j := 0) (x := 0) (Fr.rf _ _) rfl
  have t5 : Cch h4 := by rw [wh4]; exact Cch_wr rfl g0
  refine to_aload_n (dat dk_X12_about 3 rfl) rfl (to_iload_n (dat dk_X12_about 4 rfl) rfl ?_)
  have e6 : h4.2.2 60 4 = x1 := (by rw [wh4]; exact ex1)
  refine to_cI ca_c13_505 (dat dk_X12_about 5 rfl) (ct_X12_isThere_vb l h4 I2 n hn) rfl ⟨_, _, rfl, (I2.atS rfl)⟩ rfl (fun x7 h8 rx7 p9 => ?_)
  obtain ⟨rfl, zx7, p9_0⟩ := p9
  have rzx7 := z_lin zx7
  clear zx7
  clear rx7
  have rx7 := rzx7
  clear rzx7
  rw [show h4.2.2 65 = h.2.2 65 from f3.arr hI (by decide) (fun _ => rfl)] at p9_0
  refine to_ifeq 23 (dat dk_X12_about 6 rfl) rfl (z_i32 rx7) (fun c10 => ?_) (fun c10 => ?_)
  · skip
    refine to_iconst (dat dk_X12_about 12 rfl) ?_
    exact to_iret rfl (dat dk_X12_about 13 rfl) (ri_mk (by decide) ⟨I2, f3, t5⟩)
  · skip
    replace c10 := z_one rx7 c10
    refine to_iload_n (dat dk_X12_about 7 rfl) rfl ?_
    refine to_iflt 23 (dat dk_X12_about 8 rfl) rfl hq (fun c11 => ?_) (fun c11 => ?_)
    · skip
      refine to_iconst (dat dk_X12_about 12 rfl) ?_
      exact to_iret rfl (dat dk_X12_about 13 rfl) (ri_mk (by decide) ⟨I2, f3, t5⟩)
    · skip
      refine to_iload_n (dat dk_X12_about 9 rfl) rfl (to_bipush (dat dk_X12_about 10 rfl) (by decide) ?_)
      refine to_ile 25 (dat dk_X12_about 11 rfl) rfl hq (by decide) (fun c12 => ?_) (fun c12 => ?_)
      · skip
        refine to_iload_n (dat dk_X12_about 14 rfl) rfl (to_iconst (dat dk_X12_about 15 rfl) ?_)
        refine to_ige 65 (dat dk_X12_about 16 rfl) rfl hq (by decide) (fun c13 => ?_) (fun c13 => ?_)
        · skip
          refine to_aload_n (dat dk_X12_about 36 rfl) rfl (to_iload_n (dat dk_X12_about 37 rfl) rfl ?_)
          refine to_cV ca_c13_373 (dat dk_X12_about 38 rfl) (ct_X12_read l h4 I2 n hn t5 (show 0 ≤ n ∧ n < h4.2.2 60 4 by omega)) rfl ⟨_, _, rfl, (I2.atS rfl)⟩ rfl (fun h15 p16 => ?_)
          obtain ⟨Ih15, fh15, p16_0, p16_1⟩ := p16
          have f17 : Fr [69, 70, 71, 72, 73, 74, 75, 76, 77, 78, 79, 80, 81, 82, 83, 84, 85, 86, 87, 212, 216, 218, 219, 223, 225, 226, 228, 229, 233, 236, 237, 200] h h15 := Fr.sub f3 fh15 rfl
          obtain ⟨x18, ex18⟩ : ∃ y : Int, h15.2.2 60 12 = y := ⟨_, rfl⟩
          have rx18 := Ih15.atR (a := 60) (j := 12) rfl
          rw [ex18] at rx18
          refine to_iload_n (dat dk_X12_about 39 rfl) rfl ?_
          refine to_table (d := 139) (ts := [116, 122, 139, 139, 139, 139, 129, 134]) (dat dk_X12_about 40 rfl) rfl rfl rfl hq (fun c19 => ?_) ⟨fun c19 => ?_, fun c19 => ?_, fun c19 => ?_, fun c19 => ?_, fun c19 => ?_, fun c19 => ?_, fun c19 => ?_, fun c19 => ?_, trivial⟩
          · skip
            refine to_aload_n (dat dk_X12_about 56 rfl) rfl (to_getR 69 g_c13_41 (dat dk_X12_about 57 rfl) (Ih15.atS rfl) (Ih15.atE rfl) (to_iload_n (dat dk_X12_about 58 rfl) rfl (to_iconst (dat dk_X12_about 59 rfl) (to_isub (dat dk_X12_about 60 rfl) ?_))))
            obtain ⟨x20, ex20⟩ : ∃ y : Int, h15.2.2 69 (Int.toNat (q - 5)) = y := ⟨_, rfl⟩
            have rx20 := Ih15.atR (a := 69) (j := Int.toNat (q - 5)) rfl
            rw [ex20] at rx20
            refine to_ialdv ex20 (dat dk_X12_about 61 rfl) (Ih15.atS rfl) rfl (by decide) (by omega) ?_
            exact to_iret rfl (dat dk_X12_about 62 rfl) (ri_mk (by omega) ⟨Ih15, f17, p16_0⟩)
          · skip
            refine to_aload_n (dat dk_X12_about 41 rfl) rfl ?_
            refine to_getL g_c13_360 (dat dk_X12_about 42 rfl) (Ih15.atS rfl) ?_
            generalize h15.2.2 60 16 = w21
            refine to_l2i (dat dk_X12_about 43 rfl) (fun x22 rx22 => ?_)
            exact to_iret rfl (dat dk_X12_about 44 rfl) (ri_mk rx22 ⟨Ih15, f17, p16_0⟩)
          · skip
            refine to_aload_n (dat dk_X12_about 45 rfl) rfl (to_getR 68 g_c13_34 (dat dk_X12_about 46 rfl) (Ih15.atS rfl) (Ih15.atE rfl) (to_iload_n (dat dk_X12_about 47 rfl) rfl ?_))
            obtain ⟨x23, ex23⟩ : ∃ y : Int, h15.2.2 68 (Int.toNat n) = y := ⟨_, rfl⟩
            have rx23 := Ih15.atR (a := 68) (j := Int.toNat n) rfl
            rw [ex23] at rx23
            refine to_ialdv ex23 (dat dk_X12_about 48 rfl) (Ih15.atS rfl) rfl (by decide) (by omega) ?_
            exact to_iret rfl (dat dk_X12_about 49 rfl) (ri_mk (by omega) ⟨Ih15, f17, p16_0⟩)
          · skip
            refine to_aload_n (dat dk_X12_about 56 rfl) rfl (to_getR 69 g_c13_41 (dat dk_X12_about 57 rfl) (Ih15.atS rfl) (Ih15.atE rfl) (to_iload_n (dat dk_X12_about 58 rfl) rfl (to_iconst (dat dk_X12_about 59 rfl) (to_isub (dat dk_X12_about 60 rfl) ?_))))
            obtain ⟨x24, ex24⟩ : ∃ y : Int, h15.2.2 69 (Int.toNat (q - 5)) = y := ⟨_, rfl⟩
            have rx24 := Ih15.atR (a := 69) (j := Int.toNat (q - 5)) rfl
            rw [ex24] at rx24
            refine to_ialdv ex24 (dat dk_X12_about 61 rfl) (Ih15.atS rfl) rfl (by decide) (by omega) ?_
            exact to_iret rfl (dat dk_X12_about 62 rfl) (ri_mk (by omega) ⟨Ih15, f17, p16_0⟩)
          · skip
            refine to_aload_n (dat dk_X12_about 56 rfl) rfl (to_getR 69 g_c13_41 (dat dk_X12_about 57 rfl) (Ih15.atS rfl) (Ih15.atE rfl) (to_iload_n (dat dk_X12_about 58 rfl) rfl (to_iconst (dat dk_X12_about 59 rfl) (to_isub (dat dk_X12_about 60 rfl) ?_))))
            obtain ⟨x25, ex25⟩ : ∃ y : Int, h15.2.2 69 (Int.toNat (q - 5)) = y := ⟨_, rfl⟩
            have rx25 := Ih15.atR (a := 69) (j := Int.toNat (q - 5)) rfl
            rw [ex25] at rx25
            refine to_ialdv ex25 (dat dk_X12_about 61 rfl) (Ih15.atS rfl) rfl (by decide) (by omega) ?_
            exact to_iret rfl (dat dk_X12_about 62 rfl) (ri_mk (by omega) ⟨Ih15, f17, p16_0⟩)
          · skip
            refine to_aload_n (dat dk_X12_about 56 rfl) rfl (to_getR 69 g_c13_41 (dat dk_X12_about 57 rfl) (Ih15.atS rfl) (Ih15.atE rfl) (to_iload_n (dat dk_X12_about 58 rfl) rfl (to_iconst (dat dk_X12_about 59 rfl) (to_isub (dat dk_X12_about 60 rfl) ?_))))
            obtain ⟨x26, ex26⟩ : ∃ y : Int, h15.2.2 69 (Int.toNat (q - 5)) = y := ⟨_, rfl⟩
            have rx26 := Ih15.atR (a := 69) (j := Int.toNat (q - 5)) rfl
            rw [ex26] at rx26
            refine to_ialdv ex26 (dat dk_X12_about 61 rfl) (Ih15.atS rfl) rfl (by decide) (by omega) ?_
            exact to_iret rfl (dat dk_X12_about 62 rfl) (ri_mk (by omega) ⟨Ih15, f17, p16_0⟩)
          · skip
            refine to_aload_n (dat dk_X12_about 56 rfl) rfl (to_getR 69 g_c13_41 (dat dk_X12_about 57 rfl) (Ih15.atS rfl) (Ih15.atE rfl) (to_iload_n (dat dk_X12_about 58 rfl) rfl (to_iconst (dat dk_X12_about 59 rfl) (to_isub (dat dk_X12_about 60 rfl) ?_))))
            obtain ⟨x27, ex27⟩ : ∃ y : Int, h15.2.2 69 (Int.toNat (q - 5)) = y := ⟨_, rfl⟩
            have rx27 := Ih15.atR (a := 69) (j := Int.toNat (q - 5)) rfl
            rw [ex27] at rx27
            refine to_ialdv ex27 (dat dk_X12_about 61 rfl) (Ih15.atS rfl) rfl (by decide) (by omega) ?_
            exact to_iret rfl (dat dk_X12_about 62 rfl) (ri_mk (by omega) ⟨Ih15, f17, p16_0⟩)
          · skip
            refine to_aload_n (dat dk_X12_about 50 rfl) rfl ?_
            obtain ⟨x28, ex28⟩ : ∃ y : Int, h15.2.2 60 18 = y := ⟨_, rfl⟩
            have rx28 := Ih15.atR (a := 60) (j := 18) rfl
            rw [ex28] at rx28
            refine to_getIv (y := x28) ex28 g_c13_364 (dat dk_X12_about 51 rfl) (Ih15.atS rfl) ?_
            exact to_iret rfl (dat dk_X12_about 52 rfl) (ri_mk (by omega) ⟨Ih15, f17, p16_0⟩)
          · skip
            refine to_aload_n (dat dk_X12_about 53 rfl) rfl ?_
            obtain ⟨x29, ex29⟩ : ∃ y : Int, h15.2.2 60 19 = y := ⟨_, rfl⟩
            have rx29 := Ih15.atR (a := 60) (j := 19) rfl
            rw [ex29] at rx29
            refine to_getIv (y := x29) ex29 g_c13_336 (dat dk_X12_about 54 rfl) (Ih15.atS rfl) ?_
            exact to_iret rfl (dat dk_X12_about 55 rfl) (ri_mk (by omega) ⟨Ih15, f17, p16_0⟩)
        · skip
          refine to_aload_n (dat dk_X12_about 17 rfl) rfl ?_
          refine to_cV ca_c13_518 (dat dk_X12_about 18 rfl) (ct_X12_link l h4 I2 t5 (show h4.2.2 60 4 ≤ 64 by omega)) rfl ⟨_, _, rfl, (I2.atS rfl)⟩ rfl (fun h31 p32 => ?_)
          obtain ⟨Ih31, fh31, p32_0, p32_1⟩ := p32
          have f33 : Fr [69, 70, 71, 72, 73, 74, 75, 76, 77, 78, 79, 80, 81, 82, 83, 84, 85, 86, 87, 212, 216, 218, 219, 223, 225, 226, 228, 229, 233, 236, 237, 200] h h31 := Fr.sub f3 fh31 rfl
          refine to_iload_n (dat dk_X12_about 19 rfl) rfl ?_
          refine to_ifne 46 (dat dk_X12_about 20 rfl) rfl hq (fun c34 => ?_) (fun c34 => ?_)
          · skip
            refine to_iload_n (dat dk_X12_about 25 rfl) rfl (to_iconst (dat dk_X12_about 26 rfl) ?_)
            refine to_ine 59 (dat dk_X12_about 27 rfl) rfl hq (by decide) (fun c35 => ?_) (fun c35 => ?_)
            · skip
              refine to_aload_n (dat dk_X12_about 32 rfl) rfl (to_iload_n (dat dk_X12_about 33 rfl) rfl ?_)
              have e37 : h31.2.2 60 4 = x1 := ((Fr.get fh31 (by have := I2.1.1; omega) rfl).trans e6)
              have z36 := p32_0.2.2 (Int.toNat n) (by omega)
              rw [show h31.2.2 65 = h.2.2 65 from f33.arr hI (by decide) (fun _ => rfl)] at z36
              refine to_cI ca_c13_533 (dat dk_X12_about 34 rfl) (ct_X12_depth l h31 Ih31 n hn p32_0 (show 0 ≤ n ∧ n ≤ 199 by omega) (show h31.2.2 87 (Int.toNat n) < h31.2.2 60 37 by omega)) rfl ⟨_, _, rfl, (Ih31.atS rfl)⟩ rfl (fun x38 h39 rx38 p40 => ?_)
              subst p40
              exact to_iret rfl (dat dk_X12_about 35 rfl) (ri_mk rx38 ⟨Ih31, f33, p32_1⟩)
            · skip
              refine to_aload_n (dat dk_X12_about 28 rfl) rfl (to_iload_n (dat dk_X12_about 29 rfl) rfl ?_)
              have e42 : h31.2.2 60 4 = x1 := ((Fr.get fh31 (by have := I2.1.1; omega) rfl).trans e6)
              have z41 := p32_0.2.2 (Int.toNat n) (by omega)
              rw [show h31.2.2 65 = h.2.2 65 from f33.arr hI (by decide) (fun _ => rfl)] at z41
              obtain ⟨x43, ex43⟩ : ∃ y : Int, h31.2.2 60 37 = y := ⟨_, rfl⟩
              have rx43 := Ih31.atR (a := 60) (j := 37) rfl
              rw [ex43] at rx43
              refine to_cI ca_c13_530 (dat dk_X12_about 30 rfl) (ct_X12_parentOf l h31 Ih31 n hn p32_0 (show 0 ≤ n ∧ n ≤ 199 by omega) (show h31.2.2 87 (Int.toNat n) < h31.2.2 60 37 by omega)) rfl ⟨_, _, rfl, (Ih31.atS rfl)⟩ rfl (fun x44 h45 rx44 p46 => ?_)
              obtain ⟨rfl, p46_0, p46_1⟩ := p46
              refine to_goto (dat dk_X12_about 31 rfl) rfl ?_
              exact to_iret rfl (dat dk_X12_about 35 rfl) (ri_mk rx44 ⟨Ih31, f33, p32_1⟩)
          · skip
            refine to_aload_n (dat dk_X12_about 21 rfl) rfl (to_iload_n (dat dk_X12_about 22 rfl) rfl ?_)
            have e48 : h31.2.2 60 4 = x1 := ((Fr.get fh31 (by have := I2.1.1; omega) rfl).trans e6)
            have z47 := p32_0.2.2 (Int.toNat n) (by omega)
            rw [show h31.2.2 65 = h.2.2 65 from f33.arr hI (by decide) (fun _ => rfl)] at z47
            refine to_cI ca_c13_486 (dat dk_X12_about 23 rfl) (ct_X12_threadOf l h31 Ih31 n hn p32_0 (show 0 ≤ n ∧ n ≤ 199 by omega) (show h31.2.2 87 (Int.toNat n) < h31.2.2 60 37 by omega)) rfl ⟨_, _, rfl, (Ih31.atS rfl)⟩ rfl (fun x49 h50 rx49 p51 => ?_)
            obtain ⟨rfl, p51_0⟩ := p51
            refine to_goto (dat dk_X12_about 24 rfl) rfl ?_
            exact to_iret rfl (dat dk_X12_about 35 rfl) (ri_mk rx49 ⟨Ih31, f33, p32_1⟩)
      · skip
        refine to_iconst (dat dk_X12_about 12 rfl) ?_
        exact to_iret rfl (dat dk_X12_about 13 rfl) (ri_mk (by decide) ⟨I2, f3, t5⟩)
abbrev Q_X12_at (h : Hp) (n : Int) (f : Int) (i : Int) (k : Int) : Option V → Hp → Nat → Nat → Prop := RI (fun x H => Inv H ∧ Fr [69, 70, 71, 72, 73, 74, 75, 76, 77, 78, 79, 80, 81, 82, 212, 216, 218, 219, 223, 225, 226, 228, 229, 233, 236, 200] h H ∧ (Cch H))
set_option maxRecDepth 100000 in
theorem ct_X12_at (l : Launch) (h : Hp) (hI : Inv h) (n : Int) (hn : I32 n) (f : Int) (hf : I32 f) (i : Int) (hi : I32 i) (k : Int) (hk : I32 k) (g0 : Cch h) (g1 : h.2.2 60 4 ≤ 64) : Ct l D_X12_at 7 171 [.inr (.inr 60), .inl n, .inl f, .inl i, .inl k] h (Q_X12_at h n f i k) := by
  refine ct_of pn_X12_at (Nat.le_of_ble_eq_true rfl) ?_
  show To l E_X12_at (0, [(0, .inr (.inr 60)), (1, .inl n), (2, .inl f), (3, .inl i), (4, .inl k)], [], h, 0, 0) _
  have z04 := hI.atR (a := 60) (j := 4) rfl
  obtain ⟨x1, ex1⟩ : ∃ y : Int, h.2.2 60 4 = y := ⟨_, rfl⟩
  have rx1 := hI.atR (a := 60) (j := 4) rfl
  rw [ex1] at rx1
  refine to_aload_n (dat dk_X12_at 0 rfl) rfl (to_iconst (dat dk_X12_at 1 rfl) (to_putIw p_c13_154 (dat dk_X12_at 2 rfl) (hI.atS rfl) ?_))
  intro h4 wh4
  have I2 : Inv h4 := by rw [wh4]; exact hI.put (a := 60) (j := 0) (x := 0) (0) (3) rfl rfl (show (0 : Int) ≤ 0 ∧ 0 ≤ 3 by decide)
  have f3 : Fr [69, 70, 71, 72, 73, 74, 75, 76, 77, 78, 79, 80, 81, 82, 212, 216, 218, 219, 223, 225, 226, 228, 229, 233, 236, 200] h h4 := by rw [wh4]; exact Fr.putF (a := 60) (j := 0) (x := 0) (Fr.rf _ _) rfl
  have t5 : Cch h4 := by rw [wh4]; exact Cch_wr rfl g0
  refine to_aload_n (dat dk_X12_at 3 rfl) rfl (to_iload_n (dat dk_X12_at 4 rfl) rfl ?_)
  have e6 : h4.2.2 60 4 = x1 := (by rw [wh4]; exact ex1)
  refine to_cI ca_c13_505 (dat dk_X12_at 5 rfl) (ct_X12_isThere_vb l h4 I2 n hn) rfl ⟨_, _, rfl, (I2.atS rfl)⟩ rfl (fun x7 h8 rx7 p9 => ?_)
  obtain ⟨rfl, zx7, p9_0⟩ := p9
  have rzx7 := z_lin zx7
  clear zx7
  clear rx7
  have rx7 := rzx7
  clear rzx7
  refine to_ifeq 32 (dat dk_X12_at 6 rfl) rfl (z_i32 rx7) (fun c10 => ?_) (fun c10 => ?_)
  · skip
    refine to_iconst (dat dk_X12_at 16 rfl) ?_
    exact to_iret rfl (dat dk_X12_at 17 rfl) (ri_mk (by decide) ⟨I2, f3, t5⟩)
  · skip
    replace c10 := z_one rx7 c10
    refine to_iload_n (dat dk_X12_at 7 rfl) rfl ?_
    refine to_iflt 32 (dat dk_X12_at 8 rfl) rfl hf (fun c11 => ?_) (fun c11 => ?_)
    · skip
      refine to_iconst (dat dk_X12_at 16 rfl) ?_
      exact to_iret rfl (dat dk_X12_at 17 rfl) (ri_mk (by decide) ⟨I2, f3, t5⟩)
    · skip
      refine to_iload_n (dat dk_X12_at 9 rfl) rfl (to_bipush (dat dk_X12_at 10 rfl) (by decide) ?_)
      refine to_igt 32 (dat dk_X12_at 11 rfl) rfl hf (by decide) (fun c12 => ?_) (fun c12 => ?_)
      · skip
        refine to_iconst (dat dk_X12_at 16 rfl) ?_
        exact to_iret rfl (dat dk_X12_at 17 rfl) (ri_mk (by decide) ⟨I2, f3, t5⟩)
      · skip
        refine to_iload_n (dat dk_X12_at 12 rfl) rfl ?_
        refine to_iflt 32 (dat dk_X12_at 13 rfl) rfl hi (fun c13 => ?_) (fun c13 => ?_)
        · skip
          refine to_iconst (dat dk_X12_at 16 rfl) ?_
          exact to_iret rfl (dat dk_X12_at 17 rfl) (ri_mk (by decide) ⟨I2, f3, t5⟩)
        · skip
          refine to_iload (dat dk_X12_at 14 rfl) rfl ?_
          refine to_ifge 34 (dat dk_X12_at 15 rfl) rfl hk (fun c14 => ?_) (fun c14 => ?_)
          · skip
            refine to_aload_n (dat dk_X12_at 18 rfl) rfl (to_iload_n (dat dk_X12_at 19 rfl) rfl ?_)
            refine to_cV ca_c13_373 (dat dk_X12_at 20 rfl) (ct_X12_read l h4 I2 n hn t5 (show 0 ≤ n ∧ n < h4.2.2 60 4 by omega)) rfl ⟨_, _, rfl, (I2.atS rfl)⟩ rfl (fun h16 p17 => ?_)
            obtain ⟨Ih16, fh16, p17_0, p17_1⟩ := p17
            have f18 : Fr [69, 70, 71, 72, 73, 74, 75, 76, 77, 78, 79, 80, 81, 82, 212, 216, 218, 219, 223, 225, 226, 228, 229, 233, 236, 200] h h16 := Fr.sub f3 fh16 rfl
            obtain ⟨x19, ex19⟩ : ∃ y : Int, h16.2.2 60 12 = y := ⟨_, rfl⟩
            have rx19 := Ih16.atR (a := 60) (j := 12) rfl
            rw [ex19] at rx19
            refine to_iload_n (dat dk_X12_at 21 rfl) rfl (to_iconst (dat dk_X12_at 22 rfl) ?_)
            refine to_ige 98 (dat dk_X12_at 23 rfl) rfl hf (by decide) (fun c20 => ?_) (fun c20 => ?_)
            · skip
              refine to_iload_n (dat dk_X12_at 57 rfl) rfl (to_iconst (dat dk_X12_at 58 rfl) ?_)
              refine to_ine 151 (dat dk_X12_at 59 rfl) rfl hf (by decide) (fun c21 => ?_) (fun c21 => ?_)
              · skip
                refine to_iload_n (dat dk_X12_at 91 rfl) rfl (to_iconst (dat dk_X12_at 92 rfl) ?_)
                refine to_ine 185 (dat dk_X12_at 93 rfl) rfl hf (by decide) (fun c22 => ?_) (fun c22 => ?_)
                · skip
                  refine to_iload_n (dat dk_X12_at 109 rfl) rfl (to_aload_n (dat dk_X12_at 110 rfl) rfl ?_)
                  obtain ⟨x23, ex23⟩ : ∃ y : Int, h16.2.2 60 19 = y := ⟨_, rfl⟩
                  have rx23 := Ih16.atR (a := 60) (j := 19) rfl
                  rw [ex23] at rx23
                  refine to_getIv (y := x23) ex23 g_c13_336 (dat dk_X12_at 111 rfl) (Ih16.atS rfl) ?_
                  refine to_ige 223 (dat dk_X12_at 112 rfl) rfl hi (by omega) (fun c24 => ?_) (fun c24 => ?_)
                  · skip
                    refine to_iconst (dat dk_X12_at 130 rfl) ?_
                    exact to_iret rfl (dat dk_X12_at 131 rfl) (ri_mk (by decide) ⟨Ih16, f18, p17_0⟩)
                  · skip
                    refine to_iload (dat dk_X12_at 113 rfl) rfl (to_aload_n (dat dk_X12_at 114 rfl) rfl (to_getR 74 g_c13_57 (dat dk_X12_at 115 rfl) (Ih16.atS rfl) (Ih16.atE rfl) (to_iload_n (dat dk_X12_at 116 rfl) rfl ?_)))
                    obtain ⟨x25, ex25⟩ : ∃ y : Int, h16.2.2 74 (Int.toNat i) = y := ⟨_, rfl⟩
                    have rx25 := Ih16.atR (a := 74) (j := Int.toNat i) rfl
                    rw [ex25] at rx25
                    refine to_ialdv ex25 (dat dk_X12_at 117 rfl) (Ih16.atS rfl) rfl (by decide) (by omega) ?_
                    refine to_ige 223 (dat dk_X12_at 118 rfl) rfl hk (by omega) (fun c26 => ?_) (fun c26 => ?_)
                    · skip
                      refine to_iconst (dat dk_X12_at 130 rfl) ?_
                      exact to_iret rfl (dat dk_X12_at 131 rfl) (ri_mk (by decide) ⟨Ih16, f18, p17_0⟩)
                    · skip
                      refine to_aload_n (dat dk_X12_at 119 rfl) rfl (to_getR 73 g_c13_54 (dat dk_X12_at 120 rfl) (Ih16.atS rfl) (Ih16.atE rfl) (to_bipush (dat dk_X12_at 121 rfl) (by decide) (to_iload_n (dat dk_X12_at 122 rfl) rfl (to_imul (dat dk_X12_at 123 rfl) (to_iload (dat dk_X12_at 124 rfl) rfl (to_iadd (dat dk_X12_at 125 rfl) ?_))))))
                      obtain ⟨x27, ex27⟩ : ∃ y : Int, h16.2.2 73 (Int.toNat ((60 * i) + k)) = y := ⟨_, rfl⟩
                      have rx27 := Ih16.atR (a := 73) (j := Int.toNat ((60 * i) + k)) rfl
                      rw [ex27] at rx27
                      refine to_baldv (q := 1) ex27 (dat dk_X12_at 126 rfl) (by decide) (Ih16.atS rfl) rfl (by decide) (by omega) (to_sipush (dat dk_X12_at 127 rfl) (by decide) ?_)
                      refine to_iand 255 255 (dat dk_X12_at 128 rfl) (by decide) (by decide) (fun x28 rx28 mx28 => ?_)
                      refine to_goto (dat dk_X12_at 129 rfl) rfl ?_
                      exact to_iret rfl (dat dk_X12_at 131 rfl) (ri_mk rx28 ⟨Ih16, f18, p17_0⟩)
                · skip
                  refine to_iload_n (dat dk_X12_at 94 rfl) rfl ?_
                  refine to_ifne 183 (dat dk_X12_at 95 rfl) rfl hi (fun c29 => ?_) (fun c29 => ?_)
                  · skip
                    refine to_iconst (dat dk_X12_at 107 rfl) ?_
                    exact to_iret rfl (dat dk_X12_at 108 rfl) (ri_mk (by decide) ⟨Ih16, f18, p17_0⟩)
                  · skip
                    refine to_iload (dat dk_X12_at 96 rfl) rfl (to_aload_n (dat dk_X12_at 97 rfl) rfl ?_)
                    obtain ⟨x30, ex30⟩ : ∃ y : Int, h16.2.2 60 18 = y := ⟨_, rfl⟩
                    have rx30 := Ih16.atR (a := 60) (j := 18) rfl
                    rw [ex30] at rx30
                    refine to_getIv (y := x30) ex30 g_c13_364 (dat dk_X12_at 98 rfl) (Ih16.atS rfl) ?_
                    refine to_ige 183 (dat dk_X12_at 99 rfl) rfl hk (by omega) (fun c31 => ?_) (fun c31 => ?_)
                    · skip
                      refine to_iconst (dat dk_X12_at 107 rfl) ?_
                      exact to_iret rfl (dat dk_X12_at 108 rfl) (ri_mk (by decide) ⟨Ih16, f18, p17_0⟩)
                    · skip
                      refine to_aload_n (dat dk_X12_at 100 rfl) rfl (to_getR 72 g_c13_51 (dat dk_X12_at 101 rfl) (Ih16.atS rfl) (Ih16.atE rfl) (to_iload (dat dk_X12_at 102 rfl) rfl ?_))
                      obtain ⟨x32, ex32⟩ : ∃ y : Int, h16.2.2 72 (Int.toNat k) = y := ⟨_, rfl⟩
                      have rx32 := Ih16.atR (a := 72) (j := Int.toNat k) rfl
                      rw [ex32] at rx32
                      refine to_baldv (q := 1) ex32 (dat dk_X12_at 103 rfl) (by decide) (Ih16.atS rfl) rfl (by decide) (by omega) (to_sipush (dat dk_X12_at 104 rfl) (by decide) ?_)
                      refine to_iand 255 255 (dat dk_X12_at 105 rfl) (by decide) (by decide) (fun x33 rx33 mx33 => ?_)
                      refine to_goto (dat dk_X12_at 106 rfl) rfl ?_
                      exact to_iret rfl (dat dk_X12_at 108 rfl) (ri_mk rx33 ⟨Ih16, f18, p17_0⟩)
              · skip
                refine to_iload_n (dat dk_X12_at 60 rfl) rfl (to_aload_n (dat dk_X12_at 61 rfl) rfl (to_getR 68 g_c13_34 (dat dk_X12_at 62 rfl) (Ih16.atS rfl) (Ih16.atE rfl) (to_iload_n (dat dk_X12_at 63 rfl) rfl ?_)))
                obtain ⟨x34, ex34⟩ : ∃ y : Int, h16.2.2 68 (Int.toNat n) = y := ⟨_, rfl⟩
                have rx34 := Ih16.atR (a := 68) (j := Int.toNat n) rfl
                rw [ex34] at rx34
                refine to_ialdv ex34 (dat dk_X12_at 64 rfl) (Ih16.atS rfl) rfl (by decide) (by omega) ?_
                refine to_ige 149 (dat dk_X12_at 65 rfl) rfl hi (by omega) (fun c35 => ?_) (fun c35 => ?_)
                · skip
                  refine to_iconst (dat dk_X12_at 89 rfl) ?_
                  exact to_iret rfl (dat dk_X12_at 90 rfl) (ri_mk (by decide) ⟨Ih16, f18, p17_0⟩)
                · skip
                  refine to_iload (dat dk_X12_at 66 rfl) rfl (to_aload_n (dat dk_X12_at 67 rfl) rfl (to_getR 67 g_c13_31 (dat dk_X12_at 68 rfl) (Ih16.atS rfl) (Ih16.atE rfl) (to_bipush (dat dk_X12_at 69 rfl) (by decide) (to_iload_n (dat dk_X12_at 70 rfl) rfl (to_imul (dat dk_X12_at 71 rfl) (to_iload_n (dat dk_X12_at 72 rfl) rfl (to_iadd (dat dk_X12_at 73 rfl) ?_)))))))
                  obtain ⟨x36, ex36⟩ : ∃ y : Int, h16.2.2 67 (Int.toNat ((8 * n) + i)) = y := ⟨_, rfl⟩
                  have rx36 := Ih16.atR (a := 67) (j := Int.toNat ((8 * n) + i)) rfl
                  rw [ex36] at rx36
                  refine to_ialdv ex36 (dat dk_X12_at 74 rfl) (Ih16.atS rfl) rfl (by decide) (by omega) ?_
                  refine to_ige 149 (dat dk_X12_at 75 rfl) rfl hk (by omega) (fun c37 => ?_) (fun c37 => ?_)
                  · skip
                    refine to_iconst (dat dk_X12_at 89 rfl) ?_
                    exact to_iret rfl (dat dk_X12_at 90 rfl) (ri_mk (by decide) ⟨Ih16, f18, p17_0⟩)
                  · skip
                    refine to_aload_n (dat dk_X12_at 76 rfl) rfl (to_getR 66 g_c13_28 (dat dk_X12_at 77 rfl) (Ih16.atS rfl) (Ih16.atE rfl) (to_bipush (dat dk_X12_at 78 rfl) (by decide) (to_bipush (dat dk_X12_at 79 rfl) (by decide) (to_iload_n (dat dk_X12_at 80 rfl) rfl (to_imul (dat dk_X12_at 81 rfl) (to_iload_n (dat dk_X12_at 82 rfl) rfl (to_iadd (dat dk_X12_at 83 rfl) (to_imul (dat dk_X12_at 84 rfl) (to_iload (dat dk_X12_at 85 rfl) rfl (to_iadd (dat dk_X12_at 86 rfl) ?_))))))))))
                    obtain ⟨x38, ex38⟩ : ∃ y : Int, h16.2.2 66 (Int.toNat ((12 * ((8 * n) + i)) + k)) = y := ⟨_, rfl⟩
                    have rx38 := Ih16.atR (a := 66) (j := Int.toNat ((12 * ((8 * n) + i)) + k)) rfl
                    rw [ex38] at rx38
                    refine to_baldv (q := 1) ex38 (dat dk_X12_at 87 rfl) (by decide) (Ih16.atS rfl) rfl (by decide) (by omega) (to_goto (dat dk_X12_at 88 rfl) rfl ?_)
                    exact to_iret rfl (dat dk_X12_at 90 rfl) (ri_mk (by omega) ⟨Ih16, f18, p17_0⟩)
            · skip
              refine to_iload_n (dat dk_X12_at 24 rfl) rfl (to_aload_n (dat dk_X12_at 25 rfl) rfl (to_getR 69 g_c13_41 (dat dk_X12_at 26 rfl) (Ih16.atS rfl) (Ih16.atE rfl) (to_iload_n (dat dk_X12_at 27 rfl) rfl ?_)))
              obtain ⟨x39, ex39⟩ : ∃ y : Int, h16.2.2 69 (Int.toNat f) = y := ⟨_, rfl⟩
              have rx39 := Ih16.atR (a := 69) (j := Int.toNat f) rfl
              rw [ex39] at rx39
              refine to_ialdv ex39 (dat dk_X12_at 28 rfl) (Ih16.atS rfl) rfl (by decide) (by omega) ?_
              refine to_ige 96 (dat dk_X12_at 29 rfl) rfl hi (by omega) (fun c40 => ?_) (fun c40 => ?_)
              · skip
                refine to_iconst (dat dk_X12_at 55 rfl) ?_
                exact to_iret rfl (dat dk_X12_at 56 rfl) (ri_mk (by decide) ⟨Ih16, f18, p17_0⟩)
              · skip
                refine to_iload (dat dk_X12_at 30 rfl) rfl (to_aload_n (dat dk_X12_at 31 rfl) rfl (to_getR 71 g_c13_48 (dat dk_X12_at 32 rfl) (Ih16.atS rfl) (Ih16.atE rfl) (to_sipush (dat dk_X12_at 33 rfl) (by decide) (to_iload_n (dat dk_X12_at 34 rfl) rfl (to_imul (dat dk_X12_at 35 rfl) (to_iload_n (dat dk_X12_at 36 rfl) rfl (to_iadd (dat dk_X12_at 37 rfl) ?_)))))))
                obtain ⟨x41, ex41⟩ : ∃ y : Int, h16.2.2 71 (Int.toNat ((640 * f) + i)) = y := ⟨_, rfl⟩
                have rx41 := Ih16.atR (a := 71) (j := Int.toNat ((640 * f) + i)) rfl
                rw [ex41] at rx41
                refine to_ialdv ex41 (dat dk_X12_at 38 rfl) (Ih16.atS rfl) rfl (by decide) (by omega) ?_
                refine to_ige 96 (dat dk_X12_at 39 rfl) rfl hk (by omega) (fun c42 => ?_) (fun c42 => ?_)
                · skip
                  refine to_iconst (dat dk_X12_at 55 rfl) ?_
                  exact to_iret rfl (dat dk_X12_at 56 rfl) (ri_mk (by decide) ⟨Ih16, f18, p17_0⟩)
                · skip
                  refine to_aload_n (dat dk_X12_at 40 rfl) rfl (to_getR 70 g_c13_45 (dat dk_X12_at 41 rfl) (Ih16.atS rfl) (Ih16.atE rfl) (to_bipush (dat dk_X12_at 42 rfl) (by decide) (to_sipush (dat dk_X12_at 43 rfl) (by decide) (to_iload_n (dat dk_X12_at 44 rfl) rfl (to_imul (dat dk_X12_at 45 rfl) (to_iload_n (dat dk_X12_at 46 rfl) rfl (to_iadd (dat dk_X12_at 47 rfl) (to_imul (dat dk_X12_at 48 rfl) (to_iload (dat dk_X12_at 49 rfl) rfl (to_iadd (dat dk_X12_at 50 rfl) ?_))))))))))
                  obtain ⟨x43, ex43⟩ : ∃ y : Int, h16.2.2 70 (Int.toNat ((16 * ((640 * f) + i)) + k)) = y := ⟨_, rfl⟩
                  have rx43 := Ih16.atR (a := 70) (j := Int.toNat ((16 * ((640 * f) + i)) + k)) rfl
                  rw [ex43] at rx43
                  refine to_baldv (q := 1) ex43 (dat dk_X12_at 51 rfl) (by decide) (Ih16.atS rfl) rfl (by decide) (by omega) (to_sipush (dat dk_X12_at 52 rfl) (by decide) ?_)
                  refine to_iand 255 255 (dat dk_X12_at 53 rfl) (by decide) (by decide) (fun x44 rx44 mx44 => ?_)
                  refine to_goto (dat dk_X12_at 54 rfl) rfl ?_
                  exact to_iret rfl (dat dk_X12_at 56 rfl) (ri_mk rx44 ⟨Ih16, f18, p17_0⟩)
          · skip
            refine to_iconst (dat dk_X12_at 16 rfl) ?_
            exact to_iret rfl (dat dk_X12_at 17 rfl) (ri_mk (by decide) ⟨I2, f3, t5⟩)
abbrev Q_X12_tag (h : Hp) (n : Int) (o : Int) : Option V → Hp → Nat → Nat → Prop := RI (fun x H => Inv H ∧ Fr [200, 203, 66, 67, 68] h H ∧ (x = 0 ∨ x = 1) ∧ (H.2.2 60 3 = 0))
set_option maxRecDepth 100000 in
set_option maxHeartbeats 4000000 in
theorem ct_X12_tag (l : Launch) (h : Hp) (hI : Inv h) (n : Int) (hn : I32 n) (o : Int) (ho : o = 0 ∨ o = 1) : Ct l D_X12_tag 2 43 [.inr (.inr 60), .inl n, .inl o] h (Q_X12_tag h n o) := by
  refine ct_of pn_X12_tag (Nat.le_of_ble_eq_true rfl) ?_
  show To l E_X12_tag (0, [(0, .inr (.inr 60)), (1, .inl n), (2, .inl o)], [], h, 0, 0) _
  obtain ⟨x1, ex1⟩ : ∃ y : Int, h.2.2 60 3 = y := ⟨_, rfl⟩
  have rx1 := hI.atR (a := 60) (j := 3) rfl
  rw [ex1] at rx1
  obtain ⟨x2, ex2⟩ : ∃ y : Int, h.2.2 60 4 = y := ⟨_, rfl⟩
  have rx2 := hI.atR (a := 60) (j := 4) rfl
  rw [ex2] at rx2
  refine to_aload_n (dat dk_X12_tag 0 rfl) rfl ?_
  refine to_cI ca_c13_502 (dat dk_X12_tag 1 rfl) (ct_X12_take l h hI ) rfl ⟨_, _, rfl, (hI.atS rfl)⟩ rfl (fun x3 h4 rx3 p5 => ?_)
  obtain ⟨Ih4, fh4, p5_0, p5_1⟩ := p5
  have f6 : Fr [200, 203, 66, 67, 68] h h4 := Fr.sub (Fr.rf _ _) fh4 rfl
  obtain ⟨x7, ex7⟩ : ∃ y : Int, h4.2.2 60 3 = y := ⟨_, rfl⟩
  have rx7 := Ih4.atR (a := 60) (j := 3) rfl
  rw [ex7] at rx7
  refine to_istore_n (L' := [(0, .inr (.inr 60)), (1, .inl n), (2, .inl o), (3, .inl x3)]) (dat dk_X12_tag 2 rfl) (by decide) rfl ?_
  obtain ⟨d1, dz1, dp1, dc1⟩ := Ct.det (P := fun x H => x = 0 ∨ (0 ≤ n ∧ n < H.2.2 60 4)) (ct_X12_isThere l h4 Ih4 n hn)
  obtain ⟨d2, dz2, dp2, dc2⟩ := Ct.det (P := fun x _ => x = 0 ∨ (1 ≤ x3 ∧ x3 ≤ 12)) (ct_X12_isTag l h4 Ih4 x3 (by omega) (show x3 ≤ 1200 by omega))
  replace dz1 := z_lin dz1
  replace dz2 := z_lin dz2
  refine to_iload_n (dat dk_X12_tag 3 rfl) rfl (to_istore (L' := [(0, .inr (.inr 60)), (1, .inl n), (2, .inl o), (3, .inl x3), (4, .inl n)]) (dat dk_X12_tag 4 rfl) (by decide) rfl ?_)
  have jn41_n10 : ∀ (y8 : Int), (I32 y8) → (TG d1 d2 n (h4.2.2 60 4) x3 y8 (h4.2.2 68 (Int.toNat n))) → To l E_X12_tag (41, [(0, .inr (.inr 60)), (1, .inl n), (2, .inl o), (3, .inl x3), (4, .inl n)], [.inl y8], h4, 0, 0) (Q_X12_tag h n o) := by
    intro y8 ry8 c9
    refine to_istore (L' := [(0, .inr (.inr 60)), (1, .inl n), (2, .inl o), (3, .inl x3), (4, .inl n), (5, .inl y8)]) (dat dk_X12_tag 22 rfl) (by decide) rfl (to_aload_n (dat dk_X12_tag 23 rfl) rfl ?_)
    have jn95_n14 : ∀ (y11 : Int), (I32 y11) → (0 ≤ y11 ∧ y11 ≤ 3) → (TT y11 d1 d2 o y8 (h4.2.2 68 (Int.toNat n))) → To l E_X12_tag (95, [(0, .inr (.inr 60)), (1, .inl n), (2, .inl o), (3, .inl x3), (4, .inl n), (5, .inl y8)], [.inl y11, .inr (.inr 60)], h4, 0, 0) (Q_X12_tag h n o) := by
      intro y11 ry11 c12 c13
      refine to_putIw p_c13_154 (dat dk_X12_tag 49 rfl) (Ih4.atS rfl) ?_
      intro h17 wh17
      have I15 : Inv h17 := by rw [wh17]; exact Ih4.put (a := 60) (j := 0) (x := y11) (0) (3) rfl rfl (show (0 : Int) ≤ y11 ∧ y11 ≤ 3 by omega)
      have f16 : Fr [200, 203, 66, 67, 68] h h17 := by rw [wh17]; exact Fr.putF (a := 60) (j := 0) (x := y11) f6 rfl
      have z18 : h17.2.2 68 (Int.toNat n) = h4.2.2 68 (Int.toNat n) := by rw [wh17]; exact wr_ne (by decide)
      clear dp1 dp2
      refine to_aload_n (dat dk_X12_tag 50 rfl) rfl (to_getIv (y := y11) (by rw [wh17]; exact wr_eq) g_c13_154 (dat dk_X12_tag 51 rfl) (I15.atS rfl) ?_)
      refine to_ifgt 119 (dat dk_X12_tag 52 rfl) rfl ry11 (fun c19 => ?_) (fun c19 => ?_)
      · skip
        refine to_iconst (dat dk_X12_tag 60 rfl) ?_
        have e20 : h17.2.2 60 3 = x7 := (by rw [wh17]; exact ex7)
        exact to_zret rfl (dat dk_X12_tag 61 rfl) (by decide) (ri_mk (by decide) ⟨I15, f16, (by decide), (show h17.2.2 60 3 = 0 by omega)⟩)
      · skip
        obtain ⟨z21a, z21b, z21c⟩ := c13 (by omega)
        have z21d := c9 z21a z21b
        have z21e := Ih4.atR (a := 60) (j := 4) rfl
        refine to_iload_n (dat dk_X12_tag 53 rfl) rfl ?_
        have jn116_n24 : ∀ (y22 : Int), (y22 = 0 ∨ y22 = 1) → ((y22 = 1 ∧ 0 ≤ y8) ∨ (y22 = 0 ∧ y8 < 0)) → To l E_X12_tag (116, [(0, .inr (.inr 60)), (1, .inl n), (2, .inl o), (3, .inl x3), (4, .inl n), (5, .inl y8)], [.inl y22, .inl o], h17, 0, 0) (Q_X12_tag h n o) := by
          intro y22 ry22 c23
          replace ry22 := z_lin ry22
          refine to_ine 121 (dat dk_X12_tag 59 rfl) rfl (by omega) (z_i32 ry22) (fun c25 => ?_) (fun c25 => ?_)
          · skip
            refine to_iload_n (dat dk_X12_tag 62 rfl) rfl ?_
            refine to_ifne 172 (dat dk_X12_tag 63 rfl) rfl (by omega) (fun c26 => ?_) (fun c26 => ?_)
            · skip
              have z27 := z21c (by omega) (by omega)
              refine to_aload_n (dat dk_X12_tag 91 rfl) rfl (to_getR 68 g_c13_34 (dat dk_X12_tag 92 rfl) (I15.atS rfl) (I15.atE rfl) (to_iload (dat dk_X12_tag 93 rfl) rfl ?_))
              obtain ⟨x28, ex28⟩ : ∃ y : Int, h17.2.2 68 (Int.toNat n) = y := ⟨_, rfl⟩
              have rx28 := I15.atR (a := 68) (j := Int.toNat n) rfl
              rw [ex28] at rx28
              refine to_ialdv ex28 (dat dk_X12_tag 94 rfl) (I15.atS rfl) rfl (by decide) (by omega) (to_istore (L' := [(0, .inr (.inr 60)), (1, .inl n), (2, .inl o), (3, .inl x3), (4, .inl n), (5, .inl y8), (6, .inl x28)]) (dat dk_X12_tag 95 rfl) (by decide) rfl ?_)
              have e33 : h17.2.2 60 3 = x7 := (by rw [wh17]; exact ex7)
              have lp181_n35 : ∀ (n35 : Nat) (y29 : Int) (h30 : Hp), (I32 y29) → (Inv h30) → (Fr [200, 203, 66, 67, 68] h h30) → (y29 ≤ 7) → (h30.2.2 68 (Int.toNat n) ≤ 7) → (h30.2.2 60 3 = 0) → (y29 ≤ (n35 : Int)) → To l E_X12_tag (181, [(0, .inr (.inr 60)), (1, .inl n), (2, .inl o), (3, .inl x3), (4, .inl n), (5, .inl y8), (6, .inl y29)], [], h30, 0, 0) (Q_X12_tag h n o) := by
                intro n35
                induction n35 using Nat.strongRecOn with
                | _ n35 ihn35 =>
                intro y29 h30 ry29 Ih30 fh30 c31 c32 c34 c36
                obtain ⟨x37, ex37⟩ : ∃ y : Int, h30.2.2 60 3 = y := ⟨_, rfl⟩
                have rx37 := Ih30.atR (a := 60) (j := 3) rfl
                rw [ex37] at rx37
                refine to_iload (dat dk_X12_tag 96 rfl) rfl (to_iconst (dat dk_X12_tag 97 rfl) (to_iload (dat dk_X12_tag 98 rfl) rfl (to_isub (dat dk_X12_tag 99 rfl) ?_)))
                refine to_ile 208 (dat dk_X12_tag 100 rfl) rfl ry29 (by omega) (fun c38 => ?_) (fun c38 => ?_)
                · skip
                  refine to_iconst (dat dk_X12_tag 110 rfl) (to_istore (L' := [(0, .inr (.inr 60)), (1, .inl n), (2, .inl o), (3, .inl x3), (4, .inl n), (5, .inl y8), (6, .inl 0)]) (dat dk_X12_tag 111 rfl) (by decide) rfl ?_)
                  have lp211_n44 : ∀ (n44 : Nat) (y39 : Int) (h40 : Hp), (I32 y39) → (Inv h40) → (Fr [200, 203, 66, 67, 68] h h40) → (0 ≤ y39) → (h40.2.2 68 (Int.toNat n) ≤ 7) → (h40.2.2 60 3 = 0) → (x3 - y39 ≤ (n44 : Int)) → To l E_X12_tag (211, [(0, .inr (.inr 60)), (1, .inl n), (2, .inl o), (3, .inl x3), (4, .inl n), (5, .inl y8), (6, .inl y39)], [], h40, 0, 0) (Q_X12_tag h n o) := by
                    intro n44
                    induction n44 using Nat.strongRecOn with
                    | _ n44 ihn44 =>
                    intro y39 h40 ry39 Ih40 fh40 c41 c42 c43 c45
                    obtain ⟨x46, ex46⟩ : ∃ y : Int, h40.2.2 60 3 = y := ⟨_, rfl⟩
                    have rx46 := Ih40.atR (a := 60) (j := 3) rfl
                    rw [ex46] at rx46
                    refine to_iload (dat dk_X12_tag 112 rfl) rfl (to_iload_n (dat dk_X12_tag 113 rfl) rfl ?_)
                    refine to_ige 251 (dat dk_X12_tag 114 rfl) rfl ry39 rx3 (fun c47 => ?_) (fun c47 => ?_)
                    · skip
                      refine to_aload_n (dat dk_X12_tag 135 rfl) rfl (to_getR 67 g_c13_31 (dat dk_X12_tag 136 rfl) (Ih40.atS rfl) (Ih40.atE rfl) (to_bipush (dat dk_X12_tag 137 rfl) (by decide) (to_iload (dat dk_X12_tag 138 rfl) rfl (to_imul (dat dk_X12_tag 139 rfl) (to_iconst (dat dk_X12_tag 140 rfl) (to_isub (dat dk_X12_tag 141 rfl) (to_iload (dat dk_X12_tag 142 rfl) rfl (to_isub (dat dk_X12_tag 143 rfl) (to_iload_n (dat dk_X12_tag 144 rfl) rfl (to_iastw (dat dk_X12_tag 145 rfl) (Ih40.atS rfl) rfl (by decide) (by omega) ?_))))))))))
                      intro h50 wh50
                      have I48 : Inv h50 := by rw [wh50]; exact Ih40.put (a := 67) (j := (Int.toNat (((8 * n) - 1) - y8))) (x := x3) (0) (12) rfl rfl (show (0 : Int) ≤ x3 ∧ x3 ≤ 12 by omega)
                      have f49 : Fr [200, 203, 66, 67, 68] h h50 := by rw [wh50]; exact Fr.putF (a := 67) (j := (Int.toNat (((8 * n) - 1) - y8))) (x := x3) fh40 rfl
                      have z51 : h50.2.2 68 (Int.toNat n) = h40.2.2 68 (Int.toNat n) := by rw [wh50]; exact wr_ne (by decide)
                      refine to_aload_n (dat dk_X12_tag 146 rfl) rfl (to_getR 68 g_c13_34 (dat dk_X12_tag 147 rfl) (I48.atS rfl) (I48.atE rfl) (to_iload (dat dk_X12_tag 148 rfl) rfl (to_dup2 (dat dk_X12_tag 149 rfl) rfl rfl ?_)))
                      obtain ⟨x52, ex52⟩ : ∃ y : Int, h50.2.2 68 (Int.toNat n) = y := ⟨_, rfl⟩
                      have rx52 := I48.atR (a := 68) (j := Int.toNat n) rfl
                      rw [ex52] at rx52
                      refine to_ialdv ex52 (dat dk_X12_tag 150 rfl) (I48.atS rfl) rfl (by decide) (by omega) (to_iconst (dat dk_X12_tag 151 rfl) (to_iadd (dat dk_X12_tag 152 rfl) (to_iastw (dat dk_X12_tag 153 rfl) (I48.atS rfl) rfl (by decide) (by omega) ?_)))
                      intro h55 wh55
                      have I53 : Inv h55 := by rw [wh55]; exact I48.put (a := 68) (j := (Int.toNat n)) (x := (x52 + 1)) (0) (8) rfl rfl (show (0 : Int) ≤ (x52 + 1) ∧ (x52 + 1) ≤ 8 by omega)
                      have f54 : Fr [200, 203, 66, 67, 68] h h55 := by rw [wh55]; exact Fr.putF (a := 68) (j := (Int.toNat n)) (x := (x52 + 1)) f49 rfl
                      refine to_iconst (dat dk_X12_tag 154 rfl) ?_
                      have e56 : h55.2.2 60 3 = x46 := (by rw [wh55]; exact (show h50.2.2 60 3 = x46 from (by rw [wh50]; exact ex46)))
                      exact to_zret rfl (dat dk_X12_tag 155 rfl) (by decide) (ri_mk (by decide) ⟨I53, f54, (by decide), (show h55.2.2 60 3 = 0 by omega)⟩)
                    · skip
                      refine to_aload_n (dat dk_X12_tag 115 rfl) rfl (to_getR 66 g_c13_28 (dat dk_X12_tag 116 rfl) (Ih40.atS rfl) (Ih40.atE rfl) (to_bipush (dat dk_X12_tag 117 rfl) (by decide) (to_bipush (dat dk_X12_tag 118 rfl) (by decide) (to_iload (dat dk_X12_tag 119 rfl) rfl (to_imul (dat dk_X12_tag 120 rfl) (to_iconst (dat dk_X12_tag 121 rfl) (to_isub (dat dk_X12_tag 122 rfl) (to_iload (dat dk_X12_tag 123 rfl) rfl (to_isub (dat dk_X12_tag 124 rfl) (to_imul (dat dk_X12_tag 125 rfl) (to_iload (dat dk_X12_tag 126 rfl) rfl (to_iadd (dat dk_X12_tag 127 rfl) (to_aload_n (dat dk_X12_tag 128 rfl) rfl (to_getR 62 g_c13_13 (dat dk_X12_tag 129 rfl) (Ih40.atS rfl) (Ih40.atE rfl) (to_iload (dat dk_X12_tag 130 rfl) rfl ?_)))))))))))))))
                      obtain ⟨x57, ex57⟩ : ∃ y : Int, h40.2.2 62 (Int.toNat y39) = y := ⟨_, rfl⟩
                      have rx57 := Ih40.atR (a := 62) (j := Int.toNat y39) rfl
                      rw [ex57] at rx57
                      refine to_baldv (q := 1) ex57 (dat dk_X12_tag 131 rfl) (by decide) (Ih40.atS rfl) rfl (by decide) (by omega) (to_bastw (dat dk_X12_tag 132 rfl) (Ih40.atS rfl) rfl (by decide) (by omega) ?_)
                      intro h60 wh60
                      have I58 : Inv h60 := by rw [wh60]; exact Ih40.put (a := 66) (j := (Int.toNat ((12 * (((8 * n) - 1) - y8)) + y39))) (x := (b8 x57)) (-128) (127) rfl rfl (show (-128 : Int) ≤ (b8 x57) ∧ (b8 x57) ≤ 127 by have := b8_in x57; omega)
                      have f59 : Fr [200, 203, 66, 67, 68] h h60 := by rw [wh60]; exact Fr.putF (a := 66) (j := (Int.toNat ((12 * (((8 * n) - 1) - y8)) + y39))) (x := (b8 x57)) fh40 rfl
                      refine to_iinc (L' := [(0, .inr (.inr 60)), (1, .inl n), (2, .inl o), (3, .inl x3), (4, .inl n), (5, .inl y8), (6, .inl (y39 + 1))]) (dat dk_X12_tag 133 rfl) rfl (by decide) rfl (to_goto (dat dk_X12_tag 134 rfl) rfl ?_)
                      have e61 : h60.2.2 60 3 = x46 := (by rw [wh60]; exact ex46)
                      exact ihn44 (n44 - 1) (by omega) (y39 + 1) h60 (by omega) I58 f59 (show 0 ≤ (y39 + 1) by omega) (by rw [wh60, wr_ne (by decide)]; omega) (show h60.2.2 60 3 = 0 by omega) (show x3 - (y39 + 1) ≤ ((n44 - 1 : Nat) : Int) by omega)
                  exact lp211_n44 (x3 - (0 : Int)).toNat 0 h30 (by decide) Ih30 fh30 (show 0 ≤ (0 : Int) by omega) (by omega) (show h30.2.2 60 3 = 0 by omega) (by omega)
                · skip
                  refine to_aload_n (dat dk_X12_tag 101 rfl) rfl (to_iload (dat dk_X12_tag 102 rfl) rfl (to_iload (dat dk_X12_tag 103 rfl) rfl (to_iconst (dat dk_X12_tag 104 rfl) (to_isub (dat dk_X12_tag 105 rfl) (to_iload (dat dk_X12_tag 106 rfl) rfl ?_)))))
                  refine to_cV ca_c13_511 (dat dk_X12_tag 107 rfl) (ct_X12_moveTag l h30 Ih30 n hn (y29 - 1) (by omega) y29 ry29 (show 0 ≤ n ∧ n ≤ 199 by omega) (show 0 ≤ (y29 - 1) ∧ (y29 - 1) ≤ 7 by omega) (show 0 ≤ y29 ∧ y29 ≤ 7 by omega)) rfl ⟨_, _, rfl, (Ih30.atS rfl)⟩ rfl (fun h63 p64 => ?_)
                  obtain ⟨Ih63, fh63⟩ := p64
                  have f65 : Fr [200, 203, 66, 67, 68] h h63 := Fr.sub fh30 fh63 rfl
                  refine to_iinc (L' := [(0, .inr (.inr 60)), (1, .inl n), (2, .inl o), (3, .inl x3), (4, .inl n), (5, .inl y8), (6, .inl (y29 + (-1)))]) (dat dk_X12_tag 108 rfl) rfl (by decide) rfl (to_goto (dat dk_X12_tag 109 rfl) rfl ?_)
                  have e66 : h63.2.2 60 3 = x37 := ((Fr.get fh63 (by have := Ih30.1.1; omega) rfl).trans ex37)
                  exact ihn35 (n35 - 1) (by omega) (y29 + (-1)) h63 (by omega) Ih63 f65 (show (y29 + (-1)) ≤ 7 by omega) (by rw [fh63.arr Ih30 (a := 68) (by decide) (fun _ => rfl)]; omega) (show h63.2.2 60 3 = 0 by omega) (show (y29 + (-1)) ≤ ((n35 - 1 : Nat) : Int) by omega)
              exact lp181_n35 (x28).toNat x28 h17 (by omega) I15 f16 (show x28 ≤ 7 by omega) (by omega) (show h17.2.2 60 3 = 0 by omega) (by omega)
            · skip
              refine to_aload_n (dat dk_X12_tag 64 rfl) rfl (to_getR 68 g_c13_34 (dat dk_X12_tag 65 rfl) (I15.atS rfl) (I15.atE rfl) (to_iload (dat dk_X12_tag 66 rfl) rfl (to_dup2 (dat dk_X12_tag 67 rfl) rfl rfl ?_)))
              obtain ⟨x67, ex67⟩ : ∃ y : Int, h17.2.2 68 (Int.toNat n) = y := ⟨_, rfl⟩
              have rx67 := I15.atR (a := 68) (j := Int.toNat n) rfl
              rw [ex67] at rx67
              refine to_ialdv ex67 (dat dk_X12_tag 68 rfl) (I15.atS rfl) rfl (by decide) (by omega) (to_iconst (dat dk_X12_tag 69 rfl) (to_isub (dat dk_X12_tag 70 rfl) (to_iastw (dat dk_X12_tag 71 rfl) (I15.atS rfl) rfl (by decide) (by omega) ?_)))
              intro h70 wh70
              have I68 : Inv h70 := by rw [wh70]; exact I15.put (a := 68) (j := (Int.toNat n)) (x := (x67 - 1)) (0) (8) rfl rfl (show (0 : Int) ≤ (x67 - 1) ∧ (x67 - 1) ≤ 8 by omega)
              have f69 : Fr [200, 203, 66, 67, 68] h h70 := by rw [wh70]; exact Fr.putF (a := 68) (j := (Int.toNat n)) (x := (x67 - 1)) f16 rfl
              refine to_iload (dat dk_X12_tag 72 rfl) rfl (to_istore (L' := [(0, .inr (.inr 60)), (1, .inl n), (2, .inl o), (3, .inl x3), (4, .inl n), (5, .inl y8), (6, .inl y8)]) (dat dk_X12_tag 73 rfl) (by decide) rfl ?_)
              have e76 : h70.2.2 60 3 = x7 := (by rw [wh70]; exact (show h17.2.2 60 3 = x7 from (by rw [wh17]; exact ex7)))
              have lp140_n78 : ∀ (n78 : Nat) (y71 : Int) (h72 : Hp), (I32 y71) → (Inv h72) → (Fr [200, 203, 66, 67, 68] h h72) → (y8 ≤ y71) → (0 ≤ y71) → (h72.2.2 68 (Int.toNat n) ≤ 7) → (h72.2.2 60 3 = 0) → (9 - y71 ≤ (n78 : Int)) → To l E_X12_tag (140, [(0, .inr (.inr 60)), (1, .inl n), (2, .inl o), (3, .inl x3), (4, .inl n), (5, .inl y8), (6, .inl y71)], [], h72, 0, 0) (Q_X12_tag h n o) := by
                intro n78
                induction n78 using Nat.strongRecOn with
                | _ n78 ihn78 =>
                intro y71 h72 ry71 Ih72 fh72 c73 c74 c75 c77 c79
                obtain ⟨x80, ex80⟩ : ∃ y : Int, h72.2.2 60 3 = y := ⟨_, rfl⟩
                have rx80 := Ih72.atR (a := 60) (j := 3) rfl
                rw [ex80] at rx80
                refine to_iload (dat dk_X12_tag 74 rfl) rfl (to_aload_n (dat dk_X12_tag 75 rfl) rfl (to_getR 68 g_c13_34 (dat dk_X12_tag 76 rfl) (Ih72.atS rfl) (Ih72.atE rfl) (to_iload (dat dk_X12_tag 77 rfl) rfl ?_)))
                obtain ⟨x81, ex81⟩ : ∃ y : Int, h72.2.2 68 (Int.toNat n) = y := ⟨_, rfl⟩
                have rx81 := Ih72.atR (a := 68) (j := Int.toNat n) rfl
                rw [ex81] at rx81
                refine to_ialdv ex81 (dat dk_X12_tag 78 rfl) (Ih72.atS rfl) rfl (by decide) (by omega) ?_
                refine to_ige 170 (dat dk_X12_tag 79 rfl) rfl ry71 (by omega) (fun c82 => ?_) (fun c82 => ?_)
                · skip
                  refine to_iconst (dat dk_X12_tag 89 rfl) ?_
                  exact to_zret rfl (dat dk_X12_tag 90 rfl) (by decide) (ri_mk (by decide) ⟨Ih72, fh72, (by decide), (show h72.2.2 60 3 = 0 by omega)⟩)
                · skip
                  refine to_aload_n (dat dk_X12_tag 80 rfl) rfl (to_iload (dat dk_X12_tag 81 rfl) rfl (to_iload (dat dk_X12_tag 82 rfl) rfl (to_iconst (dat dk_X12_tag 83 rfl) (to_iadd (dat dk_X12_tag 84 rfl) (to_iload (dat dk_X12_tag 85 rfl) rfl ?_)))))
                  refine to_cV ca_c13_511 (dat dk_X12_tag 86 rfl) (ct_X12_moveTag l h72 Ih72 n hn (y71 + 1) (by omega) y71 ry71 (show 0 ≤ n ∧ n ≤ 199 by omega) (show 0 ≤ (y71 + 1) ∧ (y71 + 1) ≤ 7 by omega) (show 0 ≤ y71 ∧ y71 ≤ 7 by omega)) rfl ⟨_, _, rfl, (Ih72.atS rfl)⟩ rfl (fun h84 p85 => ?_)
                  obtain ⟨Ih84, fh84⟩ := p85
                  have f86 : Fr [200, 203, 66, 67, 68] h h84 := Fr.sub fh72 fh84 rfl
                  refine to_iinc (L' := [(0, .inr (.inr 60)), (1, .inl n), (2, .inl o), (3, .inl x3), (4, .inl n), (5, .inl y8), (6, .inl (y71 + 1))]) (dat dk_X12_tag 87 rfl) rfl (by decide) rfl (to_goto (dat dk_X12_tag 88 rfl) rfl ?_)
                  have e87 : h84.2.2 60 3 = x80 := ((Fr.get fh84 (by have := Ih72.1.1; omega) rfl).trans ex80)
                  exact ihn78 (n78 - 1) (by omega) (y71 + 1) h84 (by omega) Ih84 f86 (show y8 ≤ (y71 + 1) by omega) (show 0 ≤ (y71 + 1) by omega) (by rw [fh84.arr Ih72 (a := 68) (by decide) (fun _ => rfl)]; omega) (show h84.2.2 60 3 = 0 by omega) (show 9 - (y71 + 1) ≤ ((n78 - 1 : Nat) : Int) by omega)
              exact lp140_n78 (9 - y8).toNat y8 h70 ry8 I68 f69 (show y8 ≤ y8 by omega) (show 0 ≤ y8 by omega) (by rw [wh70, wr_eq]; omega) (show h70.2.2 60 3 = 0 by omega) (by omega)
          · skip
            refine to_iconst (dat dk_X12_tag 60 rfl) ?_
            have e88 : h17.2.2 60 3 = x7 := (by rw [wh17]; exact ex7)
            exact to_zret rfl (dat dk_X12_tag 61 rfl) (by decide) (ri_mk (by decide) ⟨I15, f16, (by decide), (show h17.2.2 60 3 = 0 by omega)⟩)
        refine to_iload (dat dk_X12_tag 54 rfl) rfl ?_
        refine to_iflt 115 (dat dk_X12_tag 55 rfl) rfl ry8 (fun c89 => ?_) (fun c89 => ?_)
        · skip
          refine to_iconst (dat dk_X12_tag 58 rfl) ?_
          exact jn116_n24 0 (by decide) (show ((0 : Int) = 1 ∧ 0 ≤ y8) ∨ ((0 : Int) = 0 ∧ y8 < 0) by omega)
        · skip
          refine to_iconst (dat dk_X12_tag 56 rfl) (to_goto (dat dk_X12_tag 57 rfl) rfl ?_)
          exact jn116_n24 1 (by decide) (show ((1 : Int) = 1 ∧ 0 ≤ y8) ∨ ((1 : Int) = 0 ∧ y8 < 0) by omega)
    refine to_aload_n (dat dk_X12_tag 24 rfl) rfl (to_iload (dat dk_X12_tag 25 rfl) rfl ?_)
    have e90 : h4.2.2 60 4 = x2 := ((Fr.get fh4 (by have := hI.1.1; omega) rfl).trans ex2)
    refine to_cI ca_c13_505 (dat dk_X12_tag 26 rfl) dc1 rfl ⟨_, _, rfl, (Ih4.atS rfl)⟩ rfl (fun x91 h92 rx91 p93 => ?_)
    obtain ⟨rfl, zx91, p93_0, p93_d⟩ := p93
    have rzx91 := z_lin zx91
    clear zx91
    clear rx91
    have rx91 := rzx91
    clear rzx91
    refine to_ifne 57 (dat dk_X12_tag 27 rfl) rfl (z_i32 rx91) (fun c94 => ?_) (fun c94 => ?_)
    · skip
      replace c94 := z_one rx91 c94
      refine to_aload_n (dat dk_X12_tag 30 rfl) rfl (to_iload_n (dat dk_X12_tag 31 rfl) rfl ?_)
      refine to_cI ca_c13_508 (dat dk_X12_tag 32 rfl) dc2 rfl ⟨_, _, rfl, (Ih4.atS rfl)⟩ rfl (fun x95 h96 rx95 p97 => ?_)
      obtain ⟨rfl, zx95, p97_0, p97_d⟩ := p97
      have rzx95 := z_lin zx95
      clear zx95
      clear rx95
      have rx95 := rzx95
      clear rzx95
      refine to_ifne 69 (dat dk_X12_tag 33 rfl) rfl (z_i32 rx95) (fun c98 => ?_) (fun c98 => ?_)
      · skip
        replace c98 := z_one rx95 c98
        refine to_iload_n (dat dk_X12_tag 36 rfl) rfl ?_
        refine to_ifeq 94 (dat dk_X12_tag 37 rfl) rfl (by omega) (fun c99 => ?_) (fun c99 => ?_)
        · skip
          refine to_iconst (dat dk_X12_tag 48 rfl) ?_
          exact jn95_n14 0 (by decide) (show 0 ≤ (0 : Int) ∧ (0 : Int) ≤ 3 by omega) (fun a1 => by omega)
        · skip
          refine to_iload (dat dk_X12_tag 38 rfl) rfl ?_
          refine to_ifge 94 (dat dk_X12_tag 39 rfl) rfl ry8 (fun c100 => ?_) (fun c100 => ?_)
          · skip
            refine to_iconst (dat dk_X12_tag 48 rfl) ?_
            exact jn95_n14 0 (by decide) (show 0 ≤ (0 : Int) ∧ (0 : Int) ≤ 3 by omega) (fun a1 => by omega)
          · skip
            refine to_aload_n (dat dk_X12_tag 40 rfl) rfl (to_getR 68 g_c13_34 (dat dk_X12_tag 41 rfl) (Ih4.atS rfl) (Ih4.atE rfl) (to_iload (dat dk_X12_tag 42 rfl) rfl ?_))
            obtain ⟨x101, ex101⟩ : ∃ y : Int, h4.2.2 68 (Int.toNat n) = y := ⟨_, rfl⟩
            have rx101 := Ih4.atR (a := 68) (j := Int.toNat n) rfl
            rw [ex101] at rx101
            refine to_ialdv ex101 (dat dk_X12_tag 43 rfl) (Ih4.atS rfl) rfl (by decide) (by omega) (to_bipush (dat dk_X12_tag 44 rfl) (by decide) ?_)
            refine to_ine 94 (dat dk_X12_tag 45 rfl) rfl (by omega) (by decide) (fun c102 => ?_) (fun c102 => ?_)
            · skip
              refine to_iconst (dat dk_X12_tag 48 rfl) ?_
              exact jn95_n14 0 (by decide) (show 0 ≤ (0 : Int) ∧ (0 : Int) ≤ 3 by omega) (fun a1 => by omega)
            · skip
              refine to_iconst (dat dk_X12_tag 46 rfl) (to_goto (dat dk_X12_tag 47 rfl) rfl ?_)
              exact jn95_n14 3 (by decide) (show 0 ≤ (3 : Int) ∧ (3 : Int) ≤ 3 by omega) (fun a1 => by omega)
      · skip
        refine to_iconst (dat dk_X12_tag 34 rfl) (to_goto (dat dk_X12_tag 35 rfl) rfl ?_)
        exact jn95_n14 2 (by decide) (show 0 ≤ (2 : Int) ∧ (2 : Int) ≤ 3 by omega) (fun a1 => by omega)
    · skip
      refine to_iconst (dat dk_X12_tag 28 rfl) (to_goto (dat dk_X12_tag 29 rfl) rfl ?_)
      exact jn95_n14 1 (by decide) (show 0 ≤ (1 : Int) ∧ (1 : Int) ≤ 3 by omega) (fun a1 => by omega)
  refine to_aload_n (dat dk_X12_tag 5 rfl) rfl (to_iload (dat dk_X12_tag 6 rfl) rfl ?_)
  have e103 : h4.2.2 60 4 = x2 := ((Fr.get fh4 (by have := hI.1.1; omega) rfl).trans ex2)
  refine to_cI ca_c13_505 (dat dk_X12_tag 7 rfl) dc1 rfl ⟨_, _, rfl, (Ih4.atS rfl)⟩ rfl (fun x104 h105 rx104 p106 => ?_)
  obtain ⟨rfl, zx104, p106_0, p106_d⟩ := p106
  have rzx104 := z_lin zx104
  clear zx104
  clear rx104
  have rx104 := rzx104
  clear rzx104
  refine to_ifeq 40 (dat dk_X12_tag 8 rfl) rfl (z_i32 rx104) (fun c107 => ?_) (fun c107 => ?_)
  · skip
    refine to_iconst (dat dk_X12_tag 21 rfl) ?_
    exact jn41_n10 0 (by decide) (fun a1 a2 => by omega)
  · skip
    replace c107 := z_one rx104 c107
    refine to_aload_n (dat dk_X12_tag 9 rfl) rfl (to_iload_n (dat dk_X12_tag 10 rfl) rfl ?_)
    refine to_cI ca_c13_508 (dat dk_X12_tag 11 rfl) dc2 rfl ⟨_, _, rfl, (Ih4.atS rfl)⟩ rfl (fun x108 h109 rx108 p110 => ?_)
    obtain ⟨rfl, zx108, p110_0, p110_d⟩ := p110
    have rzx108 := z_lin zx108
    clear zx108
    clear rx108
    have rx108 := rzx108
    clear rzx108
    refine to_ifeq 40 (dat dk_X12_tag 12 rfl) rfl (z_i32 rx108) (fun c111 => ?_) (fun c111 => ?_)
    · skip
      refine to_iconst (dat dk_X12_tag 21 rfl) ?_
      exact jn41_n10 0 (by decide) (fun a1 a2 => by omega)
    · skip
      replace c111 := z_one rx108 c111
      refine to_aload_n (dat dk_X12_tag 13 rfl) rfl (to_iload (dat dk_X12_tag 14 rfl) rfl (to_aload_n (dat dk_X12_tag 15 rfl) rfl (to_getR 62 g_c13_13 (dat dk_X12_tag 16 rfl) (Ih4.atS rfl) (Ih4.atE rfl) (to_iconst (dat dk_X12_tag 17 rfl) (to_iload_n (dat dk_X12_tag 18 rfl) rfl ?_)))))
      refine to_cI ca_c13_478 (dat dk_X12_tag 19 rfl) (ct_X12_tagAt l h4 Ih4 n hn 62 1200 rfl 0 (by decide) x3 rx3 (show 0 ≤ n ∧ n ≤ 199 by omega) (show 0 ≤ (0 : Int) by omega) (show 0 ≤ x3 by omega) (show (0 : Int) + x3 ≤ (1200 : Int) by omega)) rfl ⟨_, _, rfl, (Ih4.atS rfl)⟩ rfl (fun x112 h113 rx112 p114 => ?_)
      obtain ⟨rfl, p114_0, p114_1⟩ := p114
      refine to_goto (dat dk_X12_tag 20 rfl) rfl ?_
      exact jn41_n10 x112 rx112 (fun a1 a2 => by omega)
abbrev Q_X12_count (h : Hp) (q : Int) : Option V → Hp → Nat → Nat → Prop := RI (fun x H => Inv H ∧ Fr [69, 70, 71, 72, 73, 74, 75, 76, 77, 78, 79, 80, 81, 82, 212, 216, 218, 219, 223, 225, 226, 228, 229, 233, 236, 200, 267, 103, 104] h H ∧ (Cch H))
set_option maxRecDepth 100000 in
theorem ct_X12_count (l : Launch) (h : Hp) (hI : Inv h) (q : Int) (hq : I32 q) (g0 : Cch h) (g1 : h.2.2 60 4 ≤ 64) (g2 : ssum h (h.2.2 60 4) ≤ 1280) : Ct l D_X12_count 7 171 [.inr (.inr 60), .inl q] h (Q_X12_count h q) := by
  refine ct_of pn_X12_count (Nat.le_of_ble_eq_true rfl) ?_
  show To l E_X12_count (0, [(0, .inr (.inr 60)), (1, .inl q)], [], h, 0, 0) _
  have z04 := hI.atR (a := 60) (j := 4) rfl
  have z00 : ssum h 0 = 0 := rfl
  obtain ⟨x1, ex1⟩ : ∃ y : Int, h.2.2 60 4 = y := ⟨_, rfl⟩
  have rx1 := hI.atR (a := 60) (j := 4) rfl
  rw [ex1] at rx1
  obtain ⟨x2, ex2⟩ : ∃ y : Int, h.2.2 60 67 = y := ⟨_, rfl⟩
  have rx2 := hI.atR (a := 60) (j := 67) rfl
  rw [ex2] at rx2
  refine to_aload_n (dat dk_X12_count 0 rfl) rfl (to_iconst (dat dk_X12_count 1 rfl) (to_putIw p_c13_154 (dat dk_X12_count 2 rfl) (hI.atS rfl) ?_))
  intro h5 wh5
  have I3 : Inv h5 := by rw [wh5]; exact hI.put (a := 60) (j := 0) (x := 0) (0) (3) rfl rfl (show (0 : Int) ≤ 0 ∧ 0 ≤ 3 by decide)
  have f4 : Fr [69, 70, 71, 72, 73, 74, 75, 76, 77, 78, 79, 80, 81, 82, 212, 216, 218, 219, 223, 225, 226, 228, 229, 233, 236, 200, 267, 103, 104] h h5 := by rw [wh5]; exact Fr.putF (a := 60) (j := 0) (x := 0) (Fr.rf _ _) rfl
  have t6 : Cch h5 := by rw [wh5]; exact Cch_wr rfl g0
  refine to_aload_n (dat dk_X12_count 3 rfl) rfl (to_iconst (dat dk_X12_count 4 rfl) (to_putIw p_c13_536 (dat dk_X12_count 5 rfl) (I3.atS rfl) ?_))
  intro h9 wh9
  have I7 : Inv h9 := by rw [wh9]; exact I3.put (a := 60) (j := 67) (x := 0) (0) (40000) rfl rfl (show (0 : Int) ≤ 0 ∧ 0 ≤ 40000 by decide)
  have f8 : Fr [69, 70, 71, 72, 73, 74, 75, 76, 77, 78, 79, 80, 81, 82, 212, 216, 218, 219, 223, 225, 226, 228, 229, 233, 236, 200, 267, 103, 104] h h9 := by rw [wh9]; exact Fr.putF (a := 60) (j := 67) (x := 0) f4 rfl
  have t10 : Cch h9 := by rw [wh9]; exact Cch_wr rfl t6
  refine to_iconst (dat dk_X12_count 6 rfl) (to_istore_n (L' := [(0, .inr (.inr 60)), (1, .inl q), (2, .inl 0)]) (dat dk_X12_count 7 rfl) (by decide) rfl ?_)
  have e13 : h9.2.2 60 4 = x1 := (by rw [wh9]; exact (show h5.2.2 60 4 = x1 from (by rw [wh5]; exact ex1)))
  have e16 : h9.2.2 60 67 = (0 : Int) := (by rw [wh9]; exact wr_eq)
  have lp12_n19 : ∀ (n19 : Nat) (y11 : Int) (h12 : Hp), (I32 y11) → (Inv h12) → (Fr [69, 70, 71, 72, 73, 74, 75, 76, 77, 78, 79, 80, 81, 82, 212, 216, 218, 219, 223, 225, 226, 228, 229, 233, 236, 200, 267, 103, 104] h h12) → (0 ≤ y11 ∧ y11 ≤ h12.2.2 60 4) → (Cch h12) → (h12.2.2 60 67 ≤ 3 * ssum h y11 + 220 * y11) → (h12.2.2 60 4 = h.2.2 60 4) → (h12.2.2 60 4 - y11 ≤ (n19 : Int)) → To l E_X12_count (12, [(0, .inr (.inr 60)), (1, .inl q), (2, .inl y11)], [], h12, 0, 0) (Q_X12_count h q) := by
    intro n19
    induction n19 using Nat.strongRecOn with
    | _ n19 ihn19 =>
    intro y11 h12 ry11 Ih12 fh12 c14 c15 c17 c18 c20
    have e21 : h12.2.2 60 4 = x1 := ((Fr.get fh12 (by have := hI.1.1; omega) rfl).trans ex1)
    obtain ⟨x22, ex22⟩ : ∃ y : Int, h12.2.2 60 67 = y := ⟨_, rfl⟩
    have rx22 := Ih12.atR (a := 60) (j := 67) rfl
    rw [ex22] at rx22
    refine to_iload_n (dat dk_X12_count 8 rfl) rfl (to_aload_n (dat dk_X12_count 9 rfl) rfl (to_getIv (y := x1) e21 g_c13_382 (dat dk_X12_count 10 rfl) (Ih12.atS rfl) ?_))
    refine to_ige 179 (dat dk_X12_count 11 rfl) rfl ry11 (by omega) (fun c23 => ?_) (fun c23 => ?_)
    · skip
      refine to_iload_n (dat dk_X12_count 103 rfl) rfl ?_
      refine to_table (d := 245) (ts := [220, 225, 230, 235, 235, 240]) (dat dk_X12_count 104 rfl) rfl rfl rfl hq (fun c24 => ?_) ⟨fun c24 => ?_, fun c24 => ?_, fun c24 => ?_, fun c24 => ?_, fun c24 => ?_, fun c24 => ?_, trivial⟩
      · skip
        refine to_iconst (dat dk_X12_count 120 rfl) ?_
        exact to_iret rfl (dat dk_X12_count 121 rfl) (ri_mk (by decide) ⟨Ih12, fh12, c15⟩)
      · skip
        refine to_aload_n (dat dk_X12_count 105 rfl) rfl ?_
        obtain ⟨x25, ex25⟩ : ∃ y : Int, h12.2.2 60 5 = y := ⟨_, rfl⟩
        have rx25 := Ih12.atR (a := 60) (j := 5) rfl
        rw [ex25] at rx25
        refine to_getIv (y := x25) ex25 g_c13_499 (dat dk_X12_count 106 rfl) (Ih12.atS rfl) ?_
        exact to_iret rfl (dat dk_X12_count 107 rfl) (ri_mk (by omega) ⟨Ih12, fh12, c15⟩)
      · skip
        refine to_aload_n (dat dk_X12_count 108 rfl) rfl (to_getIv (y := x1) e21 g_c13_382 (dat dk_X12_count 109 rfl) (Ih12.atS rfl) ?_)
        exact to_iret rfl (dat dk_X12_count 110 rfl) (ri_mk (by omega) ⟨Ih12, fh12, c15⟩)
      · skip
        refine to_aload_n (dat dk_X12_count 111 rfl) rfl ?_
        obtain ⟨x26, ex26⟩ : ∃ y : Int, h12.2.2 60 62 = y := ⟨_, rfl⟩
        have rx26 := Ih12.atR (a := 60) (j := 62) rfl
        rw [ex26] at rx26
        refine to_getIv (y := x26) ex26 g_c13_521 (dat dk_X12_count 112 rfl) (Ih12.atS rfl) ?_
        exact to_iret rfl (dat dk_X12_count 113 rfl) (ri_mk (by omega) ⟨Ih12, fh12, c15⟩)
      · skip
        refine to_aload_n (dat dk_X12_count 114 rfl) rfl (to_getIv (y := x22) ex22 g_c13_536 (dat dk_X12_count 115 rfl) (Ih12.atS rfl) ?_)
        exact to_iret rfl (dat dk_X12_count 116 rfl) (ri_mk (by omega) ⟨Ih12, fh12, c15⟩)
      · skip
        refine to_aload_n (dat dk_X12_count 114 rfl) rfl (to_getIv (y := x22) ex22 g_c13_536 (dat dk_X12_count 115 rfl) (Ih12.atS rfl) ?_)
        exact to_iret rfl (dat dk_X12_count 116 rfl) (ri_mk (by omega) ⟨Ih12, fh12, c15⟩)
      · skip
        refine to_aload_n (dat dk_X12_count 117 rfl) rfl ?_
        obtain ⟨x27, ex27⟩ : ∃ y : Int, h12.2.2 60 3 = y := ⟨_, rfl⟩
        have rx27 := Ih12.atR (a := 60) (j := 3) rfl
        rw [ex27] at rx27
        refine to_getIv (y := x27) ex27 g_c13_496 (dat dk_X12_count 118 rfl) (Ih12.atS rfl) ?_
        exact to_iret rfl (dat dk_X12_count 119 rfl) (ri_mk (by omega) ⟨Ih12, fh12, c15⟩)
    · skip
      have z28 := ssum_mono hI (x := y11 + 1) (y := h.2.2 60 4) (by omega) (by omega)
      have z29 := ssum_mono hI (x := 0) (y := y11) (by omega) (by omega)
      have z30 := ssum_mono hI (x := y11) (y := y11 + 1) (by omega) (by omega)
      have jn30_n32 : (q = 3 ∨ q = 4) → To l E_X12_count (30, [(0, .inr (.inr 60)), (1, .inl q), (2, .inl y11)], [], h12, 0, 0) (Q_X12_count h q) := by
        intro  c31
        refine to_aload_n (dat dk_X12_count 18 rfl) rfl (to_getR 65 g_c13_24 (dat dk_X12_count 19 rfl) (Ih12.atS rfl) (Ih12.atE rfl) (to_iload_n (dat dk_X12_count 20 rfl) rfl ?_))
        obtain ⟨x33, ex33⟩ : ∃ y : Int, h12.2.2 65 (Int.toNat y11) = y := ⟨_, rfl⟩
        have rx33 := Ih12.atR (a := 65) (j := Int.toNat y11) rfl
        rw [ex33] at rx33
        refine to_baldv (q := 2) ex33 (dat dk_X12_count 21 rfl) (by decide) (Ih12.atS rfl) rfl (by decide) (by omega) ?_
        refine to_ifne 42 (dat dk_X12_count 22 rfl) rfl (by omega) (fun c34 => ?_) (fun c34 => ?_)
        · skip
          have jn52_n40 : ∀ (h35 : Hp), (Inv h35) → (Fr [69, 70, 71, 72, 73, 74, 75, 76, 77, 78, 79, 80, 81, 82, 212, 216, 218, 219, 223, 225, 226, 228, 229, 233, 236, 200, 267, 103, 104] h h35) → (Cch h35) → (q = 4 ∨ sumN (W69 h35) 4 ≤ 3 * h.2.2 64 (Int.toNat y11) + 203) → (h35.2.2 60 67 ≤ 3 * ssum h y11 + 220 * y11) → (h35.2.2 60 4 = h.2.2 60 4) → To l E_X12_count (52, [(0, .inr (.inr 60)), (1, .inl q), (2, .inl y11)], [], h35, 0, 0) (Q_X12_count h q) := by
            intro h35 Ih35 fh35 c36 c37 c38 c39
            obtain ⟨x41, ex41⟩ : ∃ y : Int, h35.2.2 60 67 = y := ⟨_, rfl⟩
            have rx41 := Ih35.atR (a := 60) (j := 67) rfl
            rw [ex41] at rx41
            have e42 : h35.2.2 60 4 = x1 := ((Fr.get fh35 (by have := hI.1.1; omega) rfl).trans ex1)
            have z43 : ssum h (y11 + 1) = ssum h y11 + h.2.2 64 (Int.toNat y11) := ssum_s (by omega)
            have z44 := hI.atR (a := 64) (j := Int.toNat y11) rfl
            refine to_iconst (dat dk_X12_count 30 rfl) (to_istore_n (L' := [(0, .inr (.inr 60)), (1, .inl q), (2, .inl y11), (3, .inl 0)]) (dat dk_X12_count 31 rfl) (by decide) rfl ?_)
            have lp54_n53 : ∀ (n53 : Nat) (y45 : Int) (h46 : Hp), (I32 y45) → (Inv h46) → (Fr [69, 70, 71, 72, 73, 74, 75, 76, 77, 78, 79, 80, 81, 82, 212, 216, 218, 219, 223, 225, 226, 228, 229, 233, 236, 200, 267, 103, 104] h h46) → (W69 h46 = W69 h35) → (0 ≤ y45 ∧ y45 ≤ 4) → (h46.2.2 60 67 ≤ x41 + sumN (W69 h35) (Int.toNat y45)) → (Cch h46) → (q = 3 ∨ h46.2.2 60 67 ≤ x41) → (h46.2.2 60 4 = h.2.2 60 4) → (4 - y45 ≤ (n53 : Int)) → To l E_X12_count (54, [(0, .inr (.inr 60)), (1, .inl q), (2, .inl y11), (3, .inl y45)], [], h46, 0, 0) (Q_X12_count h q) := by
              intro n53
              induction n53 using Nat.strongRecOn with
              | _ n53 ihn53 =>
              intro y45 h46 ry45 Ih46 fh46 c47 c48 c49 c50 c51 c52 c54
              obtain ⟨x55, ex55⟩ : ∃ y : Int, h46.2.2 60 67 = y := ⟨_, rfl⟩
              have rx55 := Ih46.atR (a := 60) (j := 67) rfl
              rw [ex55] at rx55
              have e56 : h46.2.2 60 4 = x1 := ((Fr.get fh46 (by have := hI.1.1; omega) rfl).trans ex1)
              have jn122_n61 : ∀ (h57 : Hp), (Inv h57) → (Fr [69, 70, 71, 72, 73, 74, 75, 76, 77, 78, 79, 80, 81, 82, 212, 216, 218, 219, 223, 225, 226, 228, 229, 233, 236, 200, 267, 103, 104] h h57) → (Cch h57) → (h57.2.2 60 67 ≤ x41 + 3 * h.2.2 64 (Int.toNat y11) + 203) → (h57.2.2 60 4 = h.2.2 60 4) → To l E_X12_count (122, [(0, .inr (.inr 60)), (1, .inl q), (2, .inl y11), (3, .inl y45)], [], h57, 0, 0) (Q_X12_count h q) := by
                intro h57 Ih57 fh57 c58 c59 c60
                obtain ⟨x62, ex62⟩ : ∃ y : Int, h57.2.2 60 67 = y := ⟨_, rfl⟩
                have rx62 := Ih57.atR (a := 60) (j := 67) rfl
                rw [ex62] at rx62
                have e63 : h57.2.2 60 4 = x1 := ((Fr.get fh57 (by have := hI.1.1; omega) rfl).trans ex1)
                refine to_iconst (dat dk_X12_count 69 rfl) (to_istore_n (L' := [(0, .inr (.inr 60)), (1, .inl q), (2, .inl y11), (3, .inl 0)]) (dat dk_X12_count 70 rfl) (by decide) rfl ?_)
                have lp124_n70 : ∀ (n70 : Nat) (y64 : Int) (h65 : Hp), (I32 y64) → (Inv h65) → (Fr [69, 70, 71, 72, 73, 74, 75, 76, 77, 78, 79, 80, 81, 82, 212, 216, 218, 219, 223, 225, 226, 228, 229, 233, 236, 200, 267, 103, 104] h h65) → (0 ≤ y64 ∧ y64 ≤ 8) → (Cch h65) → (h65.2.2 60 67 ≤ x41 + 3 * h.2.2 64 (Int.toNat y11) + 203 + y64) → (h65.2.2 60 4 = h.2.2 60 4) → (9 - y64 ≤ (n70 : Int)) → To l E_X12_count (124, [(0, .inr (.inr 60)), (1, .inl q), (2, .inl y11), (3, .inl y64)], [], h65, 0, 0) (Q_X12_count h q) := by
                  intro n70
                  induction n70 using Nat.strongRecOn with
                  | _ n70 ihn70 =>
                  intro y64 h65 ry64 Ih65 fh65 c66 c67 c68 c69 c71
                  obtain ⟨x72, ex72⟩ : ∃ y : Int, h65.2.2 60 67 = y := ⟨_, rfl⟩
                  have rx72 := Ih65.atR (a := 60) (j := 67) rfl
                  rw [ex72] at rx72
                  have e73 : h65.2.2 60 4 = x1 := ((Fr.get fh65 (by have := hI.1.1; omega) rfl).trans ex1)
                  refine to_iload_n (dat dk_X12_count 71 rfl) rfl (to_aload_n (dat dk_X12_count 72 rfl) rfl (to_getR 68 g_c13_34 (dat dk_X12_count 73 rfl) (Ih65.atS rfl) (Ih65.atE rfl) (to_iload_n (dat dk_X12_count 74 rfl) rfl ?_)))
                  obtain ⟨x74, ex74⟩ : ∃ y : Int, h65.2.2 68 (Int.toNat y11) = y := ⟨_, rfl⟩
                  have rx74 := Ih65.atR (a := 68) (j := Int.toNat y11) rfl
                  rw [ex74] at rx74
                  refine to_ialdv ex74 (dat dk_X12_count 75 rfl) (Ih65.atS rfl) rfl (by decide) (by omega) ?_
                  refine to_ige 173 (dat dk_X12_count 76 rfl) rfl ry64 (by omega) (fun c75 => ?_) (fun c75 => ?_)
                  · skip
                    refine to_iinc (L' := [(0, .inr (.inr 60)), (1, .inl q), (2, .inl (y11 + 1)), (3, .inl y64)]) (dat dk_X12_count 101 rfl) rfl (by decide) rfl (to_goto (dat dk_X12_count 102 rfl) rfl ?_)
                    refine to_pick [0, 1, 2] rfl ?_
                    exact ihn19 (n19 - 1) (by omega) (y11 + 1) h65 (by omega) Ih65 fh65 (show 0 ≤ (y11 + 1) ∧ (y11 + 1) ≤ h65.2.2 60 4 by omega) c67 (show h65.2.2 60 67 ≤ 3 * ssum h (y11 + 1) + 220 * (y11 + 1) by omega) (show h65.2.2 60 4 = h.2.2 60 4 by omega) (show h65.2.2 60 4 - (y11 + 1) ≤ ((n19 - 1 : Nat) : Int) by omega)
                  · skip
                    refine to_iload_n (dat dk_X12_count 77 rfl) rfl (to_iconst (dat dk_X12_count 78 rfl) ?_)
                    refine to_ine 173 (dat dk_X12_count 79 rfl) rfl hq (by decide) (fun c76 => ?_) (fun c76 => ?_)
                    · skip
                      refine to_iinc (L' := [(0, .inr (.inr 60)), (1, .inl q), (2, .inl (y11 + 1)), (3, .inl y64)]) (dat dk_X12_count 101 rfl) rfl (by decide) rfl (to_goto (dat dk_X12_count 102 rfl) rfl ?_)
                      refine to_pick [0, 1, 2] rfl ?_
                      exact ihn19 (n19 - 1) (by omega) (y11 + 1) h65 (by omega) Ih65 fh65 (show 0 ≤ (y11 + 1) ∧ (y11 + 1) ≤ h65.2.2 60 4 by omega) c67 (show h65.2.2 60 67 ≤ 3 * ssum h (y11 + 1) + 220 * (y11 + 1) by omega) (show h65.2.2 60 4 = h.2.2 60 4 by omega) (show h65.2.2 60 4 - (y11 + 1) ≤ ((n19 - 1 : Nat) : Int) by omega)
                    · skip
                      refine to_aload_n (dat dk_X12_count 80 rfl) rfl (to_aload_n (dat dk_X12_count 81 rfl) rfl (to_getR 66 g_c13_28 (dat dk_X12_count 82 rfl) (Ih65.atS rfl) (Ih65.atE rfl) (to_bipush (dat dk_X12_count 83 rfl) (by decide) (to_bipush (dat dk_X12_count 84 rfl) (by decide) (to_iload_n (dat dk_X12_count 85 rfl) rfl (to_imul (dat dk_X12_count 86 rfl) (to_iload_n (dat dk_X12_count 87 rfl) rfl (to_iadd (dat dk_X12_count 88 rfl) (to_imul (dat dk_X12_count 89 rfl) (to_aload_n (dat dk_X12_count 90 rfl) rfl (to_getR 67 g_c13_31 (dat dk_X12_count 91 rfl) (Ih65.atS rfl) (Ih65.atE rfl) (to_bipush (dat dk_X12_count 92 rfl) (by decide) (to_iload_n (dat dk_X12_count 93 rfl) rfl (to_imul (dat dk_X12_count 94 rfl) (to_iload_n (dat dk_X12_count 95 rfl) rfl (to_iadd (dat dk_X12_count 96 rfl) ?_))))))))))))))))
                      obtain ⟨x77, ex77⟩ : ∃ y : Int, h65.2.2 67 (Int.toNat ((8 * y11) + y64)) = y := ⟨_, rfl⟩
                      have rx77 := Ih65.atR (a := 67) (j := Int.toNat ((8 * y11) + y64)) rfl
                      rw [ex77] at rx77
                      refine to_ialdv ex77 (dat dk_X12_count 97 rfl) (Ih65.atS rfl) rfl (by decide) (by omega) ?_
                      refine to_cV ca_c13_539 (dat dk_X12_count 98 rfl) (ct_X12_addDifferent l h65 Ih65 66 19200 rfl (12 * ((8 * y11) + y64)) (by omega) x77 (by omega) (show 0 ≤ (12 * ((8 * y11) + y64)) by omega) (show 0 ≤ x77 ∧ x77 ≤ 16 by omega) (show (12 * ((8 * y11) + y64)) + x77 ≤ (19200 : Int) by omega) (show h65.2.2 60 67 ≤ 39999 by omega)) rfl ⟨_, _, rfl, (Ih65.atS rfl)⟩ rfl (fun h79 p80 => ?_)
                      obtain ⟨Ih79, fh79, p80_0⟩ := p80
                      have f81 : Fr [69, 70, 71, 72, 73, 74, 75, 76, 77, 78, 79, 80, 81, 82, 212, 216, 218, 219, 223, 225, 226, 228, 229, 233, 236, 200, 267, 103, 104] h h79 := Fr.sub fh65 fh79 rfl
                      have t82 : Cch h79 := Cch_fr fh79 Ih65 rfl c67
                      obtain ⟨x83, ex83⟩ : ∃ y : Int, h79.2.2 60 67 = y := ⟨_, rfl⟩
                      have rx83 := Ih79.atR (a := 60) (j := 67) rfl
                      rw [ex83] at rx83
                      refine to_iinc (L' := [(0, .inr (.inr 60)), (1, .inl q), (2, .inl y11), (3, .inl (y64 + 1))]) (dat dk_X12_count 99 rfl) rfl (by decide) rfl (to_goto (dat dk_X12_count 100 rfl) rfl ?_)
                      have e84 : h79.2.2 60 4 = x1 := ((Fr.get fh79 (by have := Ih65.1.1; omega) rfl).trans e73)
                      exact ihn70 (n70 - 1) (by omega) (y64 + 1) h79 (by omega) Ih79 f81 (show 0 ≤ (y64 + 1) ∧ (y64 + 1) ≤ 8 by omega) t82 (show h79.2.2 60 67 ≤ x41 + 3 * h.2.2 64 (Int.toNat y11) + 203 + (y64 + 1) by omega) (show h79.2.2 60 4 = h.2.2 60 4 by omega) (show 9 - (y64 + 1) ≤ ((n70 - 1 : Nat) : Int) by omega)
                exact lp124_n70 (9 - (0 : Int)).toNat 0 h57 (by decide) Ih57 fh57 (show 0 ≤ (0 : Int) ∧ (0 : Int) ≤ 8 by omega) c58 (show h57.2.2 60 67 ≤ x41 + 3 * h.2.2 64 (Int.toNat y11) + 203 + (0 : Int) by omega) (show h57.2.2 60 4 = h.2.2 60 4 by omega) (by omega)
              refine to_iload_n (dat dk_X12_count 32 rfl) rfl (to_iconst (dat dk_X12_count 33 rfl) ?_)
              refine to_ige 122 (dat dk_X12_count 34 rfl) rfl ry45 (by decide) (fun c85 => ?_) (fun c85 => ?_)
              · skip
                exact jn122_n61 h46 Ih46 fh46 c50 ((show y45 = 4 ∨ q = 4 by omega).elim (fun e4 => by rw [show Int.toNat y45 = 4 by omega] at c49; omega) (fun e4 => by omega)) (show h46.2.2 60 4 = h.2.2 60 4 by omega)
              · skip
                refine to_iload_n (dat dk_X12_count 35 rfl) rfl (to_iconst (dat dk_X12_count 36 rfl) ?_)
                refine to_ine 122 (dat dk_X12_count 37 rfl) rfl hq (by decide) (fun c86 => ?_) (fun c86 => ?_)
                · skip
                  exact jn122_n61 h46 Ih46 fh46 c50 ((show y45 = 4 ∨ q = 4 by omega).elim (fun e4 => by rw [show Int.toNat y45 = 4 by omega] at c49; omega) (fun e4 => by omega)) (show h46.2.2 60 4 = h.2.2 60 4 by omega)
                · skip
                  have z87 := W69_4 Ih35 (k := y45) (by omega)
                  have z88 := Ih46.atR (a := 69) (j := Int.toNat y45) rfl
                  have z89 : W69 h35 (Int.toNat y45) = h46.2.2 69 (Int.toNat y45) := (congrFun c47 (Int.toNat y45)).symm
                  refine to_iconst (dat dk_X12_count 38 rfl) (to_istore (L' := [(0, .inr (.inr 60)), (1, .inl q), (2, .inl y11), (3, .inl y45), (4, .inl 0)]) (dat dk_X12_count 39 rfl) (by decide) rfl ?_)
                  have lp67_n98 : ∀ (n98 : Nat) (y90 : Int) (h91 : Hp), (I32 y90) → (Inv h91) → (Fr [69, 70, 71, 72, 73, 74, 75, 76, 77, 78, 79, 80, 81, 82, 212, 216, 218, 219, 223, 225, 226, 228, 229, 233, 236, 200, 267, 103, 104] h h91) → (W69 h91 = W69 h35) → (0 ≤ y90) → (h91.2.2 60 67 ≤ x41 + sumN (W69 h35) (Int.toNat y45) + y90) → (y90 ≤ W69 h35 (Int.toNat y45)) → (Cch h91) → (h91.2.2 60 4 = h.2.2 60 4) → (W69 h35 (Int.toNat y45) - y90 ≤ (n98 : Int)) → To l E_X12_count (67, [(0, .inr (.inr 60)), (1, .inl q), (2, .inl y11), (3, .inl y45), (4, .inl y90)], [], h91, 0, 0) (Q_X12_count h q) := by
                    intro n98
                    induction n98 using Nat.strongRecOn with
                    | _ n98 ihn98 =>
                    intro y90 h91 ry90 Ih91 fh91 c92 c93 c94 c95 c96 c97 c99
                    obtain ⟨x100, ex100⟩ : ∃ y : Int, h91.2.2 60 67 = y := ⟨_, rfl⟩
                    have rx100 := Ih91.atR (a := 60) (j := 67) rfl
                    rw [ex100] at rx100
                    have e101 : h91.2.2 60 4 = x1 := ((Fr.get fh91 (by have := hI.1.1; omega) rfl).trans ex1)
                    refine to_iload (dat dk_X12_count 40 rfl) rfl (to_aload_n (dat dk_X12_count 41 rfl) rfl (to_getR 69 g_c13_41 (dat dk_X12_count 42 rfl) (Ih91.atS rfl) (Ih91.atE rfl) (to_iload_n (dat dk_X12_count 43 rfl) rfl ?_)))
                    obtain ⟨x102, ex102⟩ : ∃ y : Int, h91.2.2 69 (Int.toNat y45) = y := ⟨_, rfl⟩
                    have rx102 := Ih91.atR (a := 69) (j := Int.toNat y45) rfl
                    rw [ex102] at rx102
                    refine to_ialdv ex102 (dat dk_X12_count 44 rfl) (Ih91.atS rfl) rfl (by decide) (by omega) ?_
                    have z103 : W69 h35 (Int.toNat y45) = x102 := (congrFun c92 (Int.toNat y45)).symm.trans ex102
                    refine to_ige 116 (dat dk_X12_count 45 rfl) rfl ry90 (by omega) (fun c104 => ?_) (fun c104 => ?_)
                    · skip
                      have z105 : sumN (W69 h35) (Int.toNat (y45 + 1)) = sumN (W69 h35) (Int.toNat y45) + W69 h35 (Int.toNat y45) := by rw [show Int.toNat (y45 + 1) = Int.toNat y45 + 1 by omega]; rfl
                      refine to_iinc (L' := [(0, .inr (.inr 60)), (1, .inl q), (2, .inl y11), (3, .inl (y45 + 1)), (4, .inl y90)]) (dat dk_X12_count 67 rfl) rfl (by decide) rfl (to_goto (dat dk_X12_count 68 rfl) rfl ?_)
                      refine to_pick [0, 1, 2, 3] rfl ?_
                      exact ihn53 (n53 - 1) (by omega) (y45 + 1) h91 (by omega) Ih91 fh91 c92 (show 0 ≤ (y45 + 1) ∧ (y45 + 1) ≤ 4 by omega) (show h91.2.2 60 67 ≤ x41 + sumN (W69 h35) (Int.toNat (y45 + 1)) by omega) c96 (show q = 3 ∨ h91.2.2 60 67 ≤ x41 by omega) (show h91.2.2 60 4 = h.2.2 60 4 by omega) (show 4 - (y45 + 1) ≤ ((n53 - 1 : Nat) : Int) by omega)
                    · skip
                      refine to_aload_n (dat dk_X12_count 46 rfl) rfl (to_aload_n (dat dk_X12_count 47 rfl) rfl (to_getR 70 g_c13_45 (dat dk_X12_count 48 rfl) (Ih91.atS rfl) (Ih91.atE rfl) (to_bipush (dat dk_X12_count 49 rfl) (by decide) (to_sipush (dat dk_X12_count 50 rfl) (by decide) (to_iload_n (dat dk_X12_count 51 rfl) rfl (to_imul (dat dk_X12_count 52 rfl) (to_iload (dat dk_X12_count 53 rfl) rfl (to_iadd (dat dk_X12_count 54 rfl) (to_imul (dat dk_X12_count 55 rfl) (to_aload_n (dat dk_X12_count 56 rfl) rfl (to_getR 71 g_c13_48 (dat dk_X12_count 57 rfl) (Ih91.atS rfl) (Ih91.atE rfl) (to_sipush (dat dk_X12_count 58 rfl) (by decide) (to_iload_n (dat dk_X12_count 59 rfl) rfl (to_imul (dat dk_X12_count 60 rfl) (to_iload (dat dk_X12_count 61 rfl) rfl (to_iadd (dat dk_X12_count 62 rfl) ?_))))))))))))))))
                      obtain ⟨x106, ex106⟩ : ∃ y : Int, h91.2.2 71 (Int.toNat ((640 * y45) + y90)) = y := ⟨_, rfl⟩
                      have rx106 := Ih91.atR (a := 71) (j := Int.toNat ((640 * y45) + y90)) rfl
                      rw [ex106] at rx106
                      refine to_ialdv ex106 (dat dk_X12_count 63 rfl) (Ih91.atS rfl) rfl (by decide) (by omega) ?_
                      refine to_cV ca_c13_539 (dat dk_X12_count 64 rfl) (ct_X12_addDifferent l h91 Ih91 70 40960 rfl (16 * ((640 * y45) + y90)) (by omega) x106 (by omega) (show 0 ≤ (16 * ((640 * y45) + y90)) by omega) (show 0 ≤ x106 ∧ x106 ≤ 16 by omega) (show (16 * ((640 * y45) + y90)) + x106 ≤ (40960 : Int) by omega) (show h91.2.2 60 67 ≤ 39999 by omega)) rfl ⟨_, _, rfl, (Ih91.atS rfl)⟩ rfl (fun h108 p109 => ?_)
                      obtain ⟨Ih108, fh108, p109_0⟩ := p109
                      have f110 : Fr [69, 70, 71, 72, 73, 74, 75, 76, 77, 78, 79, 80, 81, 82, 212, 216, 218, 219, 223, 225, 226, 228, 229, 233, 236, 200, 267, 103, 104] h h108 := Fr.sub fh91 fh108 rfl
                      have t111 : Cch h108 := Cch_fr fh108 Ih91 rfl c96
                      obtain ⟨x112, ex112⟩ : ∃ y : Int, h108.2.2 60 67 = y := ⟨_, rfl⟩
                      have rx112 := Ih108.atR (a := 60) (j := 67) rfl
                      rw [ex112] at rx112
                      refine to_iinc (L' := [(0, .inr (.inr 60)), (1, .inl q), (2, .inl y11), (3, .inl y45), (4, .inl (y90 + 1))]) (dat dk_X12_count 65 rfl) rfl (by decide) rfl (to_goto (dat dk_X12_count 66 rfl) rfl ?_)
                      have e113 : h108.2.2 60 4 = x1 := ((Fr.get fh108 (by have := Ih91.1.1; omega) rfl).trans e101)
                      exact ihn98 (n98 - 1) (by omega) (y90 + 1) h108 (by omega) Ih108 f110 ((W69_fr fh108 Ih91 rfl).trans c92) (show 0 ≤ (y90 + 1) by omega) (show h108.2.2 60 67 ≤ x41 + sumN (W69 h35) (Int.toNat y45) + (y90 + 1) by omega) (show (y90 + 1) ≤ W69 h35 (Int.toNat y45) by omega) t111 (show h108.2.2 60 4 = h.2.2 60 4 by omega) (show W69 h35 (Int.toNat y45) - (y90 + 1) ≤ ((n98 - 1 : Nat) : Int) by omega)
                  exact lp67_n98 (W69 h35 (Int.toNat y45) - (0 : Int)).toNat 0 h46 (by decide) Ih46 fh46 c47 (show 0 ≤ (0 : Int) by omega) (show h46.2.2 60 67 ≤ x41 + sumN (W69 h35) (Int.toNat y45) + (0 : Int) by omega) (show (0 : Int) ≤ W69 h35 (Int.toNat y45) by omega) c50 (show h46.2.2 60 4 = h.2.2 60 4 by omega) (by omega)
            exact lp54_n53 (4 - (0 : Int)).toNat 0 h35 (by decide) Ih35 fh35 rfl (show 0 ≤ (0 : Int) ∧ (0 : Int) ≤ 4 by omega) (by rw [show sumN (W69 h35) (Int.toNat 0) = 0 from rfl]; omega) c36 (show q = 3 ∨ h35.2.2 60 67 ≤ x41 by omega) (show h35.2.2 60 4 = h.2.2 60 4 by omega) (by omega)
          refine to_iload_n (dat dk_X12_count 24 rfl) rfl (to_iconst (dat dk_X12_count 25 rfl) ?_)
          refine to_ine 52 (dat dk_X12_count 26 rfl) rfl hq (by decide) (fun c114 => ?_) (fun c114 => ?_)
          · skip
            exact jn52_n40 h12 Ih12 fh12 c15 (Or.inl (by omega)) (show h12.2.2 60 67 ≤ 3 * ssum h y11 + 220 * y11 by omega) (show h12.2.2 60 4 = h.2.2 60 4 by omega)
          · skip
            refine to_aload_n (dat dk_X12_count 27 rfl) rfl (to_iload_n (dat dk_X12_count 28 rfl) rfl ?_)
            refine to_cV ca_c13_373 (dat dk_X12_count 29 rfl) (ct_X12_read l h12 Ih12 y11 ry11 c15 (show 0 ≤ y11 ∧ y11 < h12.2.2 60 4 by omega)) rfl ⟨_, _, rfl, (Ih12.atS rfl)⟩ rfl (fun h116 p117 => ?_)
            obtain ⟨Ih116, fh116, p117_0, p117_1⟩ := p117
            have f118 : Fr [69, 70, 71, 72, 73, 74, 75, 76, 77, 78, 79, 80, 81, 82, 212, 216, 218, 219, 223, 225, 226, 228, 229, 233, 236, 200, 267, 103, 104] h h116 := Fr.sub fh12 fh116 rfl
            obtain ⟨x119, ex119⟩ : ∃ y : Int, h116.2.2 60 12 = y := ⟨_, rfl⟩
            have rx119 := Ih116.atR (a := 60) (j := 12) rfl
            rw [ex119] at rx119
            have e120 : h116.2.2 60 67 = x22 := ((Fr.get fh116 (by have := Ih12.1.1; omega) rfl).trans ex22)
            have e121 : h116.2.2 60 4 = x1 := ((Fr.get fh116 (by have := Ih12.1.1; omega) rfl).trans e21)
            exact jn52_n40 h116 Ih116 f118 p117_0 (Or.inr (by have z9 := Cch.sum p117_0 p117_1 (by omega); rw [show h116.2.2 64 = h.2.2 64 from f118.arr hI (by decide) (fun _ => rfl)] at z9; exact z9)) (show h116.2.2 60 67 ≤ 3 * ssum h y11 + 220 * y11 by omega) (show h116.2.2 60 4 = h.2.2 60 4 by omega)
        · skip
          refine to_goto (dat dk_X12_count 23 rfl) rfl (to_iinc (L' := [(0, .inr (.inr 60)), (1, .inl q), (2, .inl (y11 + 1))]) (dat dk_X12_count 101 rfl) rfl (by decide) rfl (to_goto (dat dk_X12_count 102 rfl) rfl ?_))
          exact ihn19 (n19 - 1) (by omega) (y11 + 1) h12 (by omega) Ih12 fh12 (show 0 ≤ (y11 + 1) ∧ (y11 + 1) ≤ h12.2.2 60 4 by omega) c15 (show h12.2.2 60 67 ≤ 3 * ssum h (y11 + 1) + 220 * (y11 + 1) by omega) (show h12.2.2 60 4 = h.2.2 60 4 by omega) (show h12.2.2 60 4 - (y11 + 1) ≤ ((n19 - 1 : Nat) : Int) by omega)
      refine to_iload_n (dat dk_X12_count 12 rfl) rfl (to_iconst (dat dk_X12_count 13 rfl) ?_)
      refine to_ieq 30 (dat dk_X12_count 14 rfl) rfl hq (by decide) (fun c122 => ?_) (fun c122 => ?_)
      · skip
        exact jn30_n32  (show q = 3 ∨ q = 4 by omega)
      · skip
        refine to_iload_n (dat dk_X12_count 15 rfl) rfl (to_iconst (dat dk_X12_count 16 rfl) ?_)
        refine to_ine 179 (dat dk_X12_count 17 rfl) rfl hq (by decide) (fun c123 => ?_) (fun c123 => ?_)
        · skip
          refine to_iload_n (dat dk_X12_count 103 rfl) rfl ?_
          refine to_table (d := 245) (ts := [220, 225, 230, 235, 235, 240]) (dat dk_X12_count 104 rfl) rfl rfl rfl hq (fun c124 => ?_) ⟨fun c124 => ?_, fun c124 => ?_, fun c124 => ?_, fun c124 => ?_, fun c124 => ?_, fun c124 => ?_, trivial⟩
          · skip
            refine to_iconst (dat dk_X12_count 120 rfl) ?_
            exact to_iret rfl (dat dk_X12_count 121 rfl) (ri_mk (by decide) ⟨Ih12, fh12, c15⟩)
          · skip
            refine to_aload_n (dat dk_X12_count 105 rfl) rfl ?_
            obtain ⟨x125, ex125⟩ : ∃ y : Int, h12.2.2 60 5 = y := ⟨_, rfl⟩
            have rx125 := Ih12.atR (a := 60) (j := 5) rfl
            rw [ex125] at rx125
            refine to_getIv (y := x125) ex125 g_c13_499 (dat dk_X12_count 106 rfl) (Ih12.atS rfl) ?_
            exact to_iret rfl (dat dk_X12_count 107 rfl) (ri_mk (by omega) ⟨Ih12, fh12, c15⟩)
          · skip
            refine to_aload_n (dat dk_X12_count 108 rfl) rfl (to_getIv (y := x1) e21 g_c13_382 (dat dk_X12_count 109 rfl) (Ih12.atS rfl) ?_)
            exact to_iret rfl (dat dk_X12_count 110 rfl) (ri_mk (by omega) ⟨Ih12, fh12, c15⟩)
          · skip
            refine to_aload_n (dat dk_X12_count 111 rfl) rfl ?_
            obtain ⟨x126, ex126⟩ : ∃ y : Int, h12.2.2 60 62 = y := ⟨_, rfl⟩
            have rx126 := Ih12.atR (a := 60) (j := 62) rfl
            rw [ex126] at rx126
            refine to_getIv (y := x126) ex126 g_c13_521 (dat dk_X12_count 112 rfl) (Ih12.atS rfl) ?_
            exact to_iret rfl (dat dk_X12_count 113 rfl) (ri_mk (by omega) ⟨Ih12, fh12, c15⟩)
          · skip
            refine to_aload_n (dat dk_X12_count 114 rfl) rfl (to_getIv (y := x22) ex22 g_c13_536 (dat dk_X12_count 115 rfl) (Ih12.atS rfl) ?_)
            exact to_iret rfl (dat dk_X12_count 116 rfl) (ri_mk (by omega) ⟨Ih12, fh12, c15⟩)
          · skip
            refine to_aload_n (dat dk_X12_count 114 rfl) rfl (to_getIv (y := x22) ex22 g_c13_536 (dat dk_X12_count 115 rfl) (Ih12.atS rfl) ?_)
            exact to_iret rfl (dat dk_X12_count 116 rfl) (ri_mk (by omega) ⟨Ih12, fh12, c15⟩)
          · skip
            refine to_aload_n (dat dk_X12_count 117 rfl) rfl ?_
            obtain ⟨x127, ex127⟩ : ∃ y : Int, h12.2.2 60 3 = y := ⟨_, rfl⟩
            have rx127 := Ih12.atR (a := 60) (j := 3) rfl
            rw [ex127] at rx127
            refine to_getIv (y := x127) ex127 g_c13_496 (dat dk_X12_count 118 rfl) (Ih12.atS rfl) ?_
            exact to_iret rfl (dat dk_X12_count 119 rfl) (ri_mk (by omega) ⟨Ih12, fh12, c15⟩)
        · skip
          exact jn30_n32  (show q = 3 ∨ q = 4 by omega)
  exact lp12_n19 (h9.2.2 60 4 - (0 : Int)).toNat 0 h9 (by decide) I7 f8 (show 0 ≤ (0 : Int) ∧ (0 : Int) ≤ h9.2.2 60 4 by omega) t10 (show h9.2.2 60 67 ≤ 3 * ssum h (0 : Int) + 220 * (0 : Int) by omega) (show h9.2.2 60 4 = h.2.2 60 4 by omega) (by omega)
