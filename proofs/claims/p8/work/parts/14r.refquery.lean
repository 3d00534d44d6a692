/-! Contracts, by program. -/
abbrev Q_X12_readQuery_vx (h : Hp) : Option V → Hp → Nat → Nat → Prop := RI (fun x H => Inv H ∧ Fr [89, 90, 91, 92, 93, 94, 95, 96, 245, 246, 247, 248] h H ∧ (x = 0 ∨ x = 1) ∧ (Val H) ∧ (LfOK H) ∧ (H.2.2 60 48 = RF h + 1))
set_option maxRecDepth 100000 in
set_option maxHeartbeats 4000000 in
theorem ct_X12_readQuery_vx (l : Launch) (h : Hp) (hI : Inv h)  : Ct l D_X12_readQuery 6 144 [.inr (.inr 60)] h (Q_X12_readQuery_vx h) := by
  refine ct_of pn_X12_readQuery (Nat.le_of_ble_eq_true rfl) ?_
  show To l E_X12_readQuery (0, [(0, .inr (.inr 60))], [], h, 0, 0) _
  have z44 := hI.atR (a := 60) (j := 44) rfl
  have zh := hn_is hI
  obtain ⟨x1, ex1⟩ : ∃ y : Int, h.2.2 60 48 = y := ⟨_, rfl⟩
  have rx1 := hI.atR (a := 60) (j := 48) rfl
  rw [ex1] at rx1
  obtain ⟨x2, ex2⟩ : ∃ y : Int, h.2.2 60 44 = y := ⟨_, rfl⟩
  have rx2 := hI.atR (a := 60) (j := 44) rfl
  rw [ex2] at rx2
  obtain ⟨x3, ex3⟩ : ∃ y : Int, h.2.2 60 45 = y := ⟨_, rfl⟩
  have rx3 := hI.atR (a := 60) (j := 45) rfl
  rw [ex3] at rx3
  obtain ⟨x4, ex4⟩ : ∃ y : Int, h.2.2 60 46 = y := ⟨_, rfl⟩
  have rx4 := hI.atR (a := 60) (j := 46) rfl
  rw [ex4] at rx4
  obtain ⟨x5, ex5⟩ : ∃ y : Int, h.2.2 60 47 = y := ⟨_, rfl⟩
  have rx5 := hI.atR (a := 60) (j := 47) rfl
  rw [ex5] at rx5
  refine to_aload_n (dat dk_X12_readQuery 0 rfl) rfl (to_iconst (dat dk_X12_readQuery 1 rfl) (to_putIw p_c13_394 (dat dk_X12_readQuery 2 rfl) (hI.atS rfl) ?_))
  intro h8 wh8
  have I6 : Inv h8 := by rw [wh8]; exact hI.put (a := 60) (j := 45) (x := 0) (0) (810) rfl rfl (show (0 : Int) ≤ 0 ∧ 0 ≤ 810 by decide)
  have f7 : Fr [89, 90, 91, 92, 93, 94, 95, 96, 245, 246, 247, 248] h h8 := by rw [wh8]; exact Fr.putF (a := 60) (j := 45) (x := 0) (Fr.rf _ _) rfl
  refine to_aload_n (dat dk_X12_readQuery 3 rfl) rfl (to_iconst (dat dk_X12_readQuery 4 rfl) (to_putIw p_c13_403 (dat dk_X12_readQuery 5 rfl) (I6.atS rfl) ?_))
  intro h11 wh11
  have I9 : Inv h11 := by rw [wh11]; exact I6.put (a := 60) (j := 46) (x := 0) (0) (3000) rfl rfl (show (0 : Int) ≤ 0 ∧ 0 ≤ 3000 by decide)
  have f10 : Fr [89, 90, 91, 92, 93, 94, 95, 96, 245, 246, 247, 248] h h11 := by rw [wh11]; exact Fr.putF (a := 60) (j := 46) (x := 0) f7 rfl
  refine to_aload_n (dat dk_X12_readQuery 6 rfl) rfl (to_iconst (dat dk_X12_readQuery 7 rfl) (to_putIw p_c13_406 (dat dk_X12_readQuery 8 rfl) (I9.atS rfl) ?_))
  intro h14 wh14
  have I12 : Inv h14 := by rw [wh14]; exact I9.put (a := 60) (j := 47) (x := 0) (0) (1300) rfl rfl (show (0 : Int) ≤ 0 ∧ 0 ≤ 1300 by decide)
  have f13 : Fr [89, 90, 91, 92, 93, 94, 95, 96, 245, 246, 247, 248] h h14 := by rw [wh14]; exact Fr.putF (a := 60) (j := 47) (x := 0) f10 rfl
  refine to_aload_n (dat dk_X12_readQuery 9 rfl) rfl (to_iconst (dat dk_X12_readQuery 10 rfl) (to_putIw p_c13_391 (dat dk_X12_readQuery 11 rfl) (I12.atS rfl) ?_))
  intro h17 wh17
  have I15 : Inv h17 := by rw [wh17]; exact I12.put (a := 60) (j := 48) (x := 0) (0) (1201) rfl rfl (show (0 : Int) ≤ 0 ∧ 0 ≤ 1201 by decide)
  have f16 : Fr [89, 90, 91, 92, 93, 94, 95, 96, 245, 246, 247, 248] h h17 := by rw [wh17]; exact Fr.putF (a := 60) (j := 48) (x := 0) f13 rfl
  have z18 := q_none (h := h) (x := 0)
  have z18q : Val h17 ∧ LfOK h17 ∧ htq h17 = 0 ∧ binq h17 = 0 ∧ opnq h17 = 0 := by rw [wh17, wh14, wh11, wh8]; exact q_none
  obtain ⟨z19, z20, z21, z22, z23⟩ := z18q
  have z24 := bq_ge (h := h) (p := (0 : Int))
  refine to_iconst (dat dk_X12_readQuery 12 rfl) (to_istore_n (L' := [(0, .inr (.inr 60)), (1, .inl 0)]) (dat dk_X12_readQuery 13 rfl) (by decide) rfl (to_iconst (dat dk_X12_readQuery 14 rfl) (to_istore_n (L' := [(0, .inr (.inr 60)), (1, .inl 0), (2, .inl 0)]) (dat dk_X12_readQuery 15 rfl) (by decide) rfl (to_iconst (dat dk_X12_readQuery 16 rfl) (to_istore_n (L' := [(0, .inr (.inr 60)), (1, .inl 0), (2, .inl 0), (3, .inl 0)]) (dat dk_X12_readQuery 17 rfl) (by decide) rfl (to_iconst (dat dk_X12_readQuery 18 rfl) (to_istore (L' := [(0, .inr (.inr 60)), (1, .inl 0), (2, .inl 0), (3, .inl 0), (4, .inl 0)]) (dat dk_X12_readQuery 19 rfl) (by decide) rfl ?_)))))))
  have e31 : h17.2.2 60 44 = x2 := (by rw [wh17]; exact (show h14.2.2 60 44 = x2 from (by rw [wh14]; exact (show h11.2.2 60 44 = x2 from (by rw [wh11]; exact (show h8.2.2 60 44 = x2 from (by rw [wh8]; exact ex2)))))))
  have e35 : h17.2.2 60 45 = (0 : Int) := (by rw [wh17]; exact (show h14.2.2 60 45 = (0 : Int) from (by rw [wh14]; exact (show h11.2.2 60 45 = (0 : Int) from (by rw [wh11]; exact (show h8.2.2 60 45 = (0 : Int) from (by rw [wh8]; exact wr_eq)))))))
  have e40 : h17.2.2 60 46 = (0 : Int) := (by rw [wh17]; exact (show h14.2.2 60 46 = (0 : Int) from (by rw [wh14]; exact (show h11.2.2 60 46 = (0 : Int) from (by rw [wh11]; exact wr_eq)))))
  have e41 : h17.2.2 60 47 = (0 : Int) := (by rw [wh17]; exact (show h14.2.2 60 47 = (0 : Int) from (by rw [wh14]; exact wr_eq)))
  have e46 : h17.2.2 60 48 = (0 : Int) := (by rw [wh17]; exact wr_eq)
  have lp29_n49 : ∀ (n49 : Nat) (y25 : Int) (y26 : Int) (y27 : Int) (y28 : Int) (h29 : Hp), (I32 y25) → (y26 = 0 ∨ y26 = 1) → (y27 = 0 ∨ y27 = 1) → (I32 y28) → (Inv h29) → (Fr [89, 90, 91, 92, 93, 94, 95, 96, 245, 246, 247, 248] h h29) → (0 ≤ y25 ∧ y25 ≤ 20) → (0 ≤ y28 ∧ y28 ≤ h29.2.2 60 44) → (Val h29) → (LfOK h29) → (htq h29 ≤ h29.2.2 60 45) → (3 * h29.2.2 60 45 ≤ 2 * y28 + bq h y28) → (htq h29 = binq h29 + y26) → (opnq h29 = y25) → (h29.2.2 60 46 + h29.2.2 60 47 ≤ 2 * y28) → (h29.2.2 60 47 ≤ y28 + y25) → (y26 ≤ y27) → (h29.2.2 60 47 ≤ 1300 * y27) → (h29.2.2 60 48 = 0) → (RQ h y28 y25 y26 y27) → (h29.2.2 60 44 - y28 ≤ (n49 : Int)) → To l E_X12_readQuery (29, [(0, .inr (.inr 60)), (1, .inl y25), (2, .inl y26), (3, .inl y27), (4, .inl y28)], [], h29, 0, 0) (Q_X12_readQuery_vx h) := by
    intro n49
    induction n49 using Nat.strongRecOn with
    | _ n49 ihn49 =>
    intro y25 y26 y27 y28 h29 ry25 ry26 ry27 ry28 Ih29 fh29 c30 c32 c33 c34 c36 c37 c38 c39 c42 c43 c44 c45 c47 c48 c50
    replace ry26 := z_lin ry26
    replace ry27 := z_lin ry27
    have e51 : h29.2.2 60 44 = x2 := ((Fr.get fh29 (by have := hI.1.1; omega) rfl).trans ex2)
    obtain ⟨x52, ex52⟩ : ∃ y : Int, h29.2.2 60 45 = y := ⟨_, rfl⟩
    have rx52 := Ih29.atR (a := 60) (j := 45) rfl
    rw [ex52] at rx52
    obtain ⟨x53, ex53⟩ : ∃ y : Int, h29.2.2 60 46 = y := ⟨_, rfl⟩
    have rx53 := Ih29.atR (a := 60) (j := 46) rfl
    rw [ex53] at rx53
    obtain ⟨x54, ex54⟩ : ∃ y : Int, h29.2.2 60 47 = y := ⟨_, rfl⟩
    have rx54 := Ih29.atR (a := 60) (j := 47) rfl
    rw [ex54] at rx54
    obtain ⟨x55, ex55⟩ : ∃ y : Int, h29.2.2 60 48 = y := ⟨_, rfl⟩
    have rx55 := Ih29.atR (a := 60) (j := 48) rfl
    rw [ex55] at rx55
    have zRQ := c48
    refine to_iload (dat dk_X12_readQuery 20 rfl) rfl (to_aload_n (dat dk_X12_readQuery 21 rfl) rfl (to_getIv (y := x2) e51 g_c13_412 (dat dk_X12_readQuery 22 rfl) (Ih29.atS rfl) ?_))
    refine to_ige 362 (dat dk_X12_readQuery 23 rfl) rfl ry28 (by omega) (fun c56 => ?_) (fun c56 => ?_)
    · skip
      refine to_iload_n (dat dk_X12_readQuery 185 rfl) rfl ?_
      refine to_ifeq 383 (dat dk_X12_readQuery 186 rfl) rfl (z_i32 ry27) (fun c57 => ?_) (fun c57 => ?_)
      · skip
        refine to_aload_n (dat dk_X12_readQuery 196 rfl) rfl (to_iconst (dat dk_X12_readQuery 197 rfl) ?_)
        refine to_cV ca_c13_459 (dat dk_X12_readQuery 198 rfl) (ct_X12_unwind_vb l h29 Ih29 3 (by decide) (show h29.2.2 60 46 + h29.2.2 60 47 ≤ 3000 by omega) c33 (show htq h29 - binq h29 = 1 ∨ h29.2.2 60 47 = 0 by omega)) rfl ⟨_, _, rfl, (Ih29.atS rfl)⟩ rfl (fun h59 p60 => ?_)
        obtain ⟨Ih59, fh59, p60_0, p60_1, p60_2, p60_3, p60_4, p60_5, p60_6⟩ := p60
        have f61 : Fr [89, 90, 91, 92, 93, 94, 95, 96, 245, 246, 247, 248] h h59 := Fr.sub fh29 fh59 rfl
        have t62 : LfOK h59 := LfOK_fr fh59 Ih29 rfl c34
        obtain ⟨x63, ex63⟩ : ∃ y : Int, h59.2.2 60 46 = y := ⟨_, rfl⟩
        have rx63 := Ih59.atR (a := 60) (j := 46) rfl
        rw [ex63] at rx63
        obtain ⟨x64, ex64⟩ : ∃ y : Int, h59.2.2 60 47 = y := ⟨_, rfl⟩
        have rx64 := Ih59.atR (a := 60) (j := 47) rfl
        rw [ex64] at rx64
        refine to_iconst (dat dk_X12_readQuery 199 rfl) ?_
        have e65 : h59.2.2 60 48 = x55 := ((Fr.get fh59 (by have := Ih29.1.1; omega) rfl).trans ex55)
        have e66 : h59.2.2 60 44 = x2 := ((Fr.get fh59 (by have := Ih29.1.1; omega) rfl).trans e51)
        exact to_zret rfl (dat dk_X12_readQuery 200 rfl) (by decide) (ri_mk (by decide) ⟨Ih59, f61, (by decide), p60_0, t62, (by have z := RQ.e0 zRQ zh.1 (by omega) (by omega); omega)⟩)
      · skip
        replace c57 := z_one ry27 c57
        refine to_iload_n (dat dk_X12_readQuery 187 rfl) rfl ?_
        refine to_ifeq 374 (dat dk_X12_readQuery 188 rfl) rfl (z_i32 ry26) (fun c67 => ?_) (fun c67 => ?_)
        · skip
          refine to_aload_n (dat dk_X12_readQuery 191 rfl) rfl (to_aload_n (dat dk_X12_readQuery 192 rfl) rfl (to_getIv (y := x2) e51 g_c13_412 (dat dk_X12_readQuery 193 rfl) (Ih29.atS rfl) ?_))
          refine to_cI ca_c13_456 (dat dk_X12_readQuery 194 rfl) (ct_X12_refuse_vx l h29 Ih29 x2 (by omega) (show 0 ≤ x2 ∧ x2 ≤ 1200 by omega)) rfl ⟨_, _, rfl, (Ih29.atS rfl)⟩ rfl (fun x68 h69 rx68 p70 => ?_)
          obtain ⟨Ih69, fh69, zx68, p70_0, p70_1⟩ := p70
          have f71 : Fr [89, 90, 91, 92, 93, 94, 95, 96, 245, 246, 247, 248] h h69 := Fr.sub fh29 fh69 rfl
          have t72 : Val h69 := Val_fr fh69 Ih29 rfl c33
          have t73 : LfOK h69 := LfOK_fr fh69 Ih29 rfl c34
          have t74 : htq h69 = htq h29 := htq_fr fh69 Ih29 rfl
          have t75 : binq h69 = binq h29 := binq_fr fh69 Ih29 rfl
          have t76 : opnq h69 = opnq h29 := opnq_fr fh69 Ih29 rfl
          have rzx68 := z_lin zx68
          clear zx68
          clear rx68
          have rx68 := rzx68
          clear rzx68
          obtain ⟨x77, ex77⟩ : ∃ y : Int, h69.2.2 60 48 = y := ⟨_, rfl⟩
          have rx77 := Ih69.atR (a := 60) (j := 48) rfl
          rw [ex77] at rx77
          have e78 : h69.2.2 60 44 = x2 := ((Fr.get fh69 (by have := Ih29.1.1; omega) rfl).trans e51)
          exact to_zret rfl (dat dk_X12_readQuery 195 rfl) (by omega) (ri_mk (z_i32 rx68) ⟨Ih69, f71, (by omega), t72, t73, (by have z := RQ.e1 zRQ zh.1 (by omega) ⟨by omega, by omega⟩; omega)⟩)
        · skip
          replace c67 := z_one ry26 c67
          refine to_iload_n (dat dk_X12_readQuery 189 rfl) rfl ?_
          refine to_ifle 383 (dat dk_X12_readQuery 190 rfl) rfl ry25 (fun c79 => ?_) (fun c79 => ?_)
          · skip
            refine to_aload_n (dat dk_X12_readQuery 196 rfl) rfl (to_iconst (dat dk_X12_readQuery 197 rfl) ?_)
            refine to_cV ca_c13_459 (dat dk_X12_readQuery 198 rfl) (ct_X12_unwind_vb l h29 Ih29 3 (by decide) (show h29.2.2 60 46 + h29.2.2 60 47 ≤ 3000 by omega) c33 (show htq h29 - binq h29 = 1 ∨ h29.2.2 60 47 = 0 by omega)) rfl ⟨_, _, rfl, (Ih29.atS rfl)⟩ rfl (fun h81 p82 => ?_)
            obtain ⟨Ih81, fh81, p82_0, p82_1, p82_2, p82_3, p82_4, p82_5, p82_6⟩ := p82
            have f83 : Fr [89, 90, 91, 92, 93, 94, 95, 96, 245, 246, 247, 248] h h81 := Fr.sub fh29 fh81 rfl
            have t84 : LfOK h81 := LfOK_fr fh81 Ih29 rfl c34
            obtain ⟨x85, ex85⟩ : ∃ y : Int, h81.2.2 60 46 = y := ⟨_, rfl⟩
            have rx85 := Ih81.atR (a := 60) (j := 46) rfl
            rw [ex85] at rx85
            obtain ⟨x86, ex86⟩ : ∃ y : Int, h81.2.2 60 47 = y := ⟨_, rfl⟩
            have rx86 := Ih81.atR (a := 60) (j := 47) rfl
            rw [ex86] at rx86
            refine to_iconst (dat dk_X12_readQuery 199 rfl) ?_
            have e87 : h81.2.2 60 48 = x55 := ((Fr.get fh81 (by have := Ih29.1.1; omega) rfl).trans ex55)
            have e88 : h81.2.2 60 44 = x2 := ((Fr.get fh81 (by have := Ih29.1.1; omega) rfl).trans e51)
            exact to_zret rfl (dat dk_X12_readQuery 200 rfl) (by decide) (ri_mk (by decide) ⟨Ih81, f83, (by decide), p82_0, t84, (by have z := RQ.e0 zRQ zh.1 (by omega) (by omega); omega)⟩)
          · skip
            refine to_aload_n (dat dk_X12_readQuery 191 rfl) rfl (to_aload_n (dat dk_X12_readQuery 192 rfl) rfl (to_getIv (y := x2) e51 g_c13_412 (dat dk_X12_readQuery 193 rfl) (Ih29.atS rfl) ?_))
            refine to_cI ca_c13_456 (dat dk_X12_readQuery 194 rfl) (ct_X12_refuse_vx l h29 Ih29 x2 (by omega) (show 0 ≤ x2 ∧ x2 ≤ 1200 by omega)) rfl ⟨_, _, rfl, (Ih29.atS rfl)⟩ rfl (fun x89 h90 rx89 p91 => ?_)
            obtain ⟨Ih90, fh90, zx89, p91_0, p91_1⟩ := p91
            have f92 : Fr [89, 90, 91, 92, 93, 94, 95, 96, 245, 246, 247, 248] h h90 := Fr.sub fh29 fh90 rfl
            have t93 : Val h90 := Val_fr fh90 Ih29 rfl c33
            have t94 : LfOK h90 := LfOK_fr fh90 Ih29 rfl c34
            have t95 : htq h90 = htq h29 := htq_fr fh90 Ih29 rfl
            have t96 : binq h90 = binq h29 := binq_fr fh90 Ih29 rfl
            have t97 : opnq h90 = opnq h29 := opnq_fr fh90 Ih29 rfl
            have rzx89 := z_lin zx89
            clear zx89
            clear rx89
            have rx89 := rzx89
            clear rzx89
            obtain ⟨x98, ex98⟩ : ∃ y : Int, h90.2.2 60 48 = y := ⟨_, rfl⟩
            have rx98 := Ih90.atR (a := 60) (j := 48) rfl
            rw [ex98] at rx98
            have e99 : h90.2.2 60 44 = x2 := ((Fr.get fh90 (by have := Ih29.1.1; omega) rfl).trans e51)
            exact to_zret rfl (dat dk_X12_readQuery 195 rfl) (by omega) (ri_mk (z_i32 rx89) ⟨Ih90, f92, (by omega), t93, t94, (by have z := RQ.e1 zRQ zh.1 (by omega) ⟨by omega, by omega⟩; omega)⟩)
    · skip
      have z100 := bq_ge (h := h) (p := y28)
      refine to_aload_n (dat dk_X12_readQuery 24 rfl) rfl (to_getR 88 g_c13_100 (dat dk_X12_readQuery 25 rfl) (Ih29.atS rfl) (Ih29.atE rfl) (to_iload (dat dk_X12_readQuery 26 rfl) rfl ?_))
      obtain ⟨x101, ex101⟩ : ∃ y : Int, h29.2.2 88 (Int.toNat y28) = y := ⟨_, rfl⟩
      have rx101 := Ih29.atR (a := 88) (j := Int.toNat y28) rfl
      rw [ex101] at rx101
      refine to_baldv (q := 1) ex101 (dat dk_X12_readQuery 27 rfl) (by decide) (Ih29.atS rfl) rfl (by decide) (by omega) ?_
      have k102 : h.2.2 88 (Int.toNat y28) = x101 := (Fr.getF fh29 hI (by decide) rfl).symm.trans ex101
      refine to_cI ca_c13_182 (dat dk_X12_readQuery 28 rfl) (ct_X12_isBlank_vx l h29 Ih29 x101 (by omega)) rfl trivial rfl (fun x103 h104 rx103 p105 => ?_)
      obtain ⟨rfl, zx103, p105_0⟩ := p105
      have rzx103 := z_lin zx103
      clear zx103
      clear rx103
      have rx103 := rzx103
      clear rzx103
      refine to_ifeq 57 (dat dk_X12_readQuery 29 rfl) rfl (z_i32 rx103) (fun c106 => ?_) (fun c106 => ?_)
      · skip
        have zNB : isBl (hr h (Int.toNat y28)) = false := bl_no (by omega)
        refine to_iconst (dat dk_X12_readQuery 32 rfl) (to_istore_n (L' := [(0, .inr (.inr 60)), (1, .inl y25), (2, .inl y26), (3, .inl 1), (4, .inl y28)]) (dat dk_X12_readQuery 33 rfl) (by decide) rfl (to_aload_n (dat dk_X12_readQuery 34 rfl) rfl (to_iload (dat dk_X12_readQuery 35 rfl) rfl ?_)))
        refine to_cI ca_c13_443 (dat dk_X12_readQuery 36 rfl) (ct_X12_wordEnd_vx l h29 Ih29 y28 ry28 (show 0 ≤ y28 ∧ y28 ≤ h29.2.2 60 44 by omega)) rfl ⟨_, _, rfl, (Ih29.atS rfl)⟩ rfl (fun x107 h108 rx107 p109 => ?_)
        obtain ⟨rfl, p109_0, p109_1, p109_2, p109_3⟩ := p109
        refine to_istore (L' := [(0, .inr (.inr 60)), (1, .inl y25), (2, .inl y26), (3, .inl 1), (4, .inl y28), (5, .inl x107)]) (dat dk_X12_readQuery 37 rfl) (by decide) rfl ?_
        rw [show h29.2.2 88 = h.2.2 88 from fh29.arr hI (by decide) (fun _ => rfl)] at p109_1
        rw [show h29.2.2 88 = h.2.2 88 from fh29.arr hI (by decide) (fun _ => rfl)] at p109_2
        rw [show h29.2.2 60 44 = h.2.2 60 44 by omega] at p109_1 p109_2
        have z110 := sp_c (h.2.2 88 (Int.toNat y28))
        rw [(hr_fr fh29 hI rfl), (hn_fr fh29 hI rfl)] at p109_3
        have zW : x107 = ((wE h y28 : Nat) : Int) := p109_3
        have zE : Int.toNat x107 = wE h y28 := by omega
        refine to_aload_n (dat dk_X12_readQuery 38 rfl) rfl (to_getR 88 g_c13_100 (dat dk_X12_readQuery 39 rfl) (Ih29.atS rfl) (Ih29.atE rfl) (to_iload (dat dk_X12_readQuery 40 rfl) rfl (to_iload (dat dk_X12_readQuery 41 rfl) rfl (to_gst (C := "MailArchiveModel") (f9 := "WORD_OR") (d9 := "[I") (List.mem_of_getElem? (i := 17) rfl) (tin 7 190 (by decide +kernel) rfl) (dat dk_X12_readQuery 42 rfl) ?_))))
        refine to_cI ca_c13_449 (dat dk_X12_readQuery 43 rfl) (ct_X12_just_vx l h29 Ih29 88 1200 rfl y28 ry28 x107 rx107 1000216 2 (List.mem_of_getElem? (i := 15) rfl) (show 0 ≤ y28 ∧ y28 ≤ 640000 by omega) (show -1 ≤ x107 ∧ x107 ≤ (1200 : Int) by omega) (show y28 ≤ x107 by omega)) rfl trivial rfl (fun x111 h112 rx111 p113 => ?_)
        obtain ⟨rfl, zx111, p113_0, p113_1⟩ := p113
        have rzx111 := z_lin zx111
        clear zx111
        clear rx111
        have rx111 := rzx111
        clear rzx111
        rw [show h29.2.2 88 = hr h from hr_fr fh29 hI rfl, zE, show icod 1000216 = wOR by rw [icod_eq]; decide +kernel] at p113_1
        have zO : x111 = bi (isW (hr h) (Int.toNat y28) (wE h y28) wOR) := p113_1
        refine to_istore (L' := [(0, .inr (.inr 60)), (1, .inl y25), (2, .inl y26), (3, .inl 1), (4, .inl y28), (5, .inl x107), (6, .inl x111)]) (dat dk_X12_readQuery 44 rfl) (by decide) rfl (to_aload_n (dat dk_X12_readQuery 45 rfl) rfl (to_getR 88 g_c13_100 (dat dk_X12_readQuery 46 rfl) (Ih29.atS rfl) (Ih29.atE rfl) (to_iload (dat dk_X12_readQuery 47 rfl) rfl (to_iload (dat dk_X12_readQuery 48 rfl) rfl (to_gst (C := "MailArchiveModel") (f9 := "WORD_AND") (d9 := "[I") (List.mem_of_getElem? (i := 15) rfl) (tin 7 195 (by decide +kernel) rfl) (dat dk_X12_readQuery 49 rfl) ?_)))))
        refine to_cI ca_c13_449 (dat dk_X12_readQuery 50 rfl) (ct_X12_just_vx l h29 Ih29 88 1200 rfl y28 ry28 x107 rx107 1000214 3 (List.mem_of_getElem? (i := 13) rfl) (show 0 ≤ y28 ∧ y28 ≤ 640000 by omega) (show -1 ≤ x107 ∧ x107 ≤ (1200 : Int) by omega) (show y28 ≤ x107 by omega)) rfl trivial rfl (fun x114 h115 rx114 p116 => ?_)
        obtain ⟨rfl, zx114, p116_0, p116_1⟩ := p116
        have rzx114 := z_lin zx114
        clear zx114
        clear rx114
        have rx114 := rzx114
        clear rzx114
        rw [show h29.2.2 88 = hr h from hr_fr fh29 hI rfl, zE, show icod 1000214 = wAND by rw [icod_eq]; decide +kernel] at p116_1
        have zA : x114 = bi (isW (hr h) (Int.toNat y28) (wE h y28) wAND) := p116_1
        refine to_istore (L' := [(0, .inr (.inr 60)), (1, .inl y25), (2, .inl y26), (3, .inl 1), (4, .inl y28), (5, .inl x107), (6, .inl x111), (7, .inl x114)]) (dat dk_X12_readQuery 51 rfl) (by decide) rfl ?_
        have jn116_n119 : ∀ (y117 : Int), (y117 = 0 ∨ y117 = 1) → ((y117 = 1 ∧ h.2.2 88 (Int.toNat y28) = 41) ∨ (y117 = 0 ∧ h.2.2 88 (Int.toNat y28) ≠ 41)) → To l E_X12_readQuery (116, [(0, .inr (.inr 60)), (1, .inl y25), (2, .inl y26), (3, .inl 1), (4, .inl y28), (5, .inl x107), (6, .inl x111), (7, .inl x114)], [.inl y117], h29, 0, 0) (Q_X12_readQuery_vx h) := by
          intro y117 ry117 c118
          replace ry117 := z_lin ry117
          refine to_istore (L' := [(0, .inr (.inr 60)), (1, .inl y25), (2, .inl y26), (3, .inl 1), (4, .inl y28), (5, .inl x107), (6, .inl x111), (7, .inl x114), (8, .inl y117)]) (dat dk_X12_readQuery 61 rfl) (by decide) rfl ?_
          have jn133_n125 : (y28 < h29.2.2 60 44 ∧ y28 ≤ x107 ∧ x107 ≤ h29.2.2 60 44) → (y28 + 2 ≤ x107 + 2 * y117) → (x111 + y117 ≤ 1) → (x114 + y117 ≤ 1) → (WC h y28 y117) → To l E_X12_readQuery (133, [(0, .inr (.inr 60)), (1, .inl y25), (2, .inl y26), (3, .inl 1), (4, .inl y28), (5, .inl x107), (6, .inl x111), (7, .inl x114), (8, .inl y117)], [], h29, 0, 0) (Q_X12_readQuery_vx h) := by
            intro  c120 c121 c122 c123 c124
            try clear c56
            try clear z100
            try clear k102
            try clear p105
            try clear zx103
            try clear p105_0
            try clear c106
            try clear p109
            try clear p109_0
            try clear p109_1
            try clear p109_2
            try clear p109_3
            try clear z110
            try clear p113
            try clear zx111
            try clear p113_0
            try clear p113_1
            try clear p116
            try clear zx114
            try clear p116_0
            try clear p116_1
            have zWC := c124
            have jn153_n128 : (y26 = 1) → (y117 ≤ y25) → To l E_X12_readQuery (153, [(0, .inr (.inr 60)), (1, .inl y25), (2, .inl y26), (3, .inl 1), (4, .inl y28), (5, .inl x107), (6, .inl x111), (7, .inl x114), (8, .inl y117)], [], h29, 0, 0) (Q_X12_readQuery_vx h) := by
              intro  c126 c127
              have zb1 : y26 = 1 := by omega
              have zb2 : y117 = 0 ∨ 0 < y25 := by omega
              refine to_aload_n (dat dk_X12_readQuery 78 rfl) rfl ?_
              have jn164_n132 : ∀ (y129 : Int), (I32 y129) → (2 ≤ y129 ∧ y129 ≤ 3) → (2 + y117 ≤ y129) → To l E_X12_readQuery (164, [(0, .inr (.inr 60)), (1, .inl y25), (2, .inl y26), (3, .inl 1), (4, .inl y28), (5, .inl x107), (6, .inl x111), (7, .inl x114), (8, .inl y117)], [.inl y129, .inr (.inr 60)], h29, 0, 0) (Q_X12_readQuery_vx h) := by
                intro y129 ry129 c130 c131
                refine to_cV ca_c13_459 (dat dk_X12_readQuery 84 rfl) (ct_X12_unwind_vb l h29 Ih29 y129 ry129 (show h29.2.2 60 46 + h29.2.2 60 47 ≤ 3000 by omega) c33 (show htq h29 - binq h29 = 1 ∨ h29.2.2 60 47 = 0 by omega)) rfl ⟨_, _, rfl, (Ih29.atS rfl)⟩ rfl (fun h134 p135 => ?_)
                obtain ⟨Ih134, fh134, p135_0, p135_1, p135_2, p135_3, p135_4, p135_5, p135_6⟩ := p135
                have f136 : Fr [89, 90, 91, 92, 93, 94, 95, 96, 245, 246, 247, 248] h h134 := Fr.sub fh29 fh134 rfl
                have t137 : LfOK h134 := LfOK_fr fh134 Ih29 rfl c34
                obtain ⟨x138, ex138⟩ : ∃ y : Int, h134.2.2 60 46 = y := ⟨_, rfl⟩
                have rx138 := Ih134.atR (a := 60) (j := 46) rfl
                rw [ex138] at rx138
                obtain ⟨x139, ex139⟩ : ∃ y : Int, h134.2.2 60 47 = y := ⟨_, rfl⟩
                have rx139 := Ih134.atR (a := 60) (j := 47) rfl
                rw [ex139] at rx139
                have jn199_n153 : ∀ (h140 : Hp), (Inv h140) → (Fr [89, 90, 91, 92, 93, 94, 95, 96, 245, 246, 247, 248] h h140) → (Val h140) → (LfOK h140) → (htq h140 ≤ h140.2.2 60 45) → (3 * h140.2.2 60 45 ≤ 2 * y28 + bq h y28) → (y28 < h140.2.2 60 44 ∧ y28 ≤ x107 ∧ x107 ≤ h140.2.2 60 44) → (y28 + 2 ≤ x107 + 2 * y117) → (y117 ≤ y25) → (htq h140 = binq h140 + y117) → (opnq h140 = y25 - y117) → (h140.2.2 60 46 + h140.2.2 60 47 ≤ 2 * y28 + 1) → (h140.2.2 60 47 ≤ y28 + y25 + 1 - 2 * y117) → (h140.2.2 60 48 = 0) → To l E_X12_readQuery (199, [(0, .inr (.inr 60)), (1, .inl y25), (2, .inl y26), (3, .inl 1), (4, .inl y28), (5, .inl x107), (6, .inl x111), (7, .inl x114), (8, .inl y117)], [], h140, 0, 0) (Q_X12_readQuery_vx h) := by
                  intro h140 Ih140 fh140 c141 c142 c143 c144 c145 c146 c147 c148 c149 c150 c151 c152
                  try clear p135
                  try clear p135_0
                  try clear p135_1
                  try clear p135_2
                  try clear p135_3
                  try clear p135_4
                  try clear p135_5
                  try clear p135_6
                  try clear t137
                  obtain ⟨x154, ex154⟩ : ∃ y : Int, h140.2.2 60 45 = y := ⟨_, rfl⟩
                  have rx154 := Ih140.atR (a := 60) (j := 45) rfl
                  rw [ex154] at rx154
                  have e155 : h140.2.2 60 44 = x2 := ((Fr.get fh140 (by have := hI.1.1; omega) rfl).trans ex2)
                  obtain ⟨x156, ex156⟩ : ∃ y : Int, h140.2.2 60 46 = y := ⟨_, rfl⟩
                  have rx156 := Ih140.atR (a := 60) (j := 46) rfl
                  rw [ex156] at rx156
                  obtain ⟨x157, ex157⟩ : ∃ y : Int, h140.2.2 60 47 = y := ⟨_, rfl⟩
                  have rx157 := Ih140.atR (a := 60) (j := 47) rfl
                  rw [ex157] at rx157
                  obtain ⟨x158, ex158⟩ : ∃ y : Int, h140.2.2 60 48 = y := ⟨_, rfl⟩
                  have rx158 := Ih140.atR (a := 60) (j := 48) rfl
                  rw [ex158] at rx158
                  have z159 := bq_ge (h := h) (p := y28)
                  refine to_iload_n (dat dk_X12_readQuery 101 rfl) rfl ?_
                  have jn210_n162 : ∀ (y160 : Int), (y160 = 0 ∨ y160 = 1) → (y160 = y117) → To l E_X12_readQuery (210, [(0, .inr (.inr 60)), (1, .inl y25), (2, .inl y26), (3, .inl 1), (4, .inl y28), (5, .inl x107), (6, .inl x111), (7, .inl x114), (8, .inl y117)], [.inl y160, .inl y25], h140, 0, 0) (Q_X12_readQuery_vx h) := by
                    intro y160 ry160 c161
                    replace ry160 := z_lin ry160
                    refine to_isub (dat dk_X12_readQuery 107 rfl) (to_istore_n (L' := [(0, .inr (.inr 60)), (1, .inl (y25 - y160)), (2, .inl y26), (3, .inl 1), (4, .inl y28), (5, .inl x107), (6, .inl x111), (7, .inl x114), (8, .inl y117)]) (dat dk_X12_readQuery 108 rfl) (by decide) rfl (to_iload (dat dk_X12_readQuery 109 rfl) rfl (to_istore_n (L' := [(0, .inr (.inr 60)), (1, .inl (y25 - y160)), (2, .inl y117), (3, .inl 1), (4, .inl y28), (5, .inl x107), (6, .inl x111), (7, .inl x114), (8, .inl y117)]) (dat dk_X12_readQuery 110 rfl) (by decide) rfl ?_)))
                    have jn229_n166 : ∀ (y163 : Int), (I32 y163) → (y28 + 1 ≤ y163 ∧ y163 ≤ h140.2.2 60 44) → ((y117 = 1 ∧ y163 = y28 + 1) ∨ (y117 = 0 ∧ y163 = x107)) → To l E_X12_readQuery (229, [(0, .inr (.inr 60)), (1, .inl (y25 - y160)), (2, .inl y117), (3, .inl 1), (4, .inl y28), (5, .inl x107), (6, .inl x111), (7, .inl x114), (8, .inl y117)], [.inl y163], h140, 0, 0) (Q_X12_readQuery_vx h) := by
                      intro y163 ry163 c164 c165
                      refine to_istore (L' := [(0, .inr (.inr 60)), (1, .inl (y25 - y160)), (2, .inl y117), (3, .inl 1), (4, .inl y163), (5, .inl x107), (6, .inl x111), (7, .inl x114), (8, .inl y117)]) (dat dk_X12_readQuery 118 rfl) (by decide) rfl ?_
                      have z167 := bq_ge (h := h) (p := y163)
                      refine to_goto (dat dk_X12_readQuery 119 rfl) rfl ?_
                      refine to_pick [0, 1, 2, 3, 4] rfl ?_
                      exact ihn49 (n49 - 1) (by omega) (y25 - y160) y117 1 y163 h140 (by omega) (by omega) (by decide) ry163 Ih140 fh140 (show 0 ≤ (y25 - y160) ∧ (y25 - y160) ≤ 20 by omega) (show 0 ≤ y163 ∧ y163 ≤ h140.2.2 60 44 by omega) c141 c142 (show htq h140 ≤ h140.2.2 60 45 by omega) (show 3 * h140.2.2 60 45 ≤ 2 * y163 + bq h y163 by omega) (show htq h140 = binq h140 + y117 by omega) (show opnq h140 = (y25 - y160) by omega) (show h140.2.2 60 46 + h140.2.2 60 47 ≤ 2 * y163 by omega) (show h140.2.2 60 47 ≤ y163 + (y25 - y160) by omega) (show y117 ≤ (1 : Int) by omega) (show h140.2.2 60 47 ≤ 1300 * (1 : Int) by omega) (show h140.2.2 60 48 = 0 by omega) (by have z := RQ.g1 (p' := y163) zRQ zh.1 (by omega) zNB zWC zb1 zb2 (by omega); rw [show (y25 - y160) = y25 - y117 by omega]; exact z) (show h140.2.2 60 44 - y163 ≤ ((n49 - 1 : Nat) : Int) by omega)
                    refine to_iload (dat dk_X12_readQuery 111 rfl) rfl ?_
                    refine to_ifeq 227 (dat dk_X12_readQuery 112 rfl) rfl (z_i32 ry117) (fun c168 => ?_) (fun c168 => ?_)
                    · skip
                      refine to_iload (dat dk_X12_readQuery 117 rfl) rfl ?_
                      exact jn229_n166 x107 rx107 (show y28 + 1 ≤ x107 ∧ x107 ≤ h140.2.2 60 44 by omega) (show (y117 = 1 ∧ x107 = y28 + 1) ∨ (y117 = 0 ∧ x107 = x107) by omega)
                    · skip
                      replace c168 := z_one ry117 c168
                      refine to_iload (dat dk_X12_readQuery 113 rfl) rfl (to_iconst (dat dk_X12_readQuery 114 rfl) (to_iadd (dat dk_X12_readQuery 115 rfl) (to_goto (dat dk_X12_readQuery 116 rfl) rfl ?_)))
                      exact jn229_n166 (y28 + 1) (by omega) (show y28 + 1 ≤ (y28 + 1) ∧ (y28 + 1) ≤ h140.2.2 60 44 by omega) (show (y117 = 1 ∧ (y28 + 1) = y28 + 1) ∨ (y117 = 0 ∧ (y28 + 1) = x107) by omega)
                  refine to_iload (dat dk_X12_readQuery 102 rfl) rfl ?_
                  refine to_ifeq 209 (dat dk_X12_readQuery 103 rfl) rfl (z_i32 ry117) (fun c169 => ?_) (fun c169 => ?_)
                  · skip
                    refine to_iconst (dat dk_X12_readQuery 106 rfl) ?_
                    exact jn210_n162 0 (by decide) (show (0 : Int) = y117 by omega)
                  · skip
                    replace c169 := z_one ry117 c169
                    refine to_iconst (dat dk_X12_readQuery 104 rfl) (to_goto (dat dk_X12_readQuery 105 rfl) rfl ?_)
                    exact jn210_n162 1 (by decide) (show (1 : Int) = y117 by omega)
                refine to_iload (dat dk_X12_readQuery 85 rfl) rfl ?_
                refine to_ifeq 185 (dat dk_X12_readQuery 86 rfl) rfl (z_i32 ry117) (fun c170 => ?_) (fun c170 => ?_)
                · skip
                  refine to_aload_n (dat dk_X12_readQuery 94 rfl) rfl ?_
                  have jn196_n173 : ∀ (y171 : Int), (I32 y171) → (2 ≤ y171 ∧ y171 ≤ 3) → To l E_X12_readQuery (196, [(0, .inr (.inr 60)), (1, .inl y25), (2, .inl y26), (3, .inl 1), (4, .inl y28), (5, .inl x107), (6, .inl x111), (7, .inl x114), (8, .inl y117)], [.inl y171, .inr (.inr 60)], h134, 0, 0) (Q_X12_readQuery_vx h) := by
                    intro y171 ry171 c172
                    refine to_cV ca_c13_462 (dat dk_X12_readQuery 100 rfl) (ct_X12_later_vb l h134 Ih134 y171 ry171 (show 0 ≤ y171 ∧ y171 ≤ 4 by omega) (show h134.2.2 60 47 ≤ 1299 by omega)) rfl ⟨_, _, rfl, (Ih134.atS rfl)⟩ rfl (fun h175 p176 => ?_)
                    obtain ⟨Ih175, fh175, p176_0, p176_1⟩ := p176
                    have f177 : Fr [89, 90, 91, 92, 93, 94, 95, 96, 245, 246, 247, 248] h h175 := Fr.sub f136 fh175 rfl
                    have t178 : Val h175 := Val_fr fh175 Ih134 rfl p135_0
                    have t179 : LfOK h175 := LfOK_fr fh175 Ih134 rfl t137
                    have t180 : htq h175 = htq h134 := htq_fr fh175 Ih134 rfl
                    obtain ⟨x181, ex181⟩ : ∃ y : Int, h175.2.2 60 47 = y := ⟨_, rfl⟩
                    have rx181 := Ih175.atR (a := 60) (j := 47) rfl
                    rw [ex181] at rx181
                    have q182 := LaterP.sums p176_1 (Ih134.atR (a := 60) (j := 47) rfl).1
                    have q183 := bn23 (s := y171) (by omega)
                    have e184 : h175.2.2 60 45 = x52 := ((Fr.get fh175 (by have := Ih134.1.1; omega) rfl).trans ((Fr.get fh134 (by have := Ih29.1.1; omega) rfl).trans ex52))
                    have e185 : h175.2.2 60 44 = x2 := ((Fr.get fh175 (by have := Ih134.1.1; omega) rfl).trans ((Fr.get fh134 (by have := Ih29.1.1; omega) rfl).trans e51))
                    have e186 : h175.2.2 60 46 = x138 := ((Fr.get fh175 (by have := Ih134.1.1; omega) rfl).trans ex138)
                    have e187 : h175.2.2 60 48 = x55 := ((Fr.get fh175 (by have := Ih134.1.1; omega) rfl).trans ((Fr.get fh134 (by have := Ih29.1.1; omega) rfl).trans ex55))
                    exact jn199_n153 h175 Ih175 f177 t178 t179 (show htq h175 ≤ h175.2.2 60 45 by omega) (show 3 * h175.2.2 60 45 ≤ 2 * y28 + bq h y28 by omega) (show y28 < h175.2.2 60 44 ∧ y28 ≤ x107 ∧ x107 ≤ h175.2.2 60 44 by omega) (show y28 + 2 ≤ x107 + 2 * y117 by omega) (show y117 ≤ y25 by omega) (show htq h175 = binq h175 + y117 by omega) (show opnq h175 = y25 - y117 by omega) (show h175.2.2 60 46 + h175.2.2 60 47 ≤ 2 * y28 + 1 by omega) (show h175.2.2 60 47 ≤ y28 + y25 + 1 - 2 * y117 by omega) (show h175.2.2 60 48 = 0 by omega)
                  refine to_iload (dat dk_X12_readQuery 95 rfl) rfl ?_
                  refine to_ifeq 195 (dat dk_X12_readQuery 96 rfl) rfl (z_i32 rx111) (fun c188 => ?_) (fun c188 => ?_)
                  · skip
                    refine to_iconst (dat dk_X12_readQuery 99 rfl) ?_
                    exact jn196_n173 2 (by decide) (show 2 ≤ (2 : Int) ∧ (2 : Int) ≤ 3 by omega)
                  · skip
                    replace c188 := z_one rx111 c188
                    refine to_iconst (dat dk_X12_readQuery 97 rfl) (to_goto (dat dk_X12_readQuery 98 rfl) rfl ?_)
                    exact jn196_n173 3 (by decide) (show 2 ≤ (3 : Int) ∧ (3 : Int) ≤ 3 by omega)
                · skip
                  replace c170 := z_one ry117 c170
                  have z189 : 0 < x139 := pile_pos ex139 (by omega)
                  have z190 : h134.2.2 96 (x139 - 1).toNat = 4 := by
                    rw [fh134.arr Ih29 (a := 96) (by decide) (fun _ => rfl)]
                    exact UTop.top (by rw [← ex139]; exact p135_6) (by omega) Ih29 z189
                  refine to_aload_n (dat dk_X12_readQuery 87 rfl) rfl (to_dup (dat dk_X12_readQuery 88 rfl) rfl (to_getIv (y := x139) ex139 g_c13_406 (dat dk_X12_readQuery 89 rfl) (Ih134.atS rfl) (to_iconst (dat dk_X12_readQuery 90 rfl) (to_isub (dat dk_X12_readQuery 91 rfl) (to_putIw p_c13_406 (dat dk_X12_readQuery 92 rfl) (Ih134.atS rfl) ?_)))))
                  intro h193 wh193
                  have I191 : Inv h193 := by rw [wh193]; exact Ih134.put (a := 60) (j := 47) (x := (x139 - 1)) (0) (1300) rfl rfl (show (0 : Int) ≤ (x139 - 1) ∧ (x139 - 1) ≤ 1300 by omega)
                  have f192 : Fr [89, 90, 91, 92, 93, 94, 95, 96, 245, 246, 247, 248] h h193 := by rw [wh193]; exact Fr.putF (a := 60) (j := 47) (x := (x139 - 1)) f136 rfl
                  have t194 : Val h193 := by rw [wh193]; exact Val_wr rfl p135_0
                  have t195 : LfOK h193 := by rw [wh193]; exact LfOK_wr rfl t137
                  have t196 : htq h193 = htq h134 := by rw [wh193]; exact htq_wr rfl
                  have z197 := pile_open ex139 z189 wh193 z190
                  refine to_goto (dat dk_X12_readQuery 93 rfl) rfl ?_
                  have e198 : h193.2.2 60 45 = x52 := (by rw [wh193]; exact (show h134.2.2 60 45 = x52 from ((Fr.get fh134 (by have := Ih29.1.1; omega) rfl).trans ex52)))
                  have e199 : h193.2.2 60 44 = x2 := (by rw [wh193]; exact (show h134.2.2 60 44 = x2 from ((Fr.get fh134 (by have := Ih29.1.1; omega) rfl).trans e51)))
                  have e200 : h193.2.2 60 46 = x138 := (by rw [wh193]; exact ex138)
                  have e201 : h193.2.2 60 47 = (x139 - 1) := (by rw [wh193]; exact wr_eq)
                  have e202 : h193.2.2 60 48 = x55 := (by rw [wh193]; exact (show h134.2.2 60 48 = x55 from ((Fr.get fh134 (by have := Ih29.1.1; omega) rfl).trans ex55)))
                  exact jn199_n153 h193 I191 f192 t194 t195 (show htq h193 ≤ h193.2.2 60 45 by omega) (show 3 * h193.2.2 60 45 ≤ 2 * y28 + bq h y28 by omega) (show y28 < h193.2.2 60 44 ∧ y28 ≤ x107 ∧ x107 ≤ h193.2.2 60 44 by omega) (show y28 + 2 ≤ x107 + 2 * y117 by omega) (show y117 ≤ y25 by omega) (show htq h193 = binq h193 + y117 by omega) (show opnq h193 = y25 - y117 by omega) (show h193.2.2 60 46 + h193.2.2 60 47 ≤ 2 * y28 + 1 by omega) (show h193.2.2 60 47 ≤ y28 + y25 + 1 - 2 * y117 by omega) (show h193.2.2 60 48 = 0 by omega)
              refine to_iload (dat dk_X12_readQuery 79 rfl) rfl ?_
              refine to_ifeq 163 (dat dk_X12_readQuery 80 rfl) rfl (z_i32 rx114) (fun c203 => ?_) (fun c203 => ?_)
              · skip
                refine to_iconst (dat dk_X12_readQuery 83 rfl) ?_
                exact jn164_n132 3 (by decide) (show 2 ≤ (3 : Int) ∧ (3 : Int) ≤ 3 by omega) (show 2 + y117 ≤ (3 : Int) by omega)
              · skip
                replace c203 := z_one rx114 c203
                refine to_iconst (dat dk_X12_readQuery 81 rfl) (to_goto (dat dk_X12_readQuery 82 rfl) rfl ?_)
                exact jn164_n132 2 (by decide) (show 2 ≤ (2 : Int) ∧ (2 : Int) ≤ 3 by omega) (show 2 + y117 ≤ (2 : Int) by omega)
            refine to_iload_n (dat dk_X12_readQuery 68 rfl) rfl ?_
            refine to_ifeq 146 (dat dk_X12_readQuery 69 rfl) rfl (z_i32 ry26) (fun c204 => ?_) (fun c204 => ?_)
            · skip
              refine to_aload_n (dat dk_X12_readQuery 74 rfl) rfl (to_iload (dat dk_X12_readQuery 75 rfl) rfl ?_)
              refine to_cI ca_c13_456 (dat dk_X12_readQuery 76 rfl) (ct_X12_refuse_vx l h29 Ih29 y28 ry28 (show 0 ≤ y28 ∧ y28 ≤ 1200 by omega)) rfl ⟨_, _, rfl, (Ih29.atS rfl)⟩ rfl (fun x205 h206 rx205 p207 => ?_)
              obtain ⟨Ih206, fh206, zx205, p207_0, p207_1⟩ := p207
              have f208 : Fr [89, 90, 91, 92, 93, 94, 95, 96, 245, 246, 247, 248] h h206 := Fr.sub fh29 fh206 rfl
              have t209 : Val h206 := Val_fr fh206 Ih29 rfl c33
              have t210 : LfOK h206 := LfOK_fr fh206 Ih29 rfl c34
              have t211 : htq h206 = htq h29 := htq_fr fh206 Ih29 rfl
              have t212 : binq h206 = binq h29 := binq_fr fh206 Ih29 rfl
              have t213 : opnq h206 = opnq h29 := opnq_fr fh206 Ih29 rfl
              have rzx205 := z_lin zx205
              clear zx205
              clear rx205
              have rx205 := rzx205
              clear rzx205
              obtain ⟨x214, ex214⟩ : ∃ y : Int, h206.2.2 60 48 = y := ⟨_, rfl⟩
              have rx214 := Ih206.atR (a := 60) (j := 48) rfl
              rw [ex214] at rx214
              have e215 : h206.2.2 60 44 = x2 := ((Fr.get fh206 (by have := Ih29.1.1; omega) rfl).trans e51)
              exact to_zret rfl (dat dk_X12_readQuery 77 rfl) (by omega) (ri_mk (z_i32 rx205) ⟨Ih206, f208, (by omega), t209, t210, (by have z := RQ.f1 zRQ zh.1 (by omega) zNB zWC (by omega); omega)⟩)
            · skip
              replace c204 := z_one ry26 c204
              refine to_iload (dat dk_X12_readQuery 70 rfl) rfl ?_
              refine to_ifeq 153 (dat dk_X12_readQuery 71 rfl) rfl (z_i32 ry117) (fun c216 => ?_) (fun c216 => ?_)
              · skip
                exact jn153_n128  (show y26 = 1 by omega) (show y117 ≤ y25 by omega)
              · skip
                replace c216 := z_one ry117 c216
                refine to_iload_n (dat dk_X12_readQuery 72 rfl) rfl ?_
                refine to_ifne 153 (dat dk_X12_readQuery 73 rfl) rfl ry25 (fun c217 => ?_) (fun c217 => ?_)
                · skip
                  exact jn153_n128  (show y26 = 1 by omega) (show y117 ≤ y25 by omega)
                · skip
                  refine to_aload_n (dat dk_X12_readQuery 74 rfl) rfl (to_iload (dat dk_X12_readQuery 75 rfl) rfl ?_)
                  refine to_cI ca_c13_456 (dat dk_X12_readQuery 76 rfl) (ct_X12_refuse_vx l h29 Ih29 y28 ry28 (show 0 ≤ y28 ∧ y28 ≤ 1200 by omega)) rfl ⟨_, _, rfl, (Ih29.atS rfl)⟩ rfl (fun x218 h219 rx218 p220 => ?_)
                  obtain ⟨Ih219, fh219, zx218, p220_0, p220_1⟩ := p220
                  have f221 : Fr [89, 90, 91, 92, 93, 94, 95, 96, 245, 246, 247, 248] h h219 := Fr.sub fh29 fh219 rfl
                  have t222 : Val h219 := Val_fr fh219 Ih29 rfl c33
                  have t223 : LfOK h219 := LfOK_fr fh219 Ih29 rfl c34
                  have t224 : htq h219 = htq h29 := htq_fr fh219 Ih29 rfl
                  have t225 : binq h219 = binq h29 := binq_fr fh219 Ih29 rfl
                  have t226 : opnq h219 = opnq h29 := opnq_fr fh219 Ih29 rfl
                  have rzx218 := z_lin zx218
                  clear zx218
                  clear rx218
                  have rx218 := rzx218
                  clear rzx218
                  obtain ⟨x227, ex227⟩ : ∃ y : Int, h219.2.2 60 48 = y := ⟨_, rfl⟩
                  have rx227 := Ih219.atR (a := 60) (j := 48) rfl
                  rw [ex227] at rx227
                  have e228 : h219.2.2 60 44 = x2 := ((Fr.get fh219 (by have := Ih29.1.1; omega) rfl).trans e51)
                  exact to_zret rfl (dat dk_X12_readQuery 77 rfl) (by omega) (ri_mk (z_i32 rx218) ⟨Ih219, f221, (by omega), t222, t223, (by have z := RQ.f1 zRQ zh.1 (by omega) zNB zWC (by omega); omega)⟩)
          have jn234_n233 : (y28 < h29.2.2 60 44 ∧ y28 ≤ x107 ∧ x107 ≤ h29.2.2 60 44) → (QW h y28 x107) → (bq h x107 = 1) → (WN h y28) → To l E_X12_readQuery (234, [(0, .inr (.inr 60)), (1, .inl y25), (2, .inl y26), (3, .inl 1), (4, .inl y28), (5, .inl x107), (6, .inl x111), (7, .inl x114), (8, .inl y117)], [], h29, 0, 0) (Q_X12_readQuery_vx h) := by
            intro  c229 c230 c231 c232
            try clear c56
            try clear z100
            try clear k102
            try clear p105
            try clear zx103
            try clear p105_0
            try clear c106
            try clear p109
            try clear p109_0
            try clear p109_1
            try clear p109_2
            try clear p109_3
            try clear z110
            try clear p113
            try clear zx111
            try clear p113_0
            try clear p113_1
            try clear p116
            try clear zx114
            try clear p116_0
            try clear p116_1
            have zWN := c232
            have jn259_n238 : (y28 < h29.2.2 60 44 ∧ y28 ≤ x107 ∧ x107 ≤ h29.2.2 60 44) → (QW h y28 x107) → (bq h x107 = 1) → (NP h y28 y25) → To l E_X12_readQuery (259, [(0, .inr (.inr 60)), (1, .inl y25), (2, .inl y26), (3, .inl 1), (4, .inl y28), (5, .inl x107), (6, .inl x111), (7, .inl x114), (8, .inl y117)], [], h29, 0, 0) (Q_X12_readQuery_vx h) := by
              intro  c234 c235 c236 c237
              have jn273_n253 : ∀ (h239 : Hp), (Inv h239) → (Fr [89, 90, 91, 92, 93, 94, 95, 96, 245, 246, 247, 248] h h239) → (Val h239) → (LfOK h239) → (htq h239 ≤ h239.2.2 60 45) → (3 * h239.2.2 60 45 ≤ 2 * y28 + bq h y28) → (y28 < h239.2.2 60 44 ∧ y28 ≤ x107 ∧ x107 ≤ h239.2.2 60 44) → (QW h y28 x107) → (bq h x107 = 1) → (NP h y28 y25) → (htq h239 = binq h239) → (opnq h239 = y25) → (h239.2.2 60 46 + h239.2.2 60 47 ≤ 2 * y28 + 1) → (h239.2.2 60 47 ≤ y28 + y25 + 1) → (h239.2.2 60 48 = 0) → To l E_X12_readQuery (273, [(0, .inr (.inr 60)), (1, .inl y25), (2, .inl y26), (3, .inl 1), (4, .inl y28), (5, .inl x107), (6, .inl x111), (7, .inl x114), (8, .inl y117)], [], h239, 0, 0) (Q_X12_readQuery_vx h) := by
                intro h239 Ih239 fh239 c240 c241 c242 c243 c244 c245 c246 c247 c248 c249 c250 c251 c252
                obtain ⟨x254, ex254⟩ : ∃ y : Int, h239.2.2 60 45 = y := ⟨_, rfl⟩
                have rx254 := Ih239.atR (a := 60) (j := 45) rfl
                rw [ex254] at rx254
                have e255 : h239.2.2 60 44 = x2 := ((Fr.get fh239 (by have := hI.1.1; omega) rfl).trans ex2)
                obtain ⟨x256, ex256⟩ : ∃ y : Int, h239.2.2 60 46 = y := ⟨_, rfl⟩
                have rx256 := Ih239.atR (a := 60) (j := 46) rfl
                rw [ex256] at rx256
                obtain ⟨x257, ex257⟩ : ∃ y : Int, h239.2.2 60 47 = y := ⟨_, rfl⟩
                have rx257 := Ih239.atR (a := 60) (j := 47) rfl
                rw [ex257] at rx257
                obtain ⟨x258, ex258⟩ : ∃ y : Int, h239.2.2 60 48 = y := ⟨_, rfl⟩
                have rx258 := Ih239.atR (a := 60) (j := 48) rfl
                rw [ex258] at rx258
                refine to_iconst (dat dk_X12_readQuery 141 rfl) (to_istore_n (L' := [(0, .inr (.inr 60)), (1, .inl y25), (2, .inl 0), (3, .inl 1), (4, .inl y28), (5, .inl x107), (6, .inl x111), (7, .inl x114), (8, .inl y117)]) (dat dk_X12_readQuery 142 rfl) (by decide) rfl ?_)
                have z259 := bq_ge (h := h) (p := y28)
                refine to_aload_n (dat dk_X12_readQuery 143 rfl) rfl (to_getR 88 g_c13_100 (dat dk_X12_readQuery 144 rfl) (Ih239.atS rfl) (Ih239.atE rfl) (to_iload (dat dk_X12_readQuery 145 rfl) rfl ?_))
                obtain ⟨x260, ex260⟩ : ∃ y : Int, h239.2.2 88 (Int.toNat y28) = y := ⟨_, rfl⟩
                have rx260 := Ih239.atR (a := 88) (j := Int.toNat y28) rfl
                rw [ex260] at rx260
                refine to_baldv (q := 1) ex260 (dat dk_X12_readQuery 146 rfl) (by decide) (Ih239.atS rfl) rfl (by decide) (by omega) ?_
                have k261 : h.2.2 88 (Int.toNat y28) = x260 := (Fr.getF fh239 hI (by decide) rfl).symm.trans ex260
                refine to_bipush (dat dk_X12_readQuery 147 rfl) (by decide) ?_
                refine to_ine 301 (dat dk_X12_readQuery 148 rfl) rfl (by omega) (by decide) (fun c262 => ?_) (fun c262 => ?_)
                · skip
                  have z263 : h.2.2 88 (Int.toNat y28) ≠ 40 := by omega
                  refine to_aload_n (dat dk_X12_readQuery 155 rfl) rfl (to_getR 88 g_c13_100 (dat dk_X12_readQuery 156 rfl) (Ih239.atS rfl) (Ih239.atE rfl) (to_iload (dat dk_X12_readQuery 157 rfl) rfl (to_iload (dat dk_X12_readQuery 158 rfl) rfl (to_gst (C := "MailArchiveModel") (f9 := "WORD_NOT") (d9 := "[I") (List.mem_of_getElem? (i := 16) rfl) (tin 7 213 (by decide +kernel) rfl) (dat dk_X12_readQuery 159 rfl) ?_))))
                  refine to_cI ca_c13_449 (dat dk_X12_readQuery 160 rfl) (ct_X12_just_vx l h239 Ih239 88 1200 rfl y28 ry28 x107 rx107 1000215 3 (List.mem_of_getElem? (i := 14) rfl) (show 0 ≤ y28 ∧ y28 ≤ 640000 by omega) (show -1 ≤ x107 ∧ x107 ≤ (1200 : Int) by omega) (show y28 ≤ x107 by omega)) rfl trivial rfl (fun x264 h265 rx264 p266 => ?_)
                  obtain ⟨rfl, zx264, p266_0, p266_1⟩ := p266
                  have rzx264 := z_lin zx264
                  clear zx264
                  clear rx264
                  have rx264 := rzx264
                  clear rzx264
                  rw [show h239.2.2 88 = hr h from hr_fr fh239 hI rfl, zE, show icod 1000215 = wNOT by rw [icod_eq]; decide +kernel] at p266_1
                  have zN : x264 = bi (isW (hr h) (Int.toNat y28) (wE h y28) wNOT) := p266_1
                  refine to_ifeq 330 (dat dk_X12_readQuery 161 rfl) rfl (z_i32 rx264) (fun c267 => ?_) (fun c267 => ?_)
                  · skip
                    have z268 : x107 = h239.2.2 60 44 ∨ sp (h.2.2 88 (Int.toNat x107)) = 1 := by rw [show h239.2.2 60 44 = h.2.2 60 44 by omega]; exact bq_or c246
                    refine to_aload_n (dat dk_X12_readQuery 168 rfl) rfl (to_iload (dat dk_X12_readQuery 169 rfl) rfl (to_iload (dat dk_X12_readQuery 170 rfl) rfl ?_))
                    refine to_cI ca_c13_468 (dat dk_X12_readQuery 171 rfl) (ct_X12_one_vx l h239 Ih239 y28 ry28 x107 rx107 (show 0 ≤ y28 ∧ y28 < h239.2.2 60 44 by omega) (show y28 ≤ x107 ∧ x107 ≤ h239.2.2 60 44 by omega) c240 c241 (show htq h239 ≤ h239.2.2 60 45 by omega) (show h239.2.2 60 45 ≤ 809 by omega) (show h239.2.2 60 46 ≤ 2999 by omega) (by rw [show h239.2.2 88 = h.2.2 88 from fh239.arr hI (by decide) (fun _ => rfl)]; exact z268) (by rw [show h239.2.2 88 = h.2.2 88 from fh239.arr hI (by decide) (fun _ => rfl)]; exact c245.one z263)) rfl ⟨_, _, rfl, (Ih239.atS rfl)⟩ rfl (fun x269 h270 rx269 p271 => ?_)
                    obtain ⟨Ih270, fh270, p271_0, p271_1, p271_2, p271_3⟩ := p271
                    have f272 : Fr [89, 90, 91, 92, 93, 94, 95, 96, 245, 246, 247, 248] h h270 := Fr.sub fh239 fh270 rfl
                    have t273 : binq h270 = binq h239 := binq_fr fh270 Ih239 rfl
                    have t274 : opnq h270 = opnq h239 := opnq_fr fh270 Ih239 rfl
                    have e275 : h270.2.2 60 44 = x2 := ((Fr.get fh270 (by have := Ih239.1.1; omega) rfl).trans e255)
                    obtain ⟨x276, ex276⟩ : ∃ y : Int, h270.2.2 60 45 = y := ⟨_, rfl⟩
                    have rx276 := Ih270.atR (a := 60) (j := 45) rfl
                    rw [ex276] at rx276
                    obtain ⟨x277, ex277⟩ : ∃ y : Int, h270.2.2 60 46 = y := ⟨_, rfl⟩
                    have rx277 := Ih270.atR (a := 60) (j := 46) rfl
                    rw [ex277] at rx277
                    refine to_istore (L' := [(0, .inr (.inr 60)), (1, .inl y25), (2, .inl 0), (3, .inl 1), (4, .inl y28), (5, .inl x107), (6, .inl x111), (7, .inl x114), (8, .inl y117), (9, .inl x269)]) (dat dk_X12_readQuery 172 rfl) (by decide) rfl ?_
                    rw [hr_fr fh239 hI rfl, hn_fr fh239 hI rfl, zE] at p271_3
                    have zS : x269 = oneQ (hr h) (hn h) (Int.toNat y28) (wE h y28) := p271_3
                    refine to_iload (dat dk_X12_readQuery 173 rfl) rfl (to_iconst (dat dk_X12_readQuery 174 rfl) ?_)
                    refine to_ine 353 (dat dk_X12_readQuery 175 rfl) rfl rx269 (by decide) (fun c278 => ?_) (fun c278 => ?_)
                    · skip
                      replace p271_2 := p271_2.resolve_left (by omega)
                      obtain ⟨p271_2a, p271_2b, p271_2c, p271_2d, p271_2e, p271_2f⟩ := p271_2
                      rw [show h239.2.2 88 = h.2.2 88 from fh239.arr hI (by decide) (fun _ => rfl)] at p271_2f
                      have z279 := leaf_one (p := y28) (e := x107) p271_2a p271_2c p271_2f (by omega) c245 c246 z263
                      clear p271_2f
                      refine to_iconst (dat dk_X12_readQuery 180 rfl) (to_istore_n (L' := [(0, .inr (.inr 60)), (1, .inl y25), (2, .inl 1), (3, .inl 1), (4, .inl y28), (5, .inl x107), (6, .inl x111), (7, .inl x114), (8, .inl y117), (9, .inl x269)]) (dat dk_X12_readQuery 181 rfl) (by decide) rfl (to_iload (dat dk_X12_readQuery 182 rfl) rfl (to_istore (L' := [(0, .inr (.inr 60)), (1, .inl y25), (2, .inl 1), (3, .inl 1), (4, .inl x269), (5, .inl x107), (6, .inl x111), (7, .inl x114), (8, .inl y117), (9, .inl x269)]) (dat dk_X12_readQuery 183 rfl) (by decide) rfl (to_goto (dat dk_X12_readQuery 184 rfl) rfl ?_))))
                      refine to_pick [0, 1, 2, 3, 4] rfl ?_
                      have e280 : h270.2.2 60 47 = x257 := ((Fr.get fh270 (by have := Ih239.1.1; omega) rfl).trans ex257)
                      have e281 : h270.2.2 60 48 = x258 := ((Fr.get fh270 (by have := Ih239.1.1; omega) rfl).trans ex258)
                      exact ihn49 (n49 - 1) (by omega) y25 1 1 x269 h270 ry25 (by decide) (by decide) rx269 Ih270 f272 (show 0 ≤ y25 ∧ y25 ≤ 20 by omega) (show 0 ≤ x269 ∧ x269 ≤ h270.2.2 60 44 by omega) p271_0 p271_1 (show htq h270 ≤ h270.2.2 60 45 by omega) (show 3 * h270.2.2 60 45 ≤ 2 * x269 + bq h x269 by omega) (show htq h270 = binq h270 + (1 : Int) by omega) (show opnq h270 = y25 by omega) (show h270.2.2 60 46 + h270.2.2 60 47 ≤ 2 * x269 by omega) (show h270.2.2 60 47 ≤ x269 + y25 by omega) (show (1 : Int) ≤ (1 : Int) by omega) (show h270.2.2 60 47 ≤ 1300 * (1 : Int) by omega) (show h270.2.2 60 48 = 0 by omega) (show RQ h x269 y25 1 1 from RQ.tm zRQ zh.1 (by omega) zNB zWN (by omega) (bi_f (by omega)) zS (by omega)) (show h270.2.2 60 44 - x269 ≤ ((n49 - 1 : Nat) : Int) by omega)
                    · skip
                      refine to_aload_n (dat dk_X12_readQuery 176 rfl) rfl (to_iload (dat dk_X12_readQuery 177 rfl) rfl ?_)
                      refine to_cI ca_c13_456 (dat dk_X12_readQuery 178 rfl) (ct_X12_refuse_vx l h270 Ih270 y28 ry28 (show 0 ≤ y28 ∧ y28 ≤ 1200 by omega)) rfl ⟨_, _, rfl, (Ih270.atS rfl)⟩ rfl (fun x282 h283 rx282 p284 => ?_)
                      obtain ⟨Ih283, fh283, zx282, p284_0, p284_1⟩ := p284
                      have f285 : Fr [89, 90, 91, 92, 93, 94, 95, 96, 245, 246, 247, 248] h h283 := Fr.sub f272 fh283 rfl
                      have t286 : Val h283 := Val_fr fh283 Ih270 rfl p271_0
                      have t287 : LfOK h283 := LfOK_fr fh283 Ih270 rfl p271_1
                      have t288 : htq h283 = htq h270 := htq_fr fh283 Ih270 rfl
                      have t289 : binq h283 = binq h270 := binq_fr fh283 Ih270 rfl
                      have t290 : opnq h283 = opnq h270 := opnq_fr fh283 Ih270 rfl
                      have rzx282 := z_lin zx282
                      clear zx282
                      clear rx282
                      have rx282 := rzx282
                      clear rzx282
                      obtain ⟨x291, ex291⟩ : ∃ y : Int, h283.2.2 60 48 = y := ⟨_, rfl⟩
                      have rx291 := Ih283.atR (a := 60) (j := 48) rfl
                      rw [ex291] at rx291
                      have e292 : h283.2.2 60 44 = x2 := ((Fr.get fh283 (by have := Ih270.1.1; omega) rfl).trans e275)
                      exact to_zret rfl (dat dk_X12_readQuery 179 rfl) (by omega) (ri_mk (z_i32 rx282) ⟨Ih283, f285, (by omega), t286, t287, (by have z := RQ.ftm zRQ zh.1 (by omega) zNB zWN (by omega) (bi_f (by omega)) zS (by omega); omega)⟩)
                  · skip
                    replace c267 := z_one rx264 c267
                    refine to_aload_n (dat dk_X12_readQuery 162 rfl) rfl (to_iconst (dat dk_X12_readQuery 163 rfl) ?_)
                    refine to_cV ca_c13_462 (dat dk_X12_readQuery 164 rfl) (ct_X12_later_vb l h239 Ih239 1 (by decide) (show 0 ≤ (1 : Int) ∧ (1 : Int) ≤ 4 by omega) (show h239.2.2 60 47 ≤ 1299 by omega)) rfl ⟨_, _, rfl, (Ih239.atS rfl)⟩ rfl (fun h294 p295 => ?_)
                    obtain ⟨Ih294, fh294, p295_0, p295_1⟩ := p295
                    have f296 : Fr [89, 90, 91, 92, 93, 94, 95, 96, 245, 246, 247, 248] h h294 := Fr.sub fh239 fh294 rfl
                    have t297 : Val h294 := Val_fr fh294 Ih239 rfl c240
                    have t298 : LfOK h294 := LfOK_fr fh294 Ih239 rfl c241
                    have t299 : htq h294 = htq h239 := htq_fr fh294 Ih239 rfl
                    obtain ⟨x300, ex300⟩ : ∃ y : Int, h294.2.2 60 47 = y := ⟨_, rfl⟩
                    have rx300 := Ih294.atR (a := 60) (j := 47) rfl
                    rw [ex300] at rx300
                    have q301 := LaterP.sums p295_1 (Ih239.atR (a := 60) (j := 47) rfl).1
                    have q302 : bn 1 = 0 ∧ op4 1 = 0 := ⟨rfl, rfl⟩
                    have z303 := bq_ge (h := h) (p := x107)
                    refine to_iload (dat dk_X12_readQuery 165 rfl) rfl (to_istore (L' := [(0, .inr (.inr 60)), (1, .inl y25), (2, .inl 0), (3, .inl 1), (4, .inl x107), (5, .inl x107), (6, .inl x111), (7, .inl x114), (8, .inl y117)]) (dat dk_X12_readQuery 166 rfl) (by decide) rfl (to_goto (dat dk_X12_readQuery 167 rfl) rfl (to_goto (dat dk_X12_readQuery 184 rfl) rfl ?_)))
                    refine to_pick [0, 1, 2, 3, 4] rfl ?_
                    have e304 : h294.2.2 60 44 = x2 := ((Fr.get fh294 (by have := Ih239.1.1; omega) rfl).trans e255)
                    have e305 : h294.2.2 60 45 = x254 := ((Fr.get fh294 (by have := Ih239.1.1; omega) rfl).trans ex254)
                    have e306 : h294.2.2 60 46 = x256 := ((Fr.get fh294 (by have := Ih239.1.1; omega) rfl).trans ex256)
                    have e307 : h294.2.2 60 48 = x258 := ((Fr.get fh294 (by have := Ih239.1.1; omega) rfl).trans ex258)
                    exact ihn49 (n49 - 1) (by omega) y25 0 1 x107 h294 ry25 (by decide) (by decide) rx107 Ih294 f296 (show 0 ≤ y25 ∧ y25 ≤ 20 by omega) (show 0 ≤ x107 ∧ x107 ≤ h294.2.2 60 44 by omega) t297 t298 (show htq h294 ≤ h294.2.2 60 45 by omega) (show 3 * h294.2.2 60 45 ≤ 2 * x107 + bq h x107 by omega) (show htq h294 = binq h294 + (0 : Int) by omega) (show opnq h294 = y25 by omega) (show h294.2.2 60 46 + h294.2.2 60 47 ≤ 2 * x107 by omega) (show h294.2.2 60 47 ≤ x107 + y25 by omega) (show (0 : Int) ≤ (1 : Int) by omega) (show h294.2.2 60 47 ≤ 1300 * (1 : Int) by omega) (show h294.2.2 60 48 = 0 by omega) (by rw [zW]; exact RQ.nt zRQ zh.1 (by omega) (bi_t (by omega))) (show h294.2.2 60 44 - x107 ≤ ((n49 - 1 : Nat) : Int) by omega)
                · skip
                  have z308 := c247.resolve_left (fun k => k (by omega))
                  refine to_aload_n (dat dk_X12_readQuery 149 rfl) rfl (to_iconst (dat dk_X12_readQuery 150 rfl) ?_)
                  refine to_cV ca_c13_462 (dat dk_X12_readQuery 151 rfl) (ct_X12_later_vb l h239 Ih239 4 (by decide) (show 0 ≤ (4 : Int) ∧ (4 : Int) ≤ 4 by omega) (show h239.2.2 60 47 ≤ 1299 by omega)) rfl ⟨_, _, rfl, (Ih239.atS rfl)⟩ rfl (fun h310 p311 => ?_)
                  obtain ⟨Ih310, fh310, p311_0, p311_1⟩ := p311
                  have f312 : Fr [89, 90, 91, 92, 93, 94, 95, 96, 245, 246, 247, 248] h h310 := Fr.sub fh239 fh310 rfl
                  have t313 : Val h310 := Val_fr fh310 Ih239 rfl c240
                  have t314 : LfOK h310 := LfOK_fr fh310 Ih239 rfl c241
                  have t315 : htq h310 = htq h239 := htq_fr fh310 Ih239 rfl
                  obtain ⟨x316, ex316⟩ : ∃ y : Int, h310.2.2 60 47 = y := ⟨_, rfl⟩
                  have rx316 := Ih310.atR (a := 60) (j := 47) rfl
                  rw [ex316] at rx316
                  have q317 := LaterP.sums p311_1 (Ih239.atR (a := 60) (j := 47) rfl).1
                  have q318 : bn 4 = 0 ∧ op4 4 = 1 := ⟨rfl, rfl⟩
                  have z319 := bq_ge (h := h) (p := (y28 + 1))
                  refine to_iinc (L' := [(0, .inr (.inr 60)), (1, .inl (y25 + 1)), (2, .inl 0), (3, .inl 1), (4, .inl y28), (5, .inl x107), (6, .inl x111), (7, .inl x114), (8, .inl y117)]) (dat dk_X12_readQuery 152 rfl) rfl (by decide) rfl (to_iinc (L' := [(0, .inr (.inr 60)), (1, .inl (y25 + 1)), (2, .inl 0), (3, .inl 1), (4, .inl (y28 + 1)), (5, .inl x107), (6, .inl x111), (7, .inl x114), (8, .inl y117)]) (dat dk_X12_readQuery 153 rfl) rfl (by decide) rfl (to_goto (dat dk_X12_readQuery 154 rfl) rfl (to_goto (dat dk_X12_readQuery 184 rfl) rfl ?_)))
                  refine to_pick [0, 1, 2, 3, 4] rfl ?_
                  have e320 : h310.2.2 60 44 = x2 := ((Fr.get fh310 (by have := Ih239.1.1; omega) rfl).trans e255)
                  have e321 : h310.2.2 60 45 = x254 := ((Fr.get fh310 (by have := Ih239.1.1; omega) rfl).trans ex254)
                  have e322 : h310.2.2 60 46 = x256 := ((Fr.get fh310 (by have := Ih239.1.1; omega) rfl).trans ex256)
                  have e323 : h310.2.2 60 48 = x258 := ((Fr.get fh310 (by have := Ih239.1.1; omega) rfl).trans ex258)
                  exact ihn49 (n49 - 1) (by omega) (y25 + 1) 0 1 (y28 + 1) h310 (by omega) (by decide) (by decide) (by omega) Ih310 f312 (show 0 ≤ (y25 + 1) ∧ (y25 + 1) ≤ 20 by omega) (show 0 ≤ (y28 + 1) ∧ (y28 + 1) ≤ h310.2.2 60 44 by omega) t313 t314 (show htq h310 ≤ h310.2.2 60 45 by omega) (show 3 * h310.2.2 60 45 ≤ 2 * (y28 + 1) + bq h (y28 + 1) by omega) (show htq h310 = binq h310 + (0 : Int) by omega) (show opnq h310 = (y25 + 1) by omega) (show h310.2.2 60 46 + h310.2.2 60 47 ≤ 2 * (y28 + 1) by omega) (show h310.2.2 60 47 ≤ (y28 + 1) + (y25 + 1) by omega) (show (0 : Int) ≤ (1 : Int) by omega) (show h310.2.2 60 47 ≤ 1300 * (1 : Int) by omega) (show h310.2.2 60 48 = 0 by omega) (show RQ h (y28 + 1) (y25 + 1) 0 1 from RQ.op zRQ zh.1 (by omega) (by omega) (by omega)) (show h310.2.2 60 44 - (y28 + 1) ≤ ((n49 - 1 : Nat) : Int) by omega)
              refine to_iload_n (dat dk_X12_readQuery 133 rfl) rfl ?_
              refine to_ifeq 273 (dat dk_X12_readQuery 134 rfl) rfl (z_i32 ry26) (fun c324 => ?_) (fun c324 => ?_)
              · skip
                exact jn273_n253 h29 Ih29 fh29 c33 c34 (show htq h29 ≤ h29.2.2 60 45 by omega) (show 3 * h29.2.2 60 45 ≤ 2 * y28 + bq h y28 by omega) (show y28 < h29.2.2 60 44 ∧ y28 ≤ x107 ∧ x107 ≤ h29.2.2 60 44 by omega) c235 c236 c237 (show htq h29 = binq h29 by omega) (show opnq h29 = y25 by omega) (show h29.2.2 60 46 + h29.2.2 60 47 ≤ 2 * y28 + 1 by omega) (show h29.2.2 60 47 ≤ y28 + y25 + 1 by omega) (show h29.2.2 60 48 = 0 by omega)
              · skip
                replace c324 := z_one ry26 c324
                refine to_aload_n (dat dk_X12_readQuery 135 rfl) rfl (to_iconst (dat dk_X12_readQuery 136 rfl) ?_)
                refine to_cV ca_c13_459 (dat dk_X12_readQuery 137 rfl) (ct_X12_unwind_vb l h29 Ih29 2 (by decide) (show h29.2.2 60 46 + h29.2.2 60 47 ≤ 3000 by omega) c33 (show htq h29 - binq h29 = 1 ∨ h29.2.2 60 47 = 0 by omega)) rfl ⟨_, _, rfl, (Ih29.atS rfl)⟩ rfl (fun h326 p327 => ?_)
                obtain ⟨Ih326, fh326, p327_0, p327_1, p327_2, p327_3, p327_4, p327_5, p327_6⟩ := p327
                have f328 : Fr [89, 90, 91, 92, 93, 94, 95, 96, 245, 246, 247, 248] h h326 := Fr.sub fh29 fh326 rfl
                have t329 : LfOK h326 := LfOK_fr fh326 Ih29 rfl c34
                obtain ⟨x330, ex330⟩ : ∃ y : Int, h326.2.2 60 46 = y := ⟨_, rfl⟩
                have rx330 := Ih326.atR (a := 60) (j := 46) rfl
                rw [ex330] at rx330
                obtain ⟨x331, ex331⟩ : ∃ y : Int, h326.2.2 60 47 = y := ⟨_, rfl⟩
                have rx331 := Ih326.atR (a := 60) (j := 47) rfl
                rw [ex331] at rx331
                refine to_aload_n (dat dk_X12_readQuery 138 rfl) rfl (to_iconst (dat dk_X12_readQuery 139 rfl) ?_)
                refine to_cV ca_c13_462 (dat dk_X12_readQuery 140 rfl) (ct_X12_later_vb l h326 Ih326 2 (by decide) (show 0 ≤ (2 : Int) ∧ (2 : Int) ≤ 4 by omega) (show h326.2.2 60 47 ≤ 1299 by omega)) rfl ⟨_, _, rfl, (Ih326.atS rfl)⟩ rfl (fun h333 p334 => ?_)
                obtain ⟨Ih333, fh333, p334_0, p334_1⟩ := p334
                have f335 : Fr [89, 90, 91, 92, 93, 94, 95, 96, 245, 246, 247, 248] h h333 := Fr.sub f328 fh333 rfl
                have t336 : Val h333 := Val_fr fh333 Ih326 rfl p327_0
                have t337 : LfOK h333 := LfOK_fr fh333 Ih326 rfl t329
                have t338 : htq h333 = htq h326 := htq_fr fh333 Ih326 rfl
                obtain ⟨x339, ex339⟩ : ∃ y : Int, h333.2.2 60 47 = y := ⟨_, rfl⟩
                have rx339 := Ih333.atR (a := 60) (j := 47) rfl
                rw [ex339] at rx339
                have q340 := LaterP.sums p334_1 (Ih326.atR (a := 60) (j := 47) rfl).1
                have q341 : bn 2 = 1 ∧ op4 2 = 0 := ⟨rfl, rfl⟩
                have e342 : h333.2.2 60 45 = x52 := ((Fr.get fh333 (by have := Ih326.1.1; omega) rfl).trans ((Fr.get fh326 (by have := Ih29.1.1; omega) rfl).trans ex52))
                have e343 : h333.2.2 60 44 = x2 := ((Fr.get fh333 (by have := Ih326.1.1; omega) rfl).trans ((Fr.get fh326 (by have := Ih29.1.1; omega) rfl).trans e51))
                have e344 : h333.2.2 60 46 = x330 := ((Fr.get fh333 (by have := Ih326.1.1; omega) rfl).trans ex330)
                have e345 : h333.2.2 60 48 = x55 := ((Fr.get fh333 (by have := Ih326.1.1; omega) rfl).trans ((Fr.get fh326 (by have := Ih29.1.1; omega) rfl).trans ex55))
                exact jn273_n253 h333 Ih333 f335 t336 t337 (show htq h333 ≤ h333.2.2 60 45 by omega) (show 3 * h333.2.2 60 45 ≤ 2 * y28 + bq h y28 by omega) (show y28 < h333.2.2 60 44 ∧ y28 ≤ x107 ∧ x107 ≤ h333.2.2 60 44 by omega) c235 c236 c237 (show htq h333 = binq h333 by omega) (show opnq h333 = y25 by omega) (show h333.2.2 60 46 + h333.2.2 60 47 ≤ 2 * y28 + 1 by omega) (show h333.2.2 60 47 ≤ y28 + y25 + 1 by omega) (show h333.2.2 60 48 = 0 by omega)
            refine to_aload_n (dat dk_X12_readQuery 120 rfl) rfl (to_getR 88 g_c13_100 (dat dk_X12_readQuery 121 rfl) (Ih29.atS rfl) (Ih29.atE rfl) (to_iload (dat dk_X12_readQuery 122 rfl) rfl ?_))
            obtain ⟨x346, ex346⟩ : ∃ y : Int, h29.2.2 88 (Int.toNat y28) = y := ⟨_, rfl⟩
            have rx346 := Ih29.atR (a := 88) (j := Int.toNat y28) rfl
            rw [ex346] at rx346
            refine to_baldv (q := 1) ex346 (dat dk_X12_readQuery 123 rfl) (by decide) (Ih29.atS rfl) rfl (by decide) (by omega) ?_
            have k347 : h.2.2 88 (Int.toNat y28) = x346 := (Fr.getF fh29 hI (by decide) rfl).symm.trans ex346
            refine to_bipush (dat dk_X12_readQuery 124 rfl) (by decide) ?_
            refine to_ine 259 (dat dk_X12_readQuery 125 rfl) rfl (by omega) (by decide) (fun c348 => ?_) (fun c348 => ?_)
            · skip
              exact jn259_n238  (show y28 < h29.2.2 60 44 ∧ y28 ≤ x107 ∧ x107 ≤ h29.2.2 60 44 by omega) c230 c231 (show NP h y28 y25 by unfold NP; omega)
            · skip
              refine to_iload_n (dat dk_X12_readQuery 126 rfl) rfl (to_bipush (dat dk_X12_readQuery 127 rfl) (by decide) ?_)
              refine to_ine 259 (dat dk_X12_readQuery 128 rfl) rfl ry25 (by decide) (fun c349 => ?_) (fun c349 => ?_)
              · skip
                exact jn259_n238  (show y28 < h29.2.2 60 44 ∧ y28 ≤ x107 ∧ x107 ≤ h29.2.2 60 44 by omega) c230 c231 (show NP h y28 y25 by unfold NP; omega)
              · skip
                refine to_aload_n (dat dk_X12_readQuery 129 rfl) rfl (to_iload (dat dk_X12_readQuery 130 rfl) rfl ?_)
                refine to_cI ca_c13_456 (dat dk_X12_readQuery 131 rfl) (ct_X12_refuse_vx l h29 Ih29 y28 ry28 (show 0 ≤ y28 ∧ y28 ≤ 1200 by omega)) rfl ⟨_, _, rfl, (Ih29.atS rfl)⟩ rfl (fun x350 h351 rx350 p352 => ?_)
                obtain ⟨Ih351, fh351, zx350, p352_0, p352_1⟩ := p352
                have f353 : Fr [89, 90, 91, 92, 93, 94, 95, 96, 245, 246, 247, 248] h h351 := Fr.sub fh29 fh351 rfl
                have t354 : Val h351 := Val_fr fh351 Ih29 rfl c33
                have t355 : LfOK h351 := LfOK_fr fh351 Ih29 rfl c34
                have t356 : htq h351 = htq h29 := htq_fr fh351 Ih29 rfl
                have t357 : binq h351 = binq h29 := binq_fr fh351 Ih29 rfl
                have t358 : opnq h351 = opnq h29 := opnq_fr fh351 Ih29 rfl
                have rzx350 := z_lin zx350
                clear zx350
                clear rx350
                have rx350 := rzx350
                clear rzx350
                obtain ⟨x359, ex359⟩ : ∃ y : Int, h351.2.2 60 48 = y := ⟨_, rfl⟩
                have rx359 := Ih351.atR (a := 60) (j := 48) rfl
                rw [ex359] at rx359
                have e360 : h351.2.2 60 44 = x2 := ((Fr.get fh351 (by have := Ih29.1.1; omega) rfl).trans e51)
                exact to_zret rfl (dat dk_X12_readQuery 132 rfl) (by omega) (ri_mk (z_i32 rx350) ⟨Ih351, f353, (by omega), t354, t355, (by have z := RQ.fop zRQ zh.1 (by omega) (by omega) (by omega); omega)⟩)
          refine to_iload (dat dk_X12_readQuery 62 rfl) rfl ?_
          refine to_ifne 133 (dat dk_X12_readQuery 63 rfl) rfl (z_i32 rx111) (fun c361 => ?_) (fun c361 => ?_)
          · skip
            replace c361 := z_one rx111 c361
            exact jn133_n125  (show y28 < h29.2.2 60 44 ∧ y28 ≤ x107 ∧ x107 ≤ h29.2.2 60 44 by omega) (show y28 + 2 ≤ x107 + 2 * y117 by omega) (show x111 + y117 ≤ 1 by omega) (show x114 + y117 ≤ 1 by omega) (WC.mk zO zA c118 (by omega))
          · skip
            refine to_iload (dat dk_X12_readQuery 64 rfl) rfl ?_
            refine to_ifne 133 (dat dk_X12_readQuery 65 rfl) rfl (z_i32 rx114) (fun c362 => ?_) (fun c362 => ?_)
            · skip
              replace c362 := z_one rx114 c362
              exact jn133_n125  (show y28 < h29.2.2 60 44 ∧ y28 ≤ x107 ∧ x107 ≤ h29.2.2 60 44 by omega) (show y28 + 2 ≤ x107 + 2 * y117 by omega) (show x111 + y117 ≤ 1 by omega) (show x114 + y117 ≤ 1 by omega) (WC.mk zO zA c118 (by omega))
            · skip
              refine to_iload (dat dk_X12_readQuery 66 rfl) rfl ?_
              refine to_ifeq 234 (dat dk_X12_readQuery 67 rfl) rfl (z_i32 ry117) (fun c363 => ?_) (fun c363 => ?_)
              · skip
                exact jn234_n233  (show y28 < h29.2.2 60 44 ∧ y28 ≤ x107 ∧ x107 ≤ h29.2.2 60 44 by omega) (QW.mk (by omega) p109_1 (by omega)) (bq_end p109_2) (WN.mk zO zA c118 (by omega))
              · skip
                replace c363 := z_one ry117 c363
                exact jn133_n125  (show y28 < h29.2.2 60 44 ∧ y28 ≤ x107 ∧ x107 ≤ h29.2.2 60 44 by omega) (show y28 + 2 ≤ x107 + 2 * y117 by omega) (show x111 + y117 ≤ 1 by omega) (show x114 + y117 ≤ 1 by omega) (WC.mk zO zA c118 (by omega))
        refine to_aload_n (dat dk_X12_readQuery 52 rfl) rfl (to_getR 88 g_c13_100 (dat dk_X12_readQuery 53 rfl) (Ih29.atS rfl) (Ih29.atE rfl) (to_iload (dat dk_X12_readQuery 54 rfl) rfl ?_))
        obtain ⟨x364, ex364⟩ : ∃ y : Int, h29.2.2 88 (Int.toNat y28) = y := ⟨_, rfl⟩
        have rx364 := Ih29.atR (a := 88) (j := Int.toNat y28) rfl
        rw [ex364] at rx364
        refine to_baldv (q := 1) ex364 (dat dk_X12_readQuery 55 rfl) (by decide) (Ih29.atS rfl) rfl (by decide) (by omega) ?_
        have k365 : h.2.2 88 (Int.toNat y28) = x364 := (Fr.getF fh29 hI (by decide) rfl).symm.trans ex364
        refine to_bipush (dat dk_X12_readQuery 56 rfl) (by decide) ?_
        refine to_ine 115 (dat dk_X12_readQuery 57 rfl) rfl (by omega) (by decide) (fun c366 => ?_) (fun c366 => ?_)
        · skip
          refine to_iconst (dat dk_X12_readQuery 60 rfl) ?_
          exact jn116_n119 0 (by decide) (show ((0 : Int) = 1 ∧ h.2.2 88 (Int.toNat y28) = 41) ∨ ((0 : Int) = 0 ∧ h.2.2 88 (Int.toNat y28) ≠ 41) by omega)
        · skip
          refine to_iconst (dat dk_X12_readQuery 58 rfl) (to_goto (dat dk_X12_readQuery 59 rfl) rfl ?_)
          exact jn116_n119 1 (by decide) (show ((1 : Int) = 1 ∧ h.2.2 88 (Int.toNat y28) = 41) ∨ ((1 : Int) = 0 ∧ h.2.2 88 (Int.toNat y28) ≠ 41) by omega)
      · skip
        replace c106 := z_one rx103 c106
        have z367 := bq_ge (h := h) (p := (y28 + 1))
        refine to_iinc (L' := [(0, .inr (.inr 60)), (1, .inl y25), (2, .inl y26), (3, .inl y27), (4, .inl (y28 + 1))]) (dat dk_X12_readQuery 30 rfl) rfl (by decide) rfl (to_goto (dat dk_X12_readQuery 31 rfl) rfl ?_)
        exact ihn49 (n49 - 1) (by omega) y25 y26 y27 (y28 + 1) h29 ry25 (by omega) (by omega) (by omega) Ih29 fh29 (show 0 ≤ y25 ∧ y25 ≤ 20 by omega) (show 0 ≤ (y28 + 1) ∧ (y28 + 1) ≤ h29.2.2 60 44 by omega) c33 c34 (show htq h29 ≤ h29.2.2 60 45 by omega) (show 3 * h29.2.2 60 45 ≤ 2 * (y28 + 1) + bq h (y28 + 1) by omega) (show htq h29 = binq h29 + y26 by omega) (show opnq h29 = y25 by omega) (show h29.2.2 60 46 + h29.2.2 60 47 ≤ 2 * (y28 + 1) by omega) (show h29.2.2 60 47 ≤ (y28 + 1) + y25 by omega) (show y26 ≤ y27 by omega) (show h29.2.2 60 47 ≤ 1300 * y27 by omega) (show h29.2.2 60 48 = 0 by omega) (RQ.bl zRQ zh.1 (by omega) (by omega)) (show h29.2.2 60 44 - (y28 + 1) ≤ ((n49 - 1 : Nat) : Int) by omega)
  exact lp29_n49 (h17.2.2 60 44 - (0 : Int)).toNat 0 0 0 0 h17 (by decide) (by decide) (by decide) (by decide) I15 f16 (show 0 ≤ (0 : Int) ∧ (0 : Int) ≤ 20 by omega) (show 0 ≤ (0 : Int) ∧ (0 : Int) ≤ h17.2.2 60 44 by omega) z19 z20 (show htq h17 ≤ h17.2.2 60 45 by omega) (show 3 * h17.2.2 60 45 ≤ 2 * (0 : Int) + bq h (0 : Int) by omega) (show htq h17 = binq h17 + (0 : Int) by omega) (show opnq h17 = (0 : Int) by omega) (show h17.2.2 60 46 + h17.2.2 60 47 ≤ 2 * (0 : Int) by omega) (show h17.2.2 60 47 ≤ (0 : Int) + (0 : Int) by omega) (show (0 : Int) ≤ (0 : Int) by omega) (show h17.2.2 60 47 ≤ 1300 * (0 : Int) by omega) (show h17.2.2 60 48 = 0 by omega) RQ.s (by omega)
abbrev Q_X12_search_vx (h : Hp) : Option V → Hp → Nat → Nat → Prop := RI (fun x H => Inv H ∧ Fr [69, 70, 71, 72, 73, 74, 75, 76, 77, 78, 79, 80, 81, 82, 83, 84, 85, 86, 87, 212, 216, 218, 219, 223, 225, 226, 228, 229, 233, 236, 237, 88, 244, 200, 203, 89, 90, 91, 92, 93, 94, 95, 96, 245, 246, 247, 248, 97, 98, 99, 260, 262, 100, 102] h H ∧ (Cch H) ∧ (H.2.2 60 3 = 0) ∧ (H.2.2 60 48 = pqS (h.2.2 62) (Int.toNat (h.2.2 60 3)) + 1))
set_option maxRecDepth 100000 in
theorem ct_X12_search_vx (l : Launch) (h : Hp) (hI : Inv h) (g0 : Cch h) (g1 : h.2.2 60 4 ≤ 64) : Ct l D_X12_search 9 217 [.inr (.inr 60)] h (Q_X12_search_vx h) := by
  refine ct_of pn_X12_search (Nat.le_of_ble_eq_true rfl) ?_
  show To l E_X12_search (0, [(0, .inr (.inr 60))], [], h, 0, 0) _
  obtain ⟨x1, ex1⟩ : ∃ y : Int, h.2.2 60 3 = y := ⟨_, rfl⟩
  have rx1 := hI.atR (a := 60) (j := 3) rfl
  rw [ex1] at rx1
  obtain ⟨x2, ex2⟩ : ∃ y : Int, h.2.2 60 48 = y := ⟨_, rfl⟩
  have rx2 := hI.atR (a := 60) (j := 48) rfl
  rw [ex2] at rx2
  obtain ⟨x3, ex3⟩ : ∃ y : Int, h.2.2 60 4 = y := ⟨_, rfl⟩
  have rx3 := hI.atR (a := 60) (j := 4) rfl
  rw [ex3] at rx3
  obtain ⟨x4, ex4⟩ : ∃ y : Int, h.2.2 60 44 = y := ⟨_, rfl⟩
  have rx4 := hI.atR (a := 60) (j := 44) rfl
  rw [ex4] at rx4
  obtain ⟨x5, ex5⟩ : ∃ y : Int, h.2.2 60 62 = y := ⟨_, rfl⟩
  have rx5 := hI.atR (a := 60) (j := 62) rfl
  rw [ex5] at rx5
  refine to_aload_n (dat dk_X12_search 0 rfl) rfl (to_aload_n (dat dk_X12_search 1 rfl) rfl ?_)
  refine to_cI ca_c13_502 (dat dk_X12_search 2 rfl) (ct_X12_take l h hI ) rfl ⟨_, _, rfl, (hI.atS rfl)⟩ rfl (fun x6 h7 rx6 p8 => ?_)
  obtain ⟨Ih7, fh7, p8_0, p8_1⟩ := p8
  have f9 : Fr [69, 70, 71, 72, 73, 74, 75, 76, 77, 78, 79, 80, 81, 82, 83, 84, 85, 86, 87, 212, 216, 218, 219, 223, 225, 226, 228, 229, 233, 236, 237, 88, 244, 200, 203, 89, 90, 91, 92, 93, 94, 95, 96, 245, 246, 247, 248, 97, 98, 99, 260, 262, 100, 102] h h7 := Fr.sub (Fr.rf _ _) fh7 rfl
  have t10 : Cch h7 := Cch_fr fh7 hI rfl g0
  obtain ⟨x11, ex11⟩ : ∃ y : Int, h7.2.2 60 3 = y := ⟨_, rfl⟩
  have rx11 := Ih7.atR (a := 60) (j := 3) rfl
  rw [ex11] at rx11
  refine to_putIw p_c13_412 (dat dk_X12_search 3 rfl) (Ih7.atS rfl) ?_
  intro h14 wh14
  have I12 : Inv h14 := by rw [wh14]; exact Ih7.put (a := 60) (j := 44) (x := x6) (0) (1200) rfl rfl (show (0 : Int) ≤ x6 ∧ x6 ≤ 1200 by omega)
  have f13 : Fr [69, 70, 71, 72, 73, 74, 75, 76, 77, 78, 79, 80, 81, 82, 83, 84, 85, 86, 87, 212, 216, 218, 219, 223, 225, 226, 228, 229, 233, 236, 237, 88, 244, 200, 203, 89, 90, 91, 92, 93, 94, 95, 96, 245, 246, 247, 248, 97, 98, 99, 260, 262, 100, 102] h h14 := by rw [wh14]; exact Fr.putF (a := 60) (j := 44) (x := x6) f9 rfl
  have t15 : Cch h14 := by rw [wh14]; exact Cch_wr rfl t10
  refine to_iconst (dat dk_X12_search 4 rfl) (to_istore_n (L' := [(0, .inr (.inr 60)), (1, .inl 0)]) (dat dk_X12_search 5 rfl) (by decide) rfl ?_)
  have e20 : h14.2.2 60 3 = x11 := (by rw [wh14]; exact ex11)
  have e23 : h14.2.2 60 44 = x6 := (by rw [wh14]; exact wr_eq)
  have lp10_n25 : ∀ (n25 : Nat) (y16 : Int) (h17 : Hp), (I32 y16) → (Inv h17) → (Fr [69, 70, 71, 72, 73, 74, 75, 76, 77, 78, 79, 80, 81, 82, 83, 84, 85, 86, 87, 212, 216, 218, 219, 223, 225, 226, 228, 229, 233, 236, 237, 88, 244, 200, 203, 89, 90, 91, 92, 93, 94, 95, 96, 245, 246, 247, 248, 97, 98, 99, 260, 262, 100, 102] h h17) → (0 ≤ y16) → (Cch h17) → (h17.2.2 60 3 = 0) → (∀ j : Nat, (j : Int) < y16 → h17.2.2 88 j = h.2.2 62 j) → (h17.2.2 60 44 = h.2.2 60 3) → (h17.2.2 60 44 - y16 ≤ (n25 : Int)) → To l E_X12_search (10, [(0, .inr (.inr 60)), (1, .inl y16)], [], h17, 0, 0) (Q_X12_search_vx h) := by
    intro n25
    induction n25 using Nat.strongRecOn with
    | _ n25 ihn25 =>
    intro y16 h17 ry16 Ih17 fh17 c18 c19 c21 c22 c24 c26
    obtain ⟨x27, ex27⟩ : ∃ y : Int, h17.2.2 60 3 = y := ⟨_, rfl⟩
    have rx27 := Ih17.atR (a := 60) (j := 3) rfl
    rw [ex27] at rx27
    obtain ⟨x28, ex28⟩ : ∃ y : Int, h17.2.2 60 44 = y := ⟨_, rfl⟩
    have rx28 := Ih17.atR (a := 60) (j := 44) rfl
    rw [ex28] at rx28
    refine to_iload_n (dat dk_X12_search 6 rfl) rfl (to_aload_n (dat dk_X12_search 7 rfl) rfl (to_getIv (y := x28) ex28 g_c13_412 (dat dk_X12_search 8 rfl) (Ih17.atS rfl) ?_))
    refine to_ige 36 (dat dk_X12_search 9 rfl) rfl ry16 (by omega) (fun c29 => ?_) (fun c29 => ?_)
    · skip
      have zh2 := hn_is Ih17
      have zr := RF_row (h := h17) (r := h.2.2 62) (t := h.2.2 60 3) zh2.1 (by omega) (fun j hj => c22 j (by omega))
      refine to_aload_n (dat dk_X12_search 20 rfl) rfl ?_
      have jn49_n37 : ∀ (y30 : Int) (h31 : Hp), (y30 = 0 ∨ y30 = 1) → (Inv h31) → (Fr [69, 70, 71, 72, 73, 74, 75, 76, 77, 78, 79, 80, 81, 82, 83, 84, 85, 86, 87, 212, 216, 218, 219, 223, 225, 226, 228, 229, 233, 236, 237, 88, 244, 200, 203, 89, 90, 91, 92, 93, 94, 95, 96, 245, 246, 247, 248, 97, 98, 99, 260, 262, 100, 102] h h31) → (Cch h31) → (h31.2.2 60 3 = 0) → (Val h31) → (LfOK h31) → (h31.2.2 60 48 = pqS (h.2.2 62) (Int.toNat (h.2.2 60 3)) + 1) → To l E_X12_search (49, [(0, .inr (.inr 60)), (1, .inl y16)], [.inl y30, .inr (.inr 60)], h31, 0, 0) (Q_X12_search_vx h) := by
        intro y30 h31 ry30 Ih31 fh31 c32 c33 c34 c35 c36
        replace ry30 := z_lin ry30
        obtain ⟨x38, ex38⟩ : ∃ y : Int, h31.2.2 60 3 = y := ⟨_, rfl⟩
        have rx38 := Ih31.atR (a := 60) (j := 3) rfl
        rw [ex38] at rx38
        obtain ⟨x39, ex39⟩ : ∃ y : Int, h31.2.2 60 48 = y := ⟨_, rfl⟩
        have rx39 := Ih31.atR (a := 60) (j := 48) rfl
        rw [ex39] at rx39
        refine to_putIw p_c13_154 (dat dk_X12_search 27 rfl) (Ih31.atS rfl) ?_
        intro h42 wh42
        have I40 : Inv h42 := by rw [wh42]; exact Ih31.put (a := 60) (j := 0) (x := y30) (0) (3) rfl rfl (show (0 : Int) ≤ y30 ∧ y30 ≤ 3 by omega)
        have f41 : Fr [69, 70, 71, 72, 73, 74, 75, 76, 77, 78, 79, 80, 81, 82, 83, 84, 85, 86, 87, 212, 216, 218, 219, 223, 225, 226, 228, 229, 233, 236, 237, 88, 244, 200, 203, 89, 90, 91, 92, 93, 94, 95, 96, 245, 246, 247, 248, 97, 98, 99, 260, 262, 100, 102] h h42 := by rw [wh42]; exact Fr.putF (a := 60) (j := 0) (x := y30) fh31 rfl
        have t43 : Cch h42 := by rw [wh42]; exact Cch_wr rfl c32
        have t44 : Val h42 := by rw [wh42]; exact Val_wr rfl c34
        have t45 : LfOK h42 := by rw [wh42]; exact LfOK_wr rfl c35
        refine to_aload_n (dat dk_X12_search 28 rfl) rfl (to_getIv (y := y30) (by rw [wh42]; exact wr_eq) g_c13_154 (dat dk_X12_search 29 rfl) (I40.atS rfl) ?_)
        refine to_ifle 61 (dat dk_X12_search 30 rfl) rfl (z_i32 ry30) (fun c46 => ?_) (fun c46 => ?_)
        · skip
          refine to_aload_n (dat dk_X12_search 33 rfl) rfl ?_
          have e47 : h42.2.2 60 4 = x3 := (by rw [wh42]; exact (show h31.2.2 60 4 = x3 from ((Fr.get fh31 (by have := hI.1.1; omega) rfl).trans ex3)))
          refine to_cV ca_c13_518 (dat dk_X12_search 34 rfl) (ct_X12_link l h42 I40 t43 (show h42.2.2 60 4 ≤ 64 by omega)) rfl ⟨_, _, rfl, (I40.atS rfl)⟩ rfl (fun h49 p50 => ?_)
          obtain ⟨Ih49, fh49, p50_0, p50_1⟩ := p50
          have f51 : Fr [69, 70, 71, 72, 73, 74, 75, 76, 77, 78, 79, 80, 81, 82, 83, 84, 85, 86, 87, 212, 216, 218, 219, 223, 225, 226, 228, 229, 233, 236, 237, 88, 244, 200, 203, 89, 90, 91, 92, 93, 94, 95, 96, 245, 246, 247, 248, 97, 98, 99, 260, 262, 100, 102] h h49 := Fr.sub f41 fh49 rfl
          have t52 : Val h49 := Val_fr fh49 I40 rfl t44
          have t53 : LfOK h49 := LfOK_fr fh49 I40 rfl t45
          refine to_aload_n (dat dk_X12_search 35 rfl) rfl (to_iconst (dat dk_X12_search 36 rfl) (to_putIw p_c13_521 (dat dk_X12_search 37 rfl) (Ih49.atS rfl) ?_))
          intro h56 wh56
          have I54 : Inv h56 := by rw [wh56]; exact Ih49.put (a := 60) (j := 62) (x := 0) (0) (200) rfl rfl (show (0 : Int) ≤ 0 ∧ 0 ≤ 200 by decide)
          have f55 : Fr [69, 70, 71, 72, 73, 74, 75, 76, 77, 78, 79, 80, 81, 82, 83, 84, 85, 86, 87, 212, 216, 218, 219, 223, 225, 226, 228, 229, 233, 236, 237, 88, 244, 200, 203, 89, 90, 91, 92, 93, 94, 95, 96, 245, 246, 247, 248, 97, 98, 99, 260, 262, 100, 102] h h56 := by rw [wh56]; exact Fr.putF (a := 60) (j := 62) (x := 0) f51 rfl
          have t57 : Cch h56 := by rw [wh56]; exact Cch_wr rfl p50_1
          have t58 : Val h56 := by rw [wh56]; exact Val_wr rfl t52
          have t59 : LfOK h56 := by rw [wh56]; exact LfOK_wr rfl t53
          have t60 : Lkd h56 := by rw [wh56]; exact Lkd_wr rfl p50_0
          refine to_iconst (dat dk_X12_search 38 rfl) (to_istore_n (L' := [(0, .inr (.inr 60)), (1, .inl 0)]) (dat dk_X12_search 39 rfl) (by decide) rfl ?_)
          have e64 : h56.2.2 60 62 = (0 : Int) := (by rw [wh56]; exact wr_eq)
          have e67 : h56.2.2 60 3 = x38 := (by rw [wh56]; exact (show h49.2.2 60 3 = x38 from ((Fr.get fh49 (by have := I40.1.1; omega) rfl).trans (by rw [wh42]; exact ex38))))
          have e72 : h56.2.2 60 4 = x3 := (by rw [wh56]; exact (show h49.2.2 60 4 = x3 from ((Fr.get fh49 (by have := I40.1.1; omega) rfl).trans e47)))
          have e74 : h56.2.2 60 48 = x39 := (by rw [wh56]; exact (show h49.2.2 60 48 = x39 from ((Fr.get fh49 (by have := I40.1.1; omega) rfl).trans (by rw [wh42]; exact ex39))))
          have lp72_n76 : ∀ (n76 : Nat) (y61 : Int) (h62 : Hp), (I32 y61) → (Inv h62) → (Fr [69, 70, 71, 72, 73, 74, 75, 76, 77, 78, 79, 80, 81, 82, 83, 84, 85, 86, 87, 212, 216, 218, 219, 223, 225, 226, 228, 229, 233, 236, 237, 88, 244, 200, 203, 89, 90, 91, 92, 93, 94, 95, 96, 245, 246, 247, 248, 97, 98, 99, 260, 262, 100, 102] h h62) → (0 ≤ y61) → (h62.2.2 60 62 ≤ y61) → (Cch h62) → (h62.2.2 60 3 = 0) → (Val h62) → (LfOK h62) → (Lkd h62) → (h62.2.2 60 4 = h.2.2 60 4) → (h62.2.2 60 48 = pqS (h.2.2 62) (Int.toNat (h.2.2 60 3)) + 1) → (h62.2.2 60 4 - y61 ≤ (n76 : Int)) → To l E_X12_search (72, [(0, .inr (.inr 60)), (1, .inl y61)], [], h62, 0, 0) (Q_X12_search_vx h) := by
            intro n76
            induction n76 using Nat.strongRecOn with
            | _ n76 ihn76 =>
            intro y61 h62 ry61 Ih62 fh62 c63 c65 c66 c68 c69 c70 c71 c73 c75 c77
            obtain ⟨x78, ex78⟩ : ∃ y : Int, h62.2.2 60 62 = y := ⟨_, rfl⟩
            have rx78 := Ih62.atR (a := 60) (j := 62) rfl
            rw [ex78] at rx78
            obtain ⟨x79, ex79⟩ : ∃ y : Int, h62.2.2 60 3 = y := ⟨_, rfl⟩
            have rx79 := Ih62.atR (a := 60) (j := 3) rfl
            rw [ex79] at rx79
            have e80 : h62.2.2 60 4 = x3 := ((Fr.get fh62 (by have := hI.1.1; omega) rfl).trans ex3)
            obtain ⟨x81, ex81⟩ : ∃ y : Int, h62.2.2 60 48 = y := ⟨_, rfl⟩
            have rx81 := Ih62.atR (a := 60) (j := 48) rfl
            rw [ex81] at rx81
            refine to_iload_n (dat dk_X12_search 40 rfl) rfl (to_aload_n (dat dk_X12_search 41 rfl) rfl (to_getIv (y := x3) e80 g_c13_382 (dat dk_X12_search 42 rfl) (Ih62.atS rfl) ?_))
            refine to_ige 193 (dat dk_X12_search 43 rfl) rfl ry61 (by omega) (fun c82 => ?_) (fun c82 => ?_)
            · skip
              refine to_aload_n (dat dk_X12_search 109 rfl) rfl (to_getIv (y := x78) ex78 g_c13_521 (dat dk_X12_search 110 rfl) (Ih62.atS rfl) ?_)
              exact to_iret rfl (dat dk_X12_search 111 rfl) (ri_mk (by omega) ⟨Ih62, fh62, c66, (show h62.2.2 60 3 = 0 by omega), (show h62.2.2 60 48 = pqS (h.2.2 62) (Int.toNat (h.2.2 60 3)) + 1 by omega)⟩)
            · skip
              refine to_aload_n (dat dk_X12_search 44 rfl) rfl (to_getR 65 g_c13_24 (dat dk_X12_search 45 rfl) (Ih62.atS rfl) (Ih62.atE rfl) (to_iload_n (dat dk_X12_search 46 rfl) rfl ?_))
              obtain ⟨x83, ex83⟩ : ∃ y : Int, h62.2.2 65 (Int.toNat y61) = y := ⟨_, rfl⟩
              have rx83 := Ih62.atR (a := 65) (j := Int.toNat y61) rfl
              rw [ex83] at rx83
              refine to_baldv (q := 2) ex83 (dat dk_X12_search 47 rfl) (by decide) (Ih62.atS rfl) rfl (by decide) (by omega) ?_
              have k84 : h.2.2 65 (Int.toNat y61) = x83 := (Fr.getF fh62 hI (by decide) rfl).symm.trans ex83
              refine to_ifne 92 (dat dk_X12_search 48 rfl) rfl (by omega) (fun c85 => ?_) (fun c85 => ?_)
              · skip
                refine to_aload_n (dat dk_X12_search 50 rfl) rfl (to_iload_n (dat dk_X12_search 51 rfl) rfl ?_)
                refine to_cV ca_c13_373 (dat dk_X12_search 52 rfl) (ct_X12_read l h62 Ih62 y61 ry61 c66 (show 0 ≤ y61 ∧ y61 < h62.2.2 60 4 by omega)) rfl ⟨_, _, rfl, (Ih62.atS rfl)⟩ rfl (fun h87 p88 => ?_)
                obtain ⟨Ih87, fh87, p88_0, p88_1⟩ := p88
                have f89 : Fr [69, 70, 71, 72, 73, 74, 75, 76, 77, 78, 79, 80, 81, 82, 83, 84, 85, 86, 87, 212, 216, 218, 219, 223, 225, 226, 228, 229, 233, 236, 237, 88, 244, 200, 203, 89, 90, 91, 92, 93, 94, 95, 96, 245, 246, 247, 248, 97, 98, 99, 260, 262, 100, 102] h h87 := Fr.sub fh62 fh87 rfl
                have t90 : Val h87 := Val_fr fh87 Ih62 rfl c69
                have t91 : LfOK h87 := LfOK_fr fh87 Ih62 rfl c70
                have t92 : Lkd h87 := Lkd_fr fh87 Ih62 rfl c71
                obtain ⟨x93, ex93⟩ : ∃ y : Int, h87.2.2 60 12 = y := ⟨_, rfl⟩
                have rx93 := Ih87.atR (a := 60) (j := 12) rfl
                rw [ex93] at rx93
                refine to_aload_n (dat dk_X12_search 53 rfl) rfl (to_getR 102 g_c13_143 (dat dk_X12_search 54 rfl) (Ih87.atS rfl) (Ih87.atE rfl) (to_iload_n (dat dk_X12_search 55 rfl) rfl (to_aload_n (dat dk_X12_search 56 rfl) rfl ?_)))
                refine to_getL g_c13_360 (dat dk_X12_search 57 rfl) (Ih87.atS rfl) ?_
                generalize h87.2.2 60 16 = w94
                refine to_lastw (dat dk_X12_search 58 rfl) (Ih87.atS rfl) rfl (by decide) (by omega) ?_
                intro h97 wh97
                have I95 : Inv h97 := by rw [wh97]; exact Ih87.putL (x := w94) (a := 102) (j := (Int.toNat y61)) rfl
                have f96 : Fr [69, 70, 71, 72, 73, 74, 75, 76, 77, 78, 79, 80, 81, 82, 83, 84, 85, 86, 87, 212, 216, 218, 219, 223, 225, 226, 228, 229, 233, 236, 237, 88, 244, 200, 203, 89, 90, 91, 92, 93, 94, 95, 96, 245, 246, 247, 248, 97, 98, 99, 260, 262, 100, 102] h h97 := by rw [wh97]; exact Fr.putF (a := 102) (j := (Int.toNat y61)) (x := w94) f89 rfl
                have t98 : Cch h97 := by rw [wh97]; exact Cch_wr rfl p88_0
                have t99 : Val h97 := by rw [wh97]; exact Val_wr rfl t90
                have t100 : LfOK h97 := by rw [wh97]; exact LfOK_wr rfl t91
                have t101 : Lkd h97 := by rw [wh97]; exact Lkd_wr rfl t92
                refine to_aload_n (dat dk_X12_search 59 rfl) rfl (to_iload_n (dat dk_X12_search 60 rfl) rfl ?_)
                have e103 : h97.2.2 60 4 = x3 := (by rw [wh97]; exact (show h87.2.2 60 4 = x3 from ((Fr.get fh87 (by have := Ih62.1.1; omega) rfl).trans e80)))
                have z102 := t101.2.2 (Int.toNat y61) (by omega)
                rw [show h97.2.2 65 = h.2.2 65 from f96.arr hI (by decide) (fun _ => rfl)] at z102
                refine to_cI ca_c13_524 (dat dk_X12_search 61 rfl) (ct_X12_matches l h97 I95 y61 ry61 t101 t100 t99 (show 0 ≤ y61 ∧ y61 ≤ 199 by omega) (show h97.2.2 87 (Int.toNat y61) < h97.2.2 60 37 by omega)) rfl ⟨_, _, rfl, (I95.atS rfl)⟩ rfl (fun x104 h105 rx104 p106 => ?_)
                obtain ⟨Ih105, fh105, zx104⟩ := p106
                have f107 : Fr [69, 70, 71, 72, 73, 74, 75, 76, 77, 78, 79, 80, 81, 82, 83, 84, 85, 86, 87, 212, 216, 218, 219, 223, 225, 226, 228, 229, 233, 236, 237, 88, 244, 200, 203, 89, 90, 91, 92, 93, 94, 95, 96, 245, 246, 247, 248, 97, 98, 99, 260, 262, 100, 102] h h105 := Fr.sub f96 fh105 rfl
                have t108 : Cch h105 := Cch_fr fh105 I95 rfl t98
                have t109 : Val h105 := Val_fr fh105 I95 rfl t99
                have t110 : LfOK h105 := LfOK_fr fh105 I95 rfl t100
                have t111 : Lkd h105 := Lkd_fr fh105 I95 rfl t101
                have rzx104 := z_lin zx104
                clear zx104
                clear rx104
                have rx104 := rzx104
                clear rzx104
                refine to_ifne 118 (dat dk_X12_search 62 rfl) rfl (z_i32 rx104) (fun c112 => ?_) (fun c112 => ?_)
                · skip
                  replace c112 := z_one rx104 c112
                  refine to_aload_n (dat dk_X12_search 64 rfl) rfl (to_getIv (y := x78) ((Fr.get fh105 (by have := I95.1.1; omega) rfl).trans (by rw [wh97]; exact (show h87.2.2 60 62 = x78 from ((Fr.get fh87 (by have := Ih62.1.1; omega) rfl).trans ex78)))) g_c13_521 (dat dk_X12_search 65 rfl) (Ih105.atS rfl) (to_istore_n (L' := [(0, .inr (.inr 60)), (1, .inl y61), (2, .inl x78)]) (dat dk_X12_search 66 rfl) (by decide) rfl ?_))
                  have e115 : h105.2.2 60 62 = x78 := ((Fr.get fh105 (by have := I95.1.1; omega) rfl).trans (by rw [wh97]; exact (show h87.2.2 60 62 = x78 from ((Fr.get fh87 (by have := Ih62.1.1; omega) rfl).trans ex78))))
                  have e119 : h105.2.2 60 3 = x79 := ((Fr.get fh105 (by have := I95.1.1; omega) rfl).trans (by rw [wh97]; exact (show h87.2.2 60 3 = x79 from ((Fr.get fh87 (by have := Ih62.1.1; omega) rfl).trans ex79))))
                  have e124 : h105.2.2 60 4 = x3 := ((Fr.get fh105 (by have := I95.1.1; omega) rfl).trans e103)
                  have e126 : h105.2.2 60 48 = x81 := ((Fr.get fh105 (by have := I95.1.1; omega) rfl).trans (by rw [wh97]; exact (show h87.2.2 60 48 = x81 from ((Fr.get fh87 (by have := Ih62.1.1; omega) rfl).trans ex81))))
                  have lp123_n128 : ∀ (n128 : Nat) (y113 : Int) (h114 : Hp), (I32 y113) → (Inv h114) → (Fr [69, 70, 71, 72, 73, 74, 75, 76, 77, 78, 79, 80, 81, 82, 83, 84, 85, 86, 87, 212, 216, 218, 219, 223, 225, 226, 228, 229, 233, 236, 237, 88, 244, 200, 203, 89, 90, 91, 92, 93, 94, 95, 96, 245, 246, 247, 248, 97, 98, 99, 260, 262, 100, 102] h h114) → (0 ≤ y113 ∧ y113 ≤ h114.2.2 60 62) → (h114.2.2 60 62 ≤ y61) → (Cch h114) → (h114.2.2 60 3 = 0) → (Val h114) → (LfOK h114) → (Lkd h114) → (h114.2.2 60 4 = h.2.2 60 4) → (h114.2.2 60 48 = pqS (h.2.2 62) (Int.toNat (h.2.2 60 3)) + 1) → (y113 ≤ (n128 : Int)) → To l E_X12_search (123, [(0, .inr (.inr 60)), (1, .inl y61), (2, .inl y113)], [], h114, 0, 0) (Q_X12_search_vx h) := by
                    intro n128
                    induction n128 using Nat.strongRecOn with
                    | _ n128 ihn128 =>
                    intro y113 h114 ry113 Ih114 fh114 c116 c117 c118 c120 c121 c122 c123 c125 c127 c129
                    obtain ⟨x130, ex130⟩ : ∃ y : Int, h114.2.2 60 62 = y := ⟨_, rfl⟩
                    have rx130 := Ih114.atR (a := 60) (j := 62) rfl
                    rw [ex130] at rx130
                    obtain ⟨x131, ex131⟩ : ∃ y : Int, h114.2.2 60 3 = y := ⟨_, rfl⟩
                    have rx131 := Ih114.atR (a := 60) (j := 3) rfl
                    rw [ex131] at rx131
                    have e132 : h114.2.2 60 4 = x3 := ((Fr.get fh114 (by have := hI.1.1; omega) rfl).trans ex3)
                    obtain ⟨x133, ex133⟩ : ∃ y : Int, h114.2.2 60 48 = y := ⟨_, rfl⟩
                    have rx133 := Ih114.atR (a := 60) (j := 48) rfl
                    rw [ex133] at rx133
                    refine to_iload_n (dat dk_X12_search 67 rfl) rfl ?_
                    refine to_ifle 170 (dat dk_X12_search 68 rfl) rfl ry113 (fun c134 => ?_) (fun c134 => ?_)
                    · skip
                      refine to_aload_n (dat dk_X12_search 96 rfl) rfl (to_getR 100 g_c13_137 (dat dk_X12_search 97 rfl) (Ih114.atS rfl) (Ih114.atE rfl) (to_iload_n (dat dk_X12_search 98 rfl) rfl (to_iload_n (dat dk_X12_search 99 rfl) rfl (to_iastw (dat dk_X12_search 100 rfl) (Ih114.atS rfl) rfl (by decide) (by omega) ?_))))
                      intro h137 wh137
                      have I135 : Inv h137 := by rw [wh137]; exact Ih114.put (a := 100) (j := (Int.toNat y113)) (x := y61) (0) (199) rfl rfl (show (0 : Int) ≤ y61 ∧ y61 ≤ 199 by omega)
                      have f136 : Fr [69, 70, 71, 72, 73, 74, 75, 76, 77, 78, 79, 80, 81, 82, 83, 84, 85, 86, 87, 212, 216, 218, 219, 223, 225, 226, 228, 229, 233, 236, 237, 88, 244, 200, 203, 89, 90, 91, 92, 93, 94, 95, 96, 245, 246, 247, 248, 97, 98, 99, 260, 262, 100, 102] h h137 := by rw [wh137]; exact Fr.putF (a := 100) (j := (Int.toNat y113)) (x := y61) fh114 rfl
                      have t138 : Cch h137 := by rw [wh137]; exact Cch_wr rfl c118
                      have t139 : Val h137 := by rw [wh137]; exact Val_wr rfl c121
                      have t140 : LfOK h137 := by rw [wh137]; exact LfOK_wr rfl c122
                      have t141 : Lkd h137 := by rw [wh137]; exact Lkd_wr rfl c123
                      refine to_aload_n (dat dk_X12_search 101 rfl) rfl (to_dup (dat dk_X12_search 102 rfl) rfl (to_getIv (y := x130) (by rw [wh137]; exact ex130) g_c13_521 (dat dk_X12_search 103 rfl) (I135.atS rfl) (to_iconst (dat dk_X12_search 104 rfl) (to_iadd (dat dk_X12_search 105 rfl) (to_putIw p_c13_521 (dat dk_X12_search 106 rfl) (I135.atS rfl) ?_)))))
                      intro h144 wh144
                      have I142 : Inv h144 := by rw [wh144]; exact I135.put (a := 60) (j := 62) (x := (x130 + 1)) (0) (200) rfl rfl (show (0 : Int) ≤ (x130 + 1) ∧ (x130 + 1) ≤ 200 by omega)
                      have f143 : Fr [69, 70, 71, 72, 73, 74, 75, 76, 77, 78, 79, 80, 81, 82, 83, 84, 85, 86, 87, 212, 216, 218, 219, 223, 225, 226, 228, 229, 233, 236, 237, 88, 244, 200, 203, 89, 90, 91, 92, 93, 94, 95, 96, 245, 246, 247, 248, 97, 98, 99, 260, 262, 100, 102] h h144 := by rw [wh144]; exact Fr.putF (a := 60) (j := 62) (x := (x130 + 1)) f136 rfl
                      have t145 : Cch h144 := by rw [wh144]; exact Cch_wr rfl t138
                      have t146 : Val h144 := by rw [wh144]; exact Val_wr rfl t139
                      have t147 : LfOK h144 := by rw [wh144]; exact LfOK_wr rfl t140
                      have t148 : Lkd h144 := by rw [wh144]; exact Lkd_wr rfl t141
                      refine to_iinc (L' := [(0, .inr (.inr 60)), (1, .inl (y61 + 1)), (2, .inl y113)]) (dat dk_X12_search 107 rfl) rfl (by decide) rfl (to_goto (dat dk_X12_search 108 rfl) rfl ?_)
                      refine to_pick [0, 1] rfl ?_
                      have e149 : h144.2.2 60 62 = (x130 + 1) := (by rw [wh144]; exact wr_eq)
                      have e150 : h144.2.2 60 3 = x131 := (by rw [wh144]; exact (show h137.2.2 60 3 = x131 from (by rw [wh137]; exact ex131)))
                      have e151 : h144.2.2 60 4 = x3 := (by rw [wh144]; exact (show h137.2.2 60 4 = x3 from (by rw [wh137]; exact e132)))
                      have e152 : h144.2.2 60 48 = x133 := (by rw [wh144]; exact (show h137.2.2 60 48 = x133 from (by rw [wh137]; exact ex133)))
                      exact ihn76 (n76 - 1) (by omega) (y61 + 1) h144 (by omega) I142 f143 (show 0 ≤ (y61 + 1) by omega) (show h144.2.2 60 62 ≤ (y61 + 1) by omega) t145 (show h144.2.2 60 3 = 0 by omega) t146 t147 t148 (show h144.2.2 60 4 = h.2.2 60 4 by omega) (show h144.2.2 60 48 = pqS (h.2.2 62) (Int.toNat (h.2.2 60 3)) + 1 by omega) (show h144.2.2 60 4 - (y61 + 1) ≤ ((n76 - 1 : Nat) : Int) by omega)
                    · skip
                      refine to_aload_n (dat dk_X12_search 69 rfl) rfl (to_getR 102 g_c13_143 (dat dk_X12_search 70 rfl) (Ih114.atS rfl) (Ih114.atE rfl) (to_aload_n (dat dk_X12_search 71 rfl) rfl (to_getR 100 g_c13_137 (dat dk_X12_search 72 rfl) (Ih114.atS rfl) (Ih114.atE rfl) (to_iload_n (dat dk_X12_search 73 rfl) rfl (to_iconst (dat dk_X12_search 74 rfl) (to_isub (dat dk_X12_search 75 rfl) ?_))))))
                      obtain ⟨x153, ex153⟩ : ∃ y : Int, h114.2.2 100 (Int.toNat (y113 - 1)) = y := ⟨_, rfl⟩
                      have rx153 := Ih114.atR (a := 100) (j := Int.toNat (y113 - 1)) rfl
                      rw [ex153] at rx153
                      refine to_ialdv ex153 (dat dk_X12_search 76 rfl) (Ih114.atS rfl) rfl (by decide) (by omega) ?_
                      refine to_lald (dat dk_X12_search 77 rfl) (Ih114.atS rfl) rfl (by decide) (by omega) ?_
                      generalize h114.2.2 102 (Int.toNat x153) = w154
                      refine to_aload_n (dat dk_X12_search 78 rfl) rfl (to_getR 102 g_c13_143 (dat dk_X12_search 79 rfl) (Ih114.atS rfl) (Ih114.atE rfl) (to_iload_n (dat dk_X12_search 80 rfl) rfl ?_))
                      refine to_lald (dat dk_X12_search 81 rfl) (Ih114.atS rfl) rfl (by decide) (by omega) ?_
                      generalize h114.2.2 102 (Int.toNat y61) = w155
                      refine to_lcmp (dat dk_X12_search 82 rfl) (fun x156 rx156 => ?_)
                      refine to_ifgt 170 (dat dk_X12_search 83 rfl) rfl rx156 (fun c157 => ?_) (fun c157 => ?_)
                      · skip
                        refine to_aload_n (dat dk_X12_search 96 rfl) rfl (to_getR 100 g_c13_137 (dat dk_X12_search 97 rfl) (Ih114.atS rfl) (Ih114.atE rfl) (to_iload_n (dat dk_X12_search 98 rfl) rfl (to_iload_n (dat dk_X12_search 99 rfl) rfl (to_iastw (dat dk_X12_search 100 rfl) (Ih114.atS rfl) rfl (by decide) (by omega) ?_))))
                        intro h160 wh160
                        have I158 : Inv h160 := by rw [wh160]; exact Ih114.put (a := 100) (j := (Int.toNat y113)) (x := y61) (0) (199) rfl rfl (show (0 : Int) ≤ y61 ∧ y61 ≤ 199 by omega)
                        have f159 : Fr [69, 70, 71, 72, 73, 74, 75, 76, 77, 78, 79, 80, 81, 82, 83, 84, 85, 86, 87, 212, 216, 218, 219, 223, 225, 226, 228, 229, 233, 236, 237, 88, 244, 200, 203, 89, 90, 91, 92, 93, 94, 95, 96, 245, 246, 247, 248, 97, 98, 99, 260, 262, 100, 102] h h160 := by rw [wh160]; exact Fr.putF (a := 100) (j := (Int.toNat y113)) (x := y61) fh114 rfl
                        have t161 : Cch h160 := by rw [wh160]; exact Cch_wr rfl c118
                        have t162 : Val h160 := by rw [wh160]; exact Val_wr rfl c121
                        have t163 : LfOK h160 := by rw [wh160]; exact LfOK_wr rfl c122
                        have t164 : Lkd h160 := by rw [wh160]; exact Lkd_wr rfl c123
                        refine to_aload_n (dat dk_X12_search 101 rfl) rfl (to_dup (dat dk_X12_search 102 rfl) rfl (to_getIv (y := x130) (by rw [wh160]; exact ex130) g_c13_521 (dat dk_X12_search 103 rfl) (I158.atS rfl) (to_iconst (dat dk_X12_search 104 rfl) (to_iadd (dat dk_X12_search 105 rfl) (to_putIw p_c13_521 (dat dk_X12_search 106 rfl) (I158.atS rfl) ?_)))))
                        intro h167 wh167
                        have I165 : Inv h167 := by rw [wh167]; exact I158.put (a := 60) (j := 62) (x := (x130 + 1)) (0) (200) rfl rfl (show (0 : Int) ≤ (x130 + 1) ∧ (x130 + 1) ≤ 200 by omega)
                        have f166 : Fr [69, 70, 71, 72, 73, 74, 75, 76, 77, 78, 79, 80, 81, 82, 83, 84, 85, 86, 87, 212, 216, 218, 219, 223, 225, 226, 228, 229, 233, 236, 237, 88, 244, 200, 203, 89, 90, 91, 92, 93, 94, 95, 96, 245, 246, 247, 248, 97, 98, 99, 260, 262, 100, 102] h h167 := by rw [wh167]; exact Fr.putF (a := 60) (j := 62) (x := (x130 + 1)) f159 rfl
                        have t168 : Cch h167 := by rw [wh167]; exact Cch_wr rfl t161
                        have t169 : Val h167 := by rw [wh167]; exact Val_wr rfl t162
                        have t170 : LfOK h167 := by rw [wh167]; exact LfOK_wr rfl t163
                        have t171 : Lkd h167 := by rw [wh167]; exact Lkd_wr rfl t164
                        refine to_iinc (L' := [(0, .inr (.inr 60)), (1, .inl (y61 + 1)), (2, .inl y113)]) (dat dk_X12_search 107 rfl) rfl (by decide) rfl (to_goto (dat dk_X12_search 108 rfl) rfl ?_)
                        refine to_pick [0, 1] rfl ?_
                        have e172 : h167.2.2 60 62 = (x130 + 1) := (by rw [wh167]; exact wr_eq)
                        have e173 : h167.2.2 60 3 = x131 := (by rw [wh167]; exact (show h160.2.2 60 3 = x131 from (by rw [wh160]; exact ex131)))
                        have e174 : h167.2.2 60 4 = x3 := (by rw [wh167]; exact (show h160.2.2 60 4 = x3 from (by rw [wh160]; exact e132)))
                        have e175 : h167.2.2 60 48 = x133 := (by rw [wh167]; exact (show h160.2.2 60 48 = x133 from (by rw [wh160]; exact ex133)))
                        exact ihn76 (n76 - 1) (by omega) (y61 + 1) h167 (by omega) I165 f166 (show 0 ≤ (y61 + 1) by omega) (show h167.2.2 60 62 ≤ (y61 + 1) by omega) t168 (show h167.2.2 60 3 = 0 by omega) t169 t170 t171 (show h167.2.2 60 4 = h.2.2 60 4 by omega) (show h167.2.2 60 48 = pqS (h.2.2 62) (Int.toNat (h.2.2 60 3)) + 1 by omega) (show h167.2.2 60 4 - (y61 + 1) ≤ ((n76 - 1 : Nat) : Int) by omega)
                      · skip
                        refine to_aload_n (dat dk_X12_search 84 rfl) rfl (to_getR 100 g_c13_137 (dat dk_X12_search 85 rfl) (Ih114.atS rfl) (Ih114.atE rfl) (to_iload_n (dat dk_X12_search 86 rfl) rfl (to_aload_n (dat dk_X12_search 87 rfl) rfl (to_getR 100 g_c13_137 (dat dk_X12_search 88 rfl) (Ih114.atS rfl) (Ih114.atE rfl) (to_iload_n (dat dk_X12_search 89 rfl) rfl (to_iconst (dat dk_X12_search 90 rfl) (to_isub (dat dk_X12_search 91 rfl) ?_)))))))
                        obtain ⟨x176, ex176⟩ : ∃ y : Int, h114.2.2 100 (Int.toNat (y113 - 1)) = y := ⟨_, rfl⟩
                        have rx176 := Ih114.atR (a := 100) (j := Int.toNat (y113 - 1)) rfl
                        rw [ex176] at rx176
                        refine to_ialdv ex176 (dat dk_X12_search 92 rfl) (Ih114.atS rfl) rfl (by decide) (by omega) (to_iastw (dat dk_X12_search 93 rfl) (Ih114.atS rfl) rfl (by decide) (by omega) ?_)
                        intro h179 wh179
                        have I177 : Inv h179 := by rw [wh179]; exact Ih114.put (a := 100) (j := (Int.toNat y113)) (x := x176) (0) (199) rfl rfl (show (0 : Int) ≤ x176 ∧ x176 ≤ 199 by omega)
                        have f178 : Fr [69, 70, 71, 72, 73, 74, 75, 76, 77, 78, 79, 80, 81, 82, 83, 84, 85, 86, 87, 212, 216, 218, 219, 223, 225, 226, 228, 229, 233, 236, 237, 88, 244, 200, 203, 89, 90, 91, 92, 93, 94, 95, 96, 245, 246, 247, 248, 97, 98, 99, 260, 262, 100, 102] h h179 := by rw [wh179]; exact Fr.putF (a := 100) (j := (Int.toNat y113)) (x := x176) fh114 rfl
                        have t180 : Cch h179 := by rw [wh179]; exact Cch_wr rfl c118
                        have t181 : Val h179 := by rw [wh179]; exact Val_wr rfl c121
                        have t182 : LfOK h179 := by rw [wh179]; exact LfOK_wr rfl c122
                        have t183 : Lkd h179 := by rw [wh179]; exact Lkd_wr rfl c123
                        refine to_iinc (L' := [(0, .inr (.inr 60)), (1, .inl y61), (2, .inl (y113 + (-1)))]) (dat dk_X12_search 94 rfl) rfl (by decide) rfl (to_goto (dat dk_X12_search 95 rfl) rfl ?_)
                        have e184 : h179.2.2 60 62 = x130 := (by rw [wh179]; exact ex130)
                        have e185 : h179.2.2 60 3 = x131 := (by rw [wh179]; exact ex131)
                        have e186 : h179.2.2 60 4 = x3 := (by rw [wh179]; exact e132)
                        have e187 : h179.2.2 60 48 = x133 := (by rw [wh179]; exact ex133)
                        exact ihn128 (n128 - 1) (by omega) (y113 + (-1)) h179 (by omega) I177 f178 (show 0 ≤ (y113 + (-1)) ∧ (y113 + (-1)) ≤ h179.2.2 60 62 by omega) (show h179.2.2 60 62 ≤ y61 by omega) t180 (show h179.2.2 60 3 = 0 by omega) t181 t182 t183 (show h179.2.2 60 4 = h.2.2 60 4 by omega) (show h179.2.2 60 48 = pqS (h.2.2 62) (Int.toNat (h.2.2 60 3)) + 1 by omega) (show (y113 + (-1)) ≤ ((n128 - 1 : Nat) : Int) by omega)
                  exact lp123_n128 (x78).toNat x78 h105 (by omega) Ih105 f107 (show 0 ≤ x78 ∧ x78 ≤ h105.2.2 60 62 by omega) (show h105.2.2 60 62 ≤ y61 by omega) t108 (show h105.2.2 60 3 = 0 by omega) t109 t110 t111 (show h105.2.2 60 4 = h.2.2 60 4 by omega) (show h105.2.2 60 48 = pqS (h.2.2 62) (Int.toNat (h.2.2 60 3)) + 1 by omega) (by omega)
                · skip
                  refine to_goto (dat dk_X12_search 63 rfl) rfl (to_iinc (L' := [(0, .inr (.inr 60)), (1, .inl (y61 + 1))]) (dat dk_X12_search 107 rfl) rfl (by decide) rfl (to_goto (dat dk_X12_search 108 rfl) rfl ?_))
                  have e188 : h105.2.2 60 62 = x78 := ((Fr.get fh105 (by have := I95.1.1; omega) rfl).trans (by rw [wh97]; exact (show h87.2.2 60 62 = x78 from ((Fr.get fh87 (by have := Ih62.1.1; omega) rfl).trans ex78))))
                  have e189 : h105.2.2 60 3 = x79 := ((Fr.get fh105 (by have := I95.1.1; omega) rfl).trans (by rw [wh97]; exact (show h87.2.2 60 3 = x79 from ((Fr.get fh87 (by have := Ih62.1.1; omega) rfl).trans ex79))))
                  have e190 : h105.2.2 60 4 = x3 := ((Fr.get fh105 (by have := I95.1.1; omega) rfl).trans e103)
                  have e191 : h105.2.2 60 48 = x81 := ((Fr.get fh105 (by have := I95.1.1; omega) rfl).trans (by rw [wh97]; exact (show h87.2.2 60 48 = x81 from ((Fr.get fh87 (by have := Ih62.1.1; omega) rfl).trans ex81))))
                  exact ihn76 (n76 - 1) (by omega) (y61 + 1) h105 (by omega) Ih105 f107 (show 0 ≤ (y61 + 1) by omega) (show h105.2.2 60 62 ≤ (y61 + 1) by omega) t108 (show h105.2.2 60 3 = 0 by omega) t109 t110 t111 (show h105.2.2 60 4 = h.2.2 60 4 by omega) (show h105.2.2 60 48 = pqS (h.2.2 62) (Int.toNat (h.2.2 60 3)) + 1 by omega) (show h105.2.2 60 4 - (y61 + 1) ≤ ((n76 - 1 : Nat) : Int) by omega)
              · skip
                refine to_goto (dat dk_X12_search 49 rfl) rfl (to_iinc (L' := [(0, .inr (.inr 60)), (1, .inl (y61 + 1))]) (dat dk_X12_search 107 rfl) rfl (by decide) rfl (to_goto (dat dk_X12_search 108 rfl) rfl ?_))
                exact ihn76 (n76 - 1) (by omega) (y61 + 1) h62 (by omega) Ih62 fh62 (show 0 ≤ (y61 + 1) by omega) (show h62.2.2 60 62 ≤ (y61 + 1) by omega) c66 (show h62.2.2 60 3 = 0 by omega) c69 c70 c71 (show h62.2.2 60 4 = h.2.2 60 4 by omega) (show h62.2.2 60 48 = pqS (h.2.2 62) (Int.toNat (h.2.2 60 3)) + 1 by omega) (show h62.2.2 60 4 - (y61 + 1) ≤ ((n76 - 1 : Nat) : Int) by omega)
          exact lp72_n76 (h56.2.2 60 4 - (0 : Int)).toNat 0 h56 (by decide) I54 f55 (show 0 ≤ (0 : Int) by omega) (show h56.2.2 60 62 ≤ (0 : Int) by omega) t57 (show h56.2.2 60 3 = 0 by omega) t58 t59 t60 (show h56.2.2 60 4 = h.2.2 60 4 by omega) (show h56.2.2 60 48 = pqS (h.2.2 62) (Int.toNat (h.2.2 60 3)) + 1 by omega) (by omega)
        · skip
          refine to_iconst (dat dk_X12_search 31 rfl) ?_
          have e192 : h42.2.2 60 3 = x38 := (by rw [wh42]; exact ex38)
          have e193 : h42.2.2 60 48 = x39 := (by rw [wh42]; exact ex39)
          exact to_iret rfl (dat dk_X12_search 32 rfl) (ri_mk (by decide) ⟨I40, f41, t43, (show h42.2.2 60 3 = 0 by omega), (show h42.2.2 60 48 = pqS (h.2.2 62) (Int.toNat (h.2.2 60 3)) + 1 by omega)⟩)
      refine to_aload_n (dat dk_X12_search 21 rfl) rfl ?_
      refine to_cI ca_c13_514 (dat dk_X12_search 22 rfl) (ct_X12_readQuery_vx l h17 Ih17 ) rfl ⟨_, _, rfl, (Ih17.atS rfl)⟩ rfl (fun x194 h195 rx194 p196 => ?_)
      obtain ⟨Ih195, fh195, zx194, p196_0, p196_1, p196_2⟩ := p196
      have f197 : Fr [69, 70, 71, 72, 73, 74, 75, 76, 77, 78, 79, 80, 81, 82, 83, 84, 85, 86, 87, 212, 216, 218, 219, 223, 225, 226, 228, 229, 233, 236, 237, 88, 244, 200, 203, 89, 90, 91, 92, 93, 94, 95, 96, 245, 246, 247, 248, 97, 98, 99, 260, 262, 100, 102] h h195 := Fr.sub fh17 fh195 rfl
      have t198 : Cch h195 := Cch_fr fh195 Ih17 rfl c19
      have rzx194 := z_lin zx194
      clear zx194
      clear rx194
      have rx194 := rzx194
      clear rzx194
      obtain ⟨x199, ex199⟩ : ∃ y : Int, h195.2.2 60 48 = y := ⟨_, rfl⟩
      have rx199 := Ih195.atR (a := 60) (j := 48) rfl
      rw [ex199] at rx199
      refine to_ifeq 48 (dat dk_X12_search 23 rfl) rfl (z_i32 rx194) (fun c200 => ?_) (fun c200 => ?_)
      · skip
        refine to_iconst (dat dk_X12_search 26 rfl) ?_
        have e201 : h195.2.2 60 3 = x27 := ((Fr.get fh195 (by have := Ih17.1.1; omega) rfl).trans ex27)
        exact jn49_n37 1 h195 (by decide) Ih195 f197 t198 (show h195.2.2 60 3 = 0 by omega) p196_0 p196_1 (show h195.2.2 60 48 = pqS (h.2.2 62) (Int.toNat (h.2.2 60 3)) + 1 by omega)
      · skip
        replace c200 := z_one rx194 c200
        refine to_iconst (dat dk_X12_search 24 rfl) (to_goto (dat dk_X12_search 25 rfl) rfl ?_)
        have e202 : h195.2.2 60 3 = x27 := ((Fr.get fh195 (by have := Ih17.1.1; omega) rfl).trans ex27)
        exact jn49_n37 0 h195 (by decide) Ih195 f197 t198 (show h195.2.2 60 3 = 0 by omega) p196_0 p196_1 (show h195.2.2 60 48 = pqS (h.2.2 62) (Int.toNat (h.2.2 60 3)) + 1 by omega)
    · skip
      refine to_aload_n (dat dk_X12_search 10 rfl) rfl (to_getR 88 g_c13_100 (dat dk_X12_search 11 rfl) (Ih17.atS rfl) (Ih17.atE rfl) (to_iload_n (dat dk_X12_search 12 rfl) rfl (to_aload_n (dat dk_X12_search 13 rfl) rfl (to_getR 62 g_c13_13 (dat dk_X12_search 14 rfl) (Ih17.atS rfl) (Ih17.atE rfl) (to_iload_n (dat dk_X12_search 15 rfl) rfl ?_)))))
      obtain ⟨x203, ex203⟩ : ∃ y : Int, h17.2.2 62 (Int.toNat y16) = y := ⟨_, rfl⟩
      have rx203 := Ih17.atR (a := 62) (j := Int.toNat y16) rfl
      rw [ex203] at rx203
      refine to_baldv (q := 1) ex203 (dat dk_X12_search 16 rfl) (by decide) (Ih17.atS rfl) rfl (by decide) (by omega) ?_
      have k204 : h.2.2 62 (Int.toNat y16) = x203 := (Fr.getF fh17 hI (by decide) rfl).symm.trans ex203
      refine to_bastw (dat dk_X12_search 17 rfl) (Ih17.atS rfl) rfl (by decide) (by omega) ?_
      intro h207 wh207
      have I205 : Inv h207 := by rw [wh207]; exact Ih17.put (a := 88) (j := (Int.toNat y16)) (x := (b8 x203)) (-128) (127) rfl rfl (show (-128 : Int) ≤ (b8 x203) ∧ (b8 x203) ≤ 127 by have := b8_in x203; omega)
      have f206 : Fr [69, 70, 71, 72, 73, 74, 75, 76, 77, 78, 79, 80, 81, 82, 83, 84, 85, 86, 87, 212, 216, 218, 219, 223, 225, 226, 228, 229, 233, 236, 237, 88, 244, 200, 203, 89, 90, 91, 92, 93, 94, 95, 96, 245, 246, 247, 248, 97, 98, 99, 260, 262, 100, 102] h h207 := by rw [wh207]; exact Fr.putF (a := 88) (j := (Int.toNat y16)) (x := (b8 x203)) fh17 rfl
      have t208 : Cch h207 := by rw [wh207]; exact Cch_wr rfl c19
      refine to_iinc (L' := [(0, .inr (.inr 60)), (1, .inl (y16 + 1))]) (dat dk_X12_search 18 rfl) rfl (by decide) rfl (to_goto (dat dk_X12_search 19 rfl) rfl ?_)
      have e209 : h207.2.2 60 3 = x27 := (by rw [wh207]; exact ex27)
      have e210 : h207.2.2 60 44 = x28 := (by rw [wh207]; exact ex28)
      exact ihn25 (n25 - 1) (by omega) (y16 + 1) h207 (by omega) I205 f206 (show 0 ≤ (y16 + 1) by omega) t208 (show h207.2.2 60 3 = 0 by omega) (fun j hj => by rw [wh207, wr_if]; exact if cj : j = Int.toNat y16 then (by rw [if_pos ⟨rfl, cj⟩, cj, b8_id (by omega)]; omega) else (by rw [if_neg (fun q => cj q.2)]; exact c22 j (by omega))) (show h207.2.2 60 44 = h.2.2 60 3 by omega) (show h207.2.2 60 44 - (y16 + 1) ≤ ((n25 - 1 : Nat) : Int) by omega)
  exact lp10_n25 (h14.2.2 60 44 - (0 : Int)).toNat 0 h14 (by decide) I12 f13 (show 0 ≤ (0 : Int) by omega) t15 (show h14.2.2 60 3 = 0 by omega) (fun j hj => absurd hj (by omega)) (show h14.2.2 60 44 = h.2.2 60 3 by omega) (by omega)
