/-! Contracts, by program. -/
abbrev Q_X12_readQuery (h : Hp) : Option V → Hp → Nat → Nat → Prop := RI (fun x H => Inv H ∧ Fr [89, 90, 91, 92, 93, 94, 95, 96, 245, 246, 247, 248] h H ∧ (x = 0 ∨ x = 1) ∧ (Val H) ∧ (LfOK H))
set_option maxRecDepth 100000 in
set_option maxHeartbeats 4000000 in
theorem ct_X12_readQuery (l : Launch) (h : Hp) (hI : Inv h)  : Ct l D_X12_readQuery 6 144 [.inr (.inr 60)] h (Q_X12_readQuery h) := by
  refine ct_of pn_X12_readQuery (Nat.le_of_ble_eq_true rfl) ?_
  show To l E_X12_readQuery (0, [(0, .inr (.inr 60))], [], h, 0, 0) _
  have z44 := hI.atR (a := 60) (j := 44) rfl
  obtain ⟨x1, ex1⟩ : ∃ y : Int, h.2.2 60 44 = y := ⟨_, rfl⟩
  have rx1 := hI.atR (a := 60) (j := 44) rfl
  rw [ex1] at rx1
  obtain ⟨x2, ex2⟩ : ∃ y : Int, h.2.2 60 45 = y := ⟨_, rfl⟩
  have rx2 := hI.atR (a := 60) (j := 45) rfl
  rw [ex2] at rx2
  obtain ⟨x3, ex3⟩ : ∃ y : Int, h.2.2 60 46 = y := ⟨_, rfl⟩
  have rx3 := hI.atR (a := 60) (j := 46) rfl
  rw [ex3] at rx3
  obtain ⟨x4, ex4⟩ : ∃ y : Int, h.2.2 60 47 = y := ⟨_, rfl⟩
  have rx4 := hI.atR (a := 60) (j := 47) rfl
  rw [ex4] at rx4
  refine to_aload_n (dat dk_X12_readQuery 0 rfl) rfl (to_iconst (dat dk_X12_readQuery 1 rfl) (to_putIw p_c13_394 (dat dk_X12_readQuery 2 rfl) (hI.atS rfl) ?_))
  intro h7 wh7
  have I5 : Inv h7 := by rw [wh7]; exact hI.put (a := 60) (j := 45) (x := 0) (0) (810) rfl rfl (show (0 : Int) ≤ 0 ∧ 0 ≤ 810 by decide)
  have f6 : Fr [89, 90, 91, 92, 93, 94, 95, 96, 245, 246, 247, 248] h h7 := by rw [wh7]; exact Fr.putF (a := 60) (j := 45) (x := 0) (Fr.rf _ _) rfl
  refine to_aload_n (dat dk_X12_readQuery 3 rfl) rfl (to_iconst (dat dk_X12_readQuery 4 rfl) (to_putIw p_c13_403 (dat dk_X12_readQuery 5 rfl) (I5.atS rfl) ?_))
  intro h10 wh10
  have I8 : Inv h10 := by rw [wh10]; exact I5.put (a := 60) (j := 46) (x := 0) (0) (3000) rfl rfl (show (0 : Int) ≤ 0 ∧ 0 ≤ 3000 by decide)
  have f9 : Fr [89, 90, 91, 92, 93, 94, 95, 96, 245, 246, 247, 248] h h10 := by rw [wh10]; exact Fr.putF (a := 60) (j := 46) (x := 0) f6 rfl
  refine to_aload_n (dat dk_X12_readQuery 6 rfl) rfl (to_iconst (dat dk_X12_readQuery 7 rfl) (to_putIw p_c13_406 (dat dk_X12_readQuery 8 rfl) (I8.atS rfl) ?_))
  intro h13 wh13
  have I11 : Inv h13 := by rw [wh13]; exact I8.put (a := 60) (j := 47) (x := 0) (0) (1300) rfl rfl (show (0 : Int) ≤ 0 ∧ 0 ≤ 1300 by decide)
  have f12 : Fr [89, 90, 91, 92, 93, 94, 95, 96, 245, 246, 247, 248] h h13 := by rw [wh13]; exact Fr.putF (a := 60) (j := 47) (x := 0) f9 rfl
  refine to_aload_n (dat dk_X12_readQuery 9 rfl) rfl (to_iconst (dat dk_X12_readQuery 10 rfl) (to_putIw p_c13_391 (dat dk_X12_readQuery 11 rfl) (I11.atS rfl) ?_))
  intro h16 wh16
  have I14 : Inv h16 := by rw [wh16]; exact I11.put (a := 60) (j := 48) (x := 0) (0) (1201) rfl rfl (show (0 : Int) ≤ 0 ∧ 0 ≤ 1201 by decide)
  have f15 : Fr [89, 90, 91, 92, 93, 94, 95, 96, 245, 246, 247, 248] h h16 := by rw [wh16]; exact Fr.putF (a := 60) (j := 48) (x := 0) f12 rfl
  have z17 := q_none (h := h) (x := 0)
  have z17q : Val h16 ∧ LfOK h16 ∧ htq h16 = 0 ∧ binq h16 = 0 ∧ opnq h16 = 0 := by rw [wh16, wh13, wh10, wh7]; exact q_none
  obtain ⟨z18, z19, z20, z21, z22⟩ := z17q
  have z23 := bq_ge (h := h) (p := (0 : Int))
  refine to_iconst (dat dk_X12_readQuery 12 rfl) (to_istore_n (L' := [(0, .inr (.inr 60)), (1, .inl 0)]) (dat dk_X12_readQuery 13 rfl) (by decide) rfl (to_iconst (dat dk_X12_readQuery 14 rfl) (to_istore_n (L' := [(0, .inr (.inr 60)), (1, .inl 0), (2, .inl 0)]) (dat dk_X12_readQuery 15 rfl) (by decide) rfl (to_iconst (dat dk_X12_readQuery 16 rfl) (to_istore_n (L' := [(0, .inr (.inr 60)), (1, .inl 0), (2, .inl 0), (3, .inl 0)]) (dat dk_X12_readQuery 17 rfl) (by decide) rfl (to_iconst (dat dk_X12_readQuery 18 rfl) (to_istore (L' := [(0, .inr (.inr 60)), (1, .inl 0), (2, .inl 0), (3, .inl 0), (4, .inl 0)]) (dat dk_X12_readQuery 19 rfl) (by decide) rfl ?_)))))))
  have e30 : h16.2.2 60 44 = x1 := (by rw [wh16]; exact (show h13.2.2 60 44 = x1 from (by rw [wh13]; exact (show h10.2.2 60 44 = x1 from (by rw [wh10]; exact (show h7.2.2 60 44 = x1 from (by rw [wh7]; exact ex1)))))))
  have e34 : h16.2.2 60 45 = (0 : Int) := (by rw [wh16]; exact (show h13.2.2 60 45 = (0 : Int) from (by rw [wh13]; exact (show h10.2.2 60 45 = (0 : Int) from (by rw [wh10]; exact (show h7.2.2 60 45 = (0 : Int) from (by rw [wh7]; exact wr_eq)))))))
  have e39 : h16.2.2 60 46 = (0 : Int) := (by rw [wh16]; exact (show h13.2.2 60 46 = (0 : Int) from (by rw [wh13]; exact (show h10.2.2 60 46 = (0 : Int) from (by rw [wh10]; exact wr_eq)))))
  have e40 : h16.2.2 60 47 = (0 : Int) := (by rw [wh16]; exact (show h13.2.2 60 47 = (0 : Int) from (by rw [wh13]; exact wr_eq)))
  have lp29_n45 : ∀ (n45 : Nat) (y24 : Int) (y25 : Int) (y26 : Int) (y27 : Int) (h28 : Hp), (I32 y24) → (y25 = 0 ∨ y25 = 1) → (y26 = 0 ∨ y26 = 1) → (I32 y27) → (Inv h28) → (Fr [89, 90, 91, 92, 93, 94, 95, 96, 245, 246, 247, 248] h h28) → (0 ≤ y24 ∧ y24 ≤ 20) → (0 ≤ y27 ∧ y27 ≤ h28.2.2 60 44) → (Val h28) → (LfOK h28) → (htq h28 ≤ h28.2.2 60 45) → (3 * h28.2.2 60 45 ≤ 2 * y27 + bq h y27) → (htq h28 = binq h28 + y25) → (opnq h28 = y24) → (h28.2.2 60 46 + h28.2.2 60 47 ≤ 2 * y27) → (h28.2.2 60 47 ≤ y27 + y24) → (y25 ≤ y26) → (h28.2.2 60 47 ≤ 1300 * y26) → (h28.2.2 60 44 - y27 ≤ (n45 : Int)) → To l E_X12_readQuery (29, [(0, .inr (.inr 60)), (1, .inl y24), (2, .inl y25), (3, .inl y26), (4, .inl y27)], [], h28, 0, 0) (Q_X12_readQuery h) := by
    intro n45
    induction n45 using Nat.strongRecOn with
    | _ n45 ihn45 =>
    intro y24 y25 y26 y27 h28 ry24 ry25 ry26 ry27 Ih28 fh28 c29 c31 c32 c33 c35 c36 c37 c38 c41 c42 c43 c44 c46
    replace ry25 := z_lin ry25
    replace ry26 := z_lin ry26
    have e47 : h28.2.2 60 44 = x1 := ((Fr.get fh28 (by have := hI.1.1; omega) rfl).trans ex1)
    obtain ⟨x48, ex48⟩ : ∃ y : Int, h28.2.2 60 45 = y := ⟨_, rfl⟩
    have rx48 := Ih28.atR (a := 60) (j := 45) rfl
    rw [ex48] at rx48
    obtain ⟨x49, ex49⟩ : ∃ y : Int, h28.2.2 60 46 = y := ⟨_, rfl⟩
    have rx49 := Ih28.atR (a := 60) (j := 46) rfl
    rw [ex49] at rx49
    obtain ⟨x50, ex50⟩ : ∃ y : Int, h28.2.2 60 47 = y := ⟨_, rfl⟩
    have rx50 := Ih28.atR (a := 60) (j := 47) rfl
    rw [ex50] at rx50
    refine to_iload (dat dk_X12_readQuery 20 rfl) rfl (to_aload_n (dat dk_X12_readQuery 21 rfl) rfl (to_getIv (y := x1) e47 g_c13_412 (dat dk_X12_readQuery 22 rfl) (Ih28.atS rfl) ?_))
    refine to_ige 362 (dat dk_X12_readQuery 23 rfl) rfl ry27 (by omega) (fun c51 => ?_) (fun c51 => ?_)
    · skip
      refine to_iload_n (dat dk_X12_readQuery 185 rfl) rfl ?_
      refine to_ifeq 383 (dat dk_X12_readQuery 186 rfl) rfl (z_i32 ry26) (fun c52 => ?_) (fun c52 => ?_)
      · skip
        refine to_aload_n (dat dk_X12_readQuery 196 rfl) rfl (to_iconst (dat dk_X12_readQuery 197 rfl) ?_)
        refine to_cV ca_c13_459 (dat dk_X12_readQuery 198 rfl) (ct_X12_unwind_vb l h28 Ih28 3 (by decide) (show h28.2.2 60 46 + h28.2.2 60 47 ≤ 3000 by omega) c32 (show htq h28 - binq h28 = 1 ∨ h28.2.2 60 47 = 0 by omega)) rfl ⟨_, _, rfl, (Ih28.atS rfl)⟩ rfl (fun h54 p55 => ?_)
        obtain ⟨Ih54, fh54, p55_0, p55_1, p55_2, p55_3, p55_4, p55_5, p55_6⟩ := p55
        have f56 : Fr [89, 90, 91, 92, 93, 94, 95, 96, 245, 246, 247, 248] h h54 := Fr.sub fh28 fh54 rfl
        have t57 : LfOK h54 := LfOK_fr fh54 Ih28 rfl c33
        obtain ⟨x58, ex58⟩ : ∃ y : Int, h54.2.2 60 46 = y := ⟨_, rfl⟩
        have rx58 := Ih54.atR (a := 60) (j := 46) rfl
        rw [ex58] at rx58
        obtain ⟨x59, ex59⟩ : ∃ y : Int, h54.2.2 60 47 = y := ⟨_, rfl⟩
        have rx59 := Ih54.atR (a := 60) (j := 47) rfl
        rw [ex59] at rx59
        refine to_iconst (dat dk_X12_readQuery 199 rfl) ?_
        exact to_zret rfl (dat dk_X12_readQuery 200 rfl) (by decide) (ri_mk (by decide) ⟨Ih54, f56, (by decide), p55_0, t57⟩)
      · skip
        replace c52 := z_one ry26 c52
        refine to_iload_n (dat dk_X12_readQuery 187 rfl) rfl ?_
        refine to_ifeq 374 (dat dk_X12_readQuery 188 rfl) rfl (z_i32 ry25) (fun c60 => ?_) (fun c60 => ?_)
        · skip
          refine to_aload_n (dat dk_X12_readQuery 191 rfl) rfl (to_aload_n (dat dk_X12_readQuery 192 rfl) rfl (to_getIv (y := x1) e47 g_c13_412 (dat dk_X12_readQuery 193 rfl) (Ih28.atS rfl) ?_))
          refine to_cI ca_c13_456 (dat dk_X12_readQuery 194 rfl) (ct_X12_refuse l h28 Ih28 x1 (by omega) (show 0 ≤ x1 ∧ x1 ≤ 1200 by omega)) rfl ⟨_, _, rfl, (Ih28.atS rfl)⟩ rfl (fun x61 h62 rx61 p63 => ?_)
          obtain ⟨Ih62, fh62, zx61, p63_0⟩ := p63
          have f64 : Fr [89, 90, 91, 92, 93, 94, 95, 96, 245, 246, 247, 248] h h62 := Fr.sub fh28 fh62 rfl
          have t65 : Val h62 := Val_fr fh62 Ih28 rfl c32
          have t66 : LfOK h62 := LfOK_fr fh62 Ih28 rfl c33
          have t67 : htq h62 = htq h28 := htq_fr fh62 Ih28 rfl
          have t68 : binq h62 = binq h28 := binq_fr fh62 Ih28 rfl
          have t69 : opnq h62 = opnq h28 := opnq_fr fh62 Ih28 rfl
          have rzx61 := z_lin zx61
          clear zx61
          clear rx61
          have rx61 := rzx61
          clear rzx61
          exact to_zret rfl (dat dk_X12_readQuery 195 rfl) (by omega) (ri_mk (z_i32 rx61) ⟨Ih62, f64, (by omega), t65, t66⟩)
        · skip
          replace c60 := z_one ry25 c60
          refine to_iload_n (dat dk_X12_readQuery 189 rfl) rfl ?_
          refine to_ifle 383 (dat dk_X12_readQuery 190 rfl) rfl ry24 (fun c70 => ?_) (fun c70 => ?_)
          · skip
            refine to_aload_n (dat dk_X12_readQuery 196 rfl) rfl (to_iconst (dat dk_X12_readQuery 197 rfl) ?_)
            refine to_cV ca_c13_459 (dat dk_X12_readQuery 198 rfl) (ct_X12_unwind_vb l h28 Ih28 3 (by decide) (show h28.2.2 60 46 + h28.2.2 60 47 ≤ 3000 by omega) c32 (show htq h28 - binq h28 = 1 ∨ h28.2.2 60 47 = 0 by omega)) rfl ⟨_, _, rfl, (Ih28.atS rfl)⟩ rfl (fun h72 p73 => ?_)
            obtain ⟨Ih72, fh72, p73_0, p73_1, p73_2, p73_3, p73_4, p73_5, p73_6⟩ := p73
            have f74 : Fr [89, 90, 91, 92, 93, 94, 95, 96, 245, 246, 247, 248] h h72 := Fr.sub fh28 fh72 rfl
            have t75 : LfOK h72 := LfOK_fr fh72 Ih28 rfl c33
            obtain ⟨x76, ex76⟩ : ∃ y : Int, h72.2.2 60 46 = y := ⟨_, rfl⟩
            have rx76 := Ih72.atR (a := 60) (j := 46) rfl
            rw [ex76] at rx76
            obtain ⟨x77, ex77⟩ : ∃ y : Int, h72.2.2 60 47 = y := ⟨_, rfl⟩
            have rx77 := Ih72.atR (a := 60) (j := 47) rfl
            rw [ex77] at rx77
            refine to_iconst (dat dk_X12_readQuery 199 rfl) ?_
            exact to_zret rfl (dat dk_X12_readQuery 200 rfl) (by decide) (ri_mk (by decide) ⟨Ih72, f74, (by decide), p73_0, t75⟩)
          · skip
            refine to_aload_n (dat dk_X12_readQuery 191 rfl) rfl (to_aload_n (dat dk_X12_readQuery 192 rfl) rfl (to_getIv (y := x1) e47 g_c13_412 (dat dk_X12_readQuery 193 rfl) (Ih28.atS rfl) ?_))
            refine to_cI ca_c13_456 (dat dk_X12_readQuery 194 rfl) (ct_X12_refuse l h28 Ih28 x1 (by omega) (show 0 ≤ x1 ∧ x1 ≤ 1200 by omega)) rfl ⟨_, _, rfl, (Ih28.atS rfl)⟩ rfl (fun x78 h79 rx78 p80 => ?_)
            obtain ⟨Ih79, fh79, zx78, p80_0⟩ := p80
            have f81 : Fr [89, 90, 91, 92, 93, 94, 95, 96, 245, 246, 247, 248] h h79 := Fr.sub fh28 fh79 rfl
            have t82 : Val h79 := Val_fr fh79 Ih28 rfl c32
            have t83 : LfOK h79 := LfOK_fr fh79 Ih28 rfl c33
            have t84 : htq h79 = htq h28 := htq_fr fh79 Ih28 rfl
            have t85 : binq h79 = binq h28 := binq_fr fh79 Ih28 rfl
            have t86 : opnq h79 = opnq h28 := opnq_fr fh79 Ih28 rfl
            have rzx78 := z_lin zx78
            clear zx78
            clear rx78
            have rx78 := rzx78
            clear rzx78
            exact to_zret rfl (dat dk_X12_readQuery 195 rfl) (by omega) (ri_mk (z_i32 rx78) ⟨Ih79, f81, (by omega), t82, t83⟩)
    · skip
      have z87 := bq_ge (h := h) (p := y27)
      refine to_aload_n (dat dk_X12_readQuery 24 rfl) rfl (to_getR 88 g_c13_100 (dat dk_X12_readQuery 25 rfl) (Ih28.atS rfl) (Ih28.atE rfl) (to_iload (dat dk_X12_readQuery 26 rfl) rfl ?_))
      obtain ⟨x88, ex88⟩ : ∃ y : Int, h28.2.2 88 (Int.toNat y27) = y := ⟨_, rfl⟩
      have rx88 := Ih28.atR (a := 88) (j := Int.toNat y27) rfl
      rw [ex88] at rx88
      refine to_baldv (q := 1) ex88 (dat dk_X12_readQuery 27 rfl) (by decide) (Ih28.atS rfl) rfl (by decide) (by omega) ?_
      have k89 : h.2.2 88 (Int.toNat y27) = x88 := (Fr.getF fh28 hI (by decide) rfl).symm.trans ex88
      refine to_cI ca_c13_182 (dat dk_X12_readQuery 28 rfl) (ct_X12_isBlank_vb l h28 Ih28 x88 (by omega)) rfl trivial rfl (fun x90 h91 rx90 p92 => ?_)
      obtain ⟨rfl, zx90, p92_0⟩ := p92
      have rzx90 := z_lin zx90
      clear zx90
      clear rx90
      have rx90 := rzx90
      clear rzx90
      refine to_ifeq 57 (dat dk_X12_readQuery 29 rfl) rfl (z_i32 rx90) (fun c93 => ?_) (fun c93 => ?_)
      · skip
        refine to_iconst (dat dk_X12_readQuery 32 rfl) (to_istore_n (L' := [(0, .inr (.inr 60)), (1, .inl y24), (2, .inl y25), (3, .inl 1), (4, .inl y27)]) (dat dk_X12_readQuery 33 rfl) (by decide) rfl (to_aload_n (dat dk_X12_readQuery 34 rfl) rfl (to_iload (dat dk_X12_readQuery 35 rfl) rfl ?_)))
        refine to_cI ca_c13_443 (dat dk_X12_readQuery 36 rfl) (ct_X12_wordEnd_vb l h28 Ih28 y27 ry27 (show 0 ≤ y27 ∧ y27 ≤ h28.2.2 60 44 by omega)) rfl ⟨_, _, rfl, (Ih28.atS rfl)⟩ rfl (fun x94 h95 rx94 p96 => ?_)
        obtain ⟨rfl, p96_0, p96_1, p96_2⟩ := p96
        refine to_istore (L' := [(0, .inr (.inr 60)), (1, .inl y24), (2, .inl y25), (3, .inl 1), (4, .inl y27), (5, .inl x94)]) (dat dk_X12_readQuery 37 rfl) (by decide) rfl ?_
        rw [show h28.2.2 88 = h.2.2 88 from fh28.arr hI (by decide) (fun _ => rfl)] at p96_1
        rw [show h28.2.2 88 = h.2.2 88 from fh28.arr hI (by decide) (fun _ => rfl)] at p96_2
        rw [show h28.2.2 60 44 = h.2.2 60 44 by omega] at p96_1 p96_2
        have z97 := sp_c (h.2.2 88 (Int.toNat y27))
        refine to_aload_n (dat dk_X12_readQuery 38 rfl) rfl (to_getR 88 g_c13_100 (dat dk_X12_readQuery 39 rfl) (Ih28.atS rfl) (Ih28.atE rfl) (to_iload (dat dk_X12_readQuery 40 rfl) rfl (to_iload (dat dk_X12_readQuery 41 rfl) rfl (to_gst (C := "MailArchiveModel") (f9 := "WORD_OR") (d9 := "[I") (List.mem_of_getElem? (i := 17) rfl) (tin 7 194 (by decide +kernel) rfl) (dat dk_X12_readQuery 42 rfl) ?_))))
        refine to_cI ca_c13_449 (dat dk_X12_readQuery 43 rfl) (ct_X12_just_vb l h28 Ih28 88 1200 rfl y27 ry27 x94 rx94 1000216 2 (List.mem_of_getElem? (i := 15) rfl) (show 0 ≤ y27 ∧ y27 ≤ 640000 by omega) (show -1 ≤ x94 ∧ x94 ≤ (1200 : Int) by omega)) rfl trivial rfl (fun x98 h99 rx98 p100 => ?_)
        obtain ⟨rfl, zx98, p100_0⟩ := p100
        have rzx98 := z_lin zx98
        clear zx98
        clear rx98
        have rx98 := rzx98
        clear rzx98
        refine to_istore (L' := [(0, .inr (.inr 60)), (1, .inl y24), (2, .inl y25), (3, .inl 1), (4, .inl y27), (5, .inl x94), (6, .inl x98)]) (dat dk_X12_readQuery 44 rfl) (by decide) rfl (to_aload_n (dat dk_X12_readQuery 45 rfl) rfl (to_getR 88 g_c13_100 (dat dk_X12_readQuery 46 rfl) (Ih28.atS rfl) (Ih28.atE rfl) (to_iload (dat dk_X12_readQuery 47 rfl) rfl (to_iload (dat dk_X12_readQuery 48 rfl) rfl (to_gst (C := "MailArchiveModel") (f9 := "WORD_AND") (d9 := "[I") (List.mem_of_getElem? (i := 15) rfl) (tin 7 199 (by decide +kernel) rfl) (dat dk_X12_readQuery 49 rfl) ?_)))))
        refine to_cI ca_c13_449 (dat dk_X12_readQuery 50 rfl) (ct_X12_just_vb l h28 Ih28 88 1200 rfl y27 ry27 x94 rx94 1000214 3 (List.mem_of_getElem? (i := 13) rfl) (show 0 ≤ y27 ∧ y27 ≤ 640000 by omega) (show -1 ≤ x94 ∧ x94 ≤ (1200 : Int) by omega)) rfl trivial rfl (fun x101 h102 rx101 p103 => ?_)
        obtain ⟨rfl, zx101, p103_0⟩ := p103
        have rzx101 := z_lin zx101
        clear zx101
        clear rx101
        have rx101 := rzx101
        clear rzx101
        refine to_istore (L' := [(0, .inr (.inr 60)), (1, .inl y24), (2, .inl y25), (3, .inl 1), (4, .inl y27), (5, .inl x94), (6, .inl x98), (7, .inl x101)]) (dat dk_X12_readQuery 51 rfl) (by decide) rfl ?_
        have jn116_n106 : ∀ (y104 : Int), (y104 = 0 ∨ y104 = 1) → ((y104 = 1 ∧ h.2.2 88 (Int.toNat y27) = 41) ∨ (y104 = 0 ∧ h.2.2 88 (Int.toNat y27) ≠ 41)) → To l E_X12_readQuery (116, [(0, .inr (.inr 60)), (1, .inl y24), (2, .inl y25), (3, .inl 1), (4, .inl y27), (5, .inl x94), (6, .inl x98), (7, .inl x101)], [.inl y104], h28, 0, 0) (Q_X12_readQuery h) := by
          intro y104 ry104 c105
          replace ry104 := z_lin ry104
          refine to_istore (L' := [(0, .inr (.inr 60)), (1, .inl y24), (2, .inl y25), (3, .inl 1), (4, .inl y27), (5, .inl x94), (6, .inl x98), (7, .inl x101), (8, .inl y104)]) (dat dk_X12_readQuery 61 rfl) (by decide) rfl ?_
          have jn133_n111 : (y27 < h28.2.2 60 44 ∧ y27 ≤ x94 ∧ x94 ≤ h28.2.2 60 44) → (y27 + 2 ≤ x94 + 2 * y104) → (x98 + y104 ≤ 1) → (x101 + y104 ≤ 1) → To l E_X12_readQuery (133, [(0, .inr (.inr 60)), (1, .inl y24), (2, .inl y25), (3, .inl 1), (4, .inl y27), (5, .inl x94), (6, .inl x98), (7, .inl x101), (8, .inl y104)], [], h28, 0, 0) (Q_X12_readQuery h) := by
            intro  c107 c108 c109 c110
            try clear c51
            try clear z87
            try clear k89
            try clear p92
            try clear p92_0
            try clear c93
            try clear p96
            try clear p96_0
            try clear p96_1
            try clear p96_2
            try clear z97
            try clear p100
            try clear p100_0
            try clear p103
            try clear p103_0
            have jn153_n114 : (y25 = 1) → (y104 ≤ y24) → To l E_X12_readQuery (153, [(0, .inr (.inr 60)), (1, .inl y24), (2, .inl y25), (3, .inl 1), (4, .inl y27), (5, .inl x94), (6, .inl x98), (7, .inl x101), (8, .inl y104)], [], h28, 0, 0) (Q_X12_readQuery h) := by
              intro  c112 c113
              refine to_aload_n (dat dk_X12_readQuery 78 rfl) rfl ?_
              have jn164_n118 : ∀ (y115 : Int), (I32 y115) → (2 ≤ y115 ∧ y115 ≤ 3) → (2 + y104 ≤ y115) → To l E_X12_readQuery (164, [(0, .inr (.inr 60)), (1, .inl y24), (2, .inl y25), (3, .inl 1), (4, .inl y27), (5, .inl x94), (6, .inl x98), (7, .inl x101), (8, .inl y104)], [.inl y115, .inr (.inr 60)], h28, 0, 0) (Q_X12_readQuery h) := by
                intro y115 ry115 c116 c117
                refine to_cV ca_c13_459 (dat dk_X12_readQuery 84 rfl) (ct_X12_unwind_vb l h28 Ih28 y115 ry115 (show h28.2.2 60 46 + h28.2.2 60 47 ≤ 3000 by omega) c32 (show htq h28 - binq h28 = 1 ∨ h28.2.2 60 47 = 0 by omega)) rfl ⟨_, _, rfl, (Ih28.atS rfl)⟩ rfl (fun h120 p121 => ?_)
                obtain ⟨Ih120, fh120, p121_0, p121_1, p121_2, p121_3, p121_4, p121_5, p121_6⟩ := p121
                have f122 : Fr [89, 90, 91, 92, 93, 94, 95, 96, 245, 246, 247, 248] h h120 := Fr.sub fh28 fh120 rfl
                have t123 : LfOK h120 := LfOK_fr fh120 Ih28 rfl c33
                obtain ⟨x124, ex124⟩ : ∃ y : Int, h120.2.2 60 46 = y := ⟨_, rfl⟩
                have rx124 := Ih120.atR (a := 60) (j := 46) rfl
                rw [ex124] at rx124
                obtain ⟨x125, ex125⟩ : ∃ y : Int, h120.2.2 60 47 = y := ⟨_, rfl⟩
                have rx125 := Ih120.atR (a := 60) (j := 47) rfl
                rw [ex125] at rx125
                have jn199_n138 : ∀ (h126 : Hp), (Inv h126) → (Fr [89, 90, 91, 92, 93, 94, 95, 96, 245, 246, 247, 248] h h126) → (Val h126) → (LfOK h126) → (htq h126 ≤ h126.2.2 60 45) → (3 * h126.2.2 60 45 ≤ 2 * y27 + bq h y27) → (y27 < h126.2.2 60 44 ∧ y27 ≤ x94 ∧ x94 ≤ h126.2.2 60 44) → (y27 + 2 ≤ x94 + 2 * y104) → (y104 ≤ y24) → (htq h126 = binq h126 + y104) → (opnq h126 = y24 - y104) → (h126.2.2 60 46 + h126.2.2 60 47 ≤ 2 * y27 + 1) → (h126.2.2 60 47 ≤ y27 + y24 + 1 - 2 * y104) → To l E_X12_readQuery (199, [(0, .inr (.inr 60)), (1, .inl y24), (2, .inl y25), (3, .inl 1), (4, .inl y27), (5, .inl x94), (6, .inl x98), (7, .inl x101), (8, .inl y104)], [], h126, 0, 0) (Q_X12_readQuery h) := by
                  intro h126 Ih126 fh126 c127 c128 c129 c130 c131 c132 c133 c134 c135 c136 c137
                  try clear p121
                  try clear p121_0
                  try clear p121_1
                  try clear p121_2
                  try clear p121_3
                  try clear p121_4
                  try clear p121_5
                  try clear p121_6
                  try clear t123
                  obtain ⟨x139, ex139⟩ : ∃ y : Int, h126.2.2 60 45 = y := ⟨_, rfl⟩
                  have rx139 := Ih126.atR (a := 60) (j := 45) rfl
                  rw [ex139] at rx139
                  have e140 : h126.2.2 60 44 = x1 := ((Fr.get fh126 (by have := hI.1.1; omega) rfl).trans ex1)
                  obtain ⟨x141, ex141⟩ : ∃ y : Int, h126.2.2 60 46 = y := ⟨_, rfl⟩
                  have rx141 := Ih126.atR (a := 60) (j := 46) rfl
                  rw [ex141] at rx141
                  obtain ⟨x142, ex142⟩ : ∃ y : Int, h126.2.2 60 47 = y := ⟨_, rfl⟩
                  have rx142 := Ih126.atR (a := 60) (j := 47) rfl
                  rw [ex142] at rx142
                  have z143 := bq_ge (h := h) (p := y27)
                  refine to_iload_n (dat dk_X12_readQuery 101 rfl) rfl ?_
                  have jn210_n146 : ∀ (y144 : Int), (y144 = 0 ∨ y144 = 1) → (y144 = y104) → To l E_X12_readQuery (210, [(0, .inr (.inr 60)), (1, .inl y24), (2, .inl y25), (3, .inl 1), (4, .inl y27), (5, .inl x94), (6, .inl x98), (7, .inl x101), (8, .inl y104)], [.inl y144, .inl y24], h126, 0, 0) (Q_X12_readQuery h) := by
                    intro y144 ry144 c145
                    replace ry144 := z_lin ry144
                    refine to_isub (dat dk_X12_readQuery 107 rfl) (to_istore_n (L' := [(0, .inr (.inr 60)), (1, .inl (y24 - y144)), (2, .inl y25), (3, .inl 1), (4, .inl y27), (5, .inl x94), (6, .inl x98), (7, .inl x101), (8, .inl y104)]) (dat dk_X12_readQuery 108 rfl) (by decide) rfl (to_iload (dat dk_X12_readQuery 109 rfl) rfl (to_istore_n (L' := [(0, .inr (.inr 60)), (1, .inl (y24 - y144)), (2, .inl y104), (3, .inl 1), (4, .inl y27), (5, .inl x94), (6, .inl x98), (7, .inl x101), (8, .inl y104)]) (dat dk_X12_readQuery 110 rfl) (by decide) rfl ?_)))
                    have jn229_n149 : ∀ (y147 : Int), (I32 y147) → (y27 + 1 ≤ y147 ∧ y147 ≤ h126.2.2 60 44) → To l E_X12_readQuery (229, [(0, .inr (.inr 60)), (1, .inl (y24 - y144)), (2, .inl y104), (3, .inl 1), (4, .inl y27), (5, .inl x94), (6, .inl x98), (7, .inl x101), (8, .inl y104)], [.inl y147], h126, 0, 0) (Q_X12_readQuery h) := by
                      intro y147 ry147 c148
                      refine to_istore (L' := [(0, .inr (.inr 60)), (1, .inl (y24 - y144)), (2, .inl y104), (3, .inl 1), (4, .inl y147), (5, .inl x94), (6, .inl x98), (7, .inl x101), (8, .inl y104)]) (dat dk_X12_readQuery 118 rfl) (by decide) rfl ?_
                      have z150 := bq_ge (h := h) (p := y147)
                      refine to_goto (dat dk_X12_readQuery 119 rfl) rfl ?_
                      refine to_pick [0, 1, 2, 3, 4] rfl ?_
                      exact ihn45 (n45 - 1) (by omega) (y24 - y144) y104 1 y147 h126 (by omega) (by omega) (by decide) ry147 Ih126 fh126 (show 0 ≤ (y24 - y144) ∧ (y24 - y144) ≤ 20 by omega) (show 0 ≤ y147 ∧ y147 ≤ h126.2.2 60 44 by omega) c127 c128 (show htq h126 ≤ h126.2.2 60 45 by omega) (show 3 * h126.2.2 60 45 ≤ 2 * y147 + bq h y147 by omega) (show htq h126 = binq h126 + y104 by omega) (show opnq h126 = (y24 - y144) by omega) (show h126.2.2 60 46 + h126.2.2 60 47 ≤ 2 * y147 by omega) (show h126.2.2 60 47 ≤ y147 + (y24 - y144) by omega) (show y104 ≤ (1 : Int) by omega) (show h126.2.2 60 47 ≤ 1300 * (1 : Int) by omega) (show h126.2.2 60 44 - y147 ≤ ((n45 - 1 : Nat) : Int) by omega)
                    refine to_iload (dat dk_X12_readQuery 111 rfl) rfl ?_
                    refine to_ifeq 227 (dat dk_X12_readQuery 112 rfl) rfl (z_i32 ry104) (fun c151 => ?_) (fun c151 => ?_)
                    · skip
                      refine to_iload (dat dk_X12_readQuery 117 rfl) rfl ?_
                      exact jn229_n149 x94 rx94 (show y27 + 1 ≤ x94 ∧ x94 ≤ h126.2.2 60 44 by omega)
                    · skip
                      replace c151 := z_one ry104 c151
                      refine to_iload (dat dk_X12_readQuery 113 rfl) rfl (to_iconst (dat dk_X12_readQuery 114 rfl) (to_iadd (dat dk_X12_readQuery 115 rfl) (to_goto (dat dk_X12_readQuery 116 rfl) rfl ?_)))
                      exact jn229_n149 (y27 + 1) (by omega) (show y27 + 1 ≤ (y27 + 1) ∧ (y27 + 1) ≤ h126.2.2 60 44 by omega)
                  refine to_iload (dat dk_X12_readQuery 102 rfl) rfl ?_
                  refine to_ifeq 209 (dat dk_X12_readQuery 103 rfl) rfl (z_i32 ry104) (fun c152 => ?_) (fun c152 => ?_)
                  · skip
                    refine to_iconst (dat dk_X12_readQuery 106 rfl) ?_
                    exact jn210_n146 0 (by decide) (show (0 : Int) = y104 by omega)
                  · skip
                    replace c152 := z_one ry104 c152
                    refine to_iconst (dat dk_X12_readQuery 104 rfl) (to_goto (dat dk_X12_readQuery 105 rfl) rfl ?_)
                    exact jn210_n146 1 (by decide) (show (1 : Int) = y104 by omega)
                refine to_iload (dat dk_X12_readQuery 85 rfl) rfl ?_
                refine to_ifeq 185 (dat dk_X12_readQuery 86 rfl) rfl (z_i32 ry104) (fun c153 => ?_) (fun c153 => ?_)
                · skip
                  refine to_aload_n (dat dk_X12_readQuery 94 rfl) rfl ?_
                  have jn196_n156 : ∀ (y154 : Int), (I32 y154) → (2 ≤ y154 ∧ y154 ≤ 3) → To l E_X12_readQuery (196, [(0, .inr (.inr 60)), (1, .inl y24), (2, .inl y25), (3, .inl 1), (4, .inl y27), (5, .inl x94), (6, .inl x98), (7, .inl x101), (8, .inl y104)], [.inl y154, .inr (.inr 60)], h120, 0, 0) (Q_X12_readQuery h) := by
                    intro y154 ry154 c155
                    refine to_cV ca_c13_462 (dat dk_X12_readQuery 100 rfl) (ct_X12_later_vb l h120 Ih120 y154 ry154 (show 0 ≤ y154 ∧ y154 ≤ 4 by omega) (show h120.2.2 60 47 ≤ 1299 by omega)) rfl ⟨_, _, rfl, (Ih120.atS rfl)⟩ rfl (fun h158 p159 => ?_)
                    obtain ⟨Ih158, fh158, p159_0, p159_1⟩ := p159
                    have f160 : Fr [89, 90, 91, 92, 93, 94, 95, 96, 245, 246, 247, 248] h h158 := Fr.sub f122 fh158 rfl
                    have t161 : Val h158 := Val_fr fh158 Ih120 rfl p121_0
                    have t162 : LfOK h158 := LfOK_fr fh158 Ih120 rfl t123
                    have t163 : htq h158 = htq h120 := htq_fr fh158 Ih120 rfl
                    obtain ⟨x164, ex164⟩ : ∃ y : Int, h158.2.2 60 47 = y := ⟨_, rfl⟩
                    have rx164 := Ih158.atR (a := 60) (j := 47) rfl
                    rw [ex164] at rx164
                    have q165 := LaterP.sums p159_1 (Ih120.atR (a := 60) (j := 47) rfl).1
                    have q166 := bn23 (s := y154) (by omega)
                    have e167 : h158.2.2 60 45 = x48 := ((Fr.get fh158 (by have := Ih120.1.1; omega) rfl).trans ((Fr.get fh120 (by have := Ih28.1.1; omega) rfl).trans ex48))
                    have e168 : h158.2.2 60 44 = x1 := ((Fr.get fh158 (by have := Ih120.1.1; omega) rfl).trans ((Fr.get fh120 (by have := Ih28.1.1; omega) rfl).trans e47))
                    have e169 : h158.2.2 60 46 = x124 := ((Fr.get fh158 (by have := Ih120.1.1; omega) rfl).trans ex124)
                    exact jn199_n138 h158 Ih158 f160 t161 t162 (show htq h158 ≤ h158.2.2 60 45 by omega) (show 3 * h158.2.2 60 45 ≤ 2 * y27 + bq h y27 by omega) (show y27 < h158.2.2 60 44 ∧ y27 ≤ x94 ∧ x94 ≤ h158.2.2 60 44 by omega) (show y27 + 2 ≤ x94 + 2 * y104 by omega) (show y104 ≤ y24 by omega) (show htq h158 = binq h158 + y104 by omega) (show opnq h158 = y24 - y104 by omega) (show h158.2.2 60 46 + h158.2.2 60 47 ≤ 2 * y27 + 1 by omega) (show h158.2.2 60 47 ≤ y27 + y24 + 1 - 2 * y104 by omega)
                  refine to_iload (dat dk_X12_readQuery 95 rfl) rfl ?_
                  refine to_ifeq 195 (dat dk_X12_readQuery 96 rfl) rfl (z_i32 rx98) (fun c170 => ?_) (fun c170 => ?_)
                  · skip
                    refine to_iconst (dat dk_X12_readQuery 99 rfl) ?_
                    exact jn196_n156 2 (by decide) (show 2 ≤ (2 : Int) ∧ (2 : Int) ≤ 3 by omega)
                  · skip
                    replace c170 := z_one rx98 c170
                    refine to_iconst (dat dk_X12_readQuery 97 rfl) (to_goto (dat dk_X12_readQuery 98 rfl) rfl ?_)
                    exact jn196_n156 3 (by decide) (show 2 ≤ (3 : Int) ∧ (3 : Int) ≤ 3 by omega)
                · skip
                  replace c153 := z_one ry104 c153
                  have z171 : 0 < x125 := pile_pos ex125 (by omega)
                  have z172 : h120.2.2 96 (x125 - 1).toNat = 4 := by
                    rw [fh120.arr Ih28 (a := 96) (by decide) (fun _ => rfl)]
                    exact UTop.top (by rw [← ex125]; exact p121_6) (by omega) Ih28 z171
                  refine to_aload_n (dat dk_X12_readQuery 87 rfl) rfl (to_dup (dat dk_X12_readQuery 88 rfl) rfl (to_getIv (y := x125) ex125 g_c13_406 (dat dk_X12_readQuery 89 rfl) (Ih120.atS rfl) (to_iconst (dat dk_X12_readQuery 90 rfl) (to_isub (dat dk_X12_readQuery 91 rfl) (to_putIw p_c13_406 (dat dk_X12_readQuery 92 rfl) (Ih120.atS rfl) ?_)))))
                  intro h175 wh175
                  have I173 : Inv h175 := by rw [wh175]; exact Ih120.put (a := 60) (j := 47) (x := (x125 - 1)) (0) (1300) rfl rfl (show (0 : Int) ≤ (x125 - 1) ∧ (x125 - 1) ≤ 1300 by omega)
                  have f174 : Fr [89, 90, 91, 92, 93, 94, 95, 96, 245, 246, 247, 248] h h175 := by rw [wh175]; exact Fr.putF (a := 60) (j := 47) (x := (x125 - 1)) f122 rfl
                  have t176 : Val h175 := by rw [wh175]; exact Val_wr rfl p121_0
                  have t177 : LfOK h175 := by rw [wh175]; exact LfOK_wr rfl t123
                  have t178 : htq h175 = htq h120 := by rw [wh175]; exact htq_wr rfl
                  have z179 := pile_open ex125 z171 wh175 z172
                  refine to_goto (dat dk_X12_readQuery 93 rfl) rfl ?_
                  have e180 : h175.2.2 60 45 = x48 := (by rw [wh175]; exact (show h120.2.2 60 45 = x48 from ((Fr.get fh120 (by have := Ih28.1.1; omega) rfl).trans ex48)))
                  have e181 : h175.2.2 60 44 = x1 := (by rw [wh175]; exact (show h120.2.2 60 44 = x1 from ((Fr.get fh120 (by have := Ih28.1.1; omega) rfl).trans e47)))
                  have e182 : h175.2.2 60 46 = x124 := (by rw [wh175]; exact ex124)
                  have e183 : h175.2.2 60 47 = (x125 - 1) := (by rw [wh175]; exact wr_eq)
                  exact jn199_n138 h175 I173 f174 t176 t177 (show htq h175 ≤ h175.2.2 60 45 by omega) (show 3 * h175.2.2 60 45 ≤ 2 * y27 + bq h y27 by omega) (show y27 < h175.2.2 60 44 ∧ y27 ≤ x94 ∧ x94 ≤ h175.2.2 60 44 by omega) (show y27 + 2 ≤ x94 + 2 * y104 by omega) (show y104 ≤ y24 by omega) (show htq h175 = binq h175 + y104 by omega) (show opnq h175 = y24 - y104 by omega) (show h175.2.2 60 46 + h175.2.2 60 47 ≤ 2 * y27 + 1 by omega) (show h175.2.2 60 47 ≤ y27 + y24 + 1 - 2 * y104 by omega)
              refine to_iload (dat dk_X12_readQuery 79 rfl) rfl ?_
              refine to_ifeq 163 (dat dk_X12_readQuery 80 rfl) rfl (z_i32 rx101) (fun c184 => ?_) (fun c184 => ?_)
              · skip
                refine to_iconst (dat dk_X12_readQuery 83 rfl) ?_
                exact jn164_n118 3 (by decide) (show 2 ≤ (3 : Int) ∧ (3 : Int) ≤ 3 by omega) (show 2 + y104 ≤ (3 : Int) by omega)
              · skip
                replace c184 := z_one rx101 c184
                refine to_iconst (dat dk_X12_readQuery 81 rfl) (to_goto (dat dk_X12_readQuery 82 rfl) rfl ?_)
                exact jn164_n118 2 (by decide) (show 2 ≤ (2 : Int) ∧ (2 : Int) ≤ 3 by omega) (show 2 + y104 ≤ (2 : Int) by omega)
            refine to_iload_n (dat dk_X12_readQuery 68 rfl) rfl ?_
            refine to_ifeq 146 (dat dk_X12_readQuery 69 rfl) rfl (z_i32 ry25) (fun c185 => ?_) (fun c185 => ?_)
            · skip
              refine to_aload_n (dat dk_X12_readQuery 74 rfl) rfl (to_iload (dat dk_X12_readQuery 75 rfl) rfl ?_)
              refine to_cI ca_c13_456 (dat dk_X12_readQuery 76 rfl) (ct_X12_refuse l h28 Ih28 y27 ry27 (show 0 ≤ y27 ∧ y27 ≤ 1200 by omega)) rfl ⟨_, _, rfl, (Ih28.atS rfl)⟩ rfl (fun x186 h187 rx186 p188 => ?_)
              obtain ⟨Ih187, fh187, zx186, p188_0⟩ := p188
              have f189 : Fr [89, 90, 91, 92, 93, 94, 95, 96, 245, 246, 247, 248] h h187 := Fr.sub fh28 fh187 rfl
              have t190 : Val h187 := Val_fr fh187 Ih28 rfl c32
              have t191 : LfOK h187 := LfOK_fr fh187 Ih28 rfl c33
              have t192 : htq h187 = htq h28 := htq_fr fh187 Ih28 rfl
              have t193 : binq h187 = binq h28 := binq_fr fh187 Ih28 rfl
              have t194 : opnq h187 = opnq h28 := opnq_fr fh187 Ih28 rfl
              have rzx186 := z_lin zx186
              clear zx186
              clear rx186
              have rx186 := rzx186
              clear rzx186
              exact to_zret rfl (dat dk_X12_readQuery 77 rfl) (by omega) (ri_mk (z_i32 rx186) ⟨Ih187, f189, (by omega), t190, t191⟩)
            · skip
              replace c185 := z_one ry25 c185
              refine to_iload (dat dk_X12_readQuery 70 rfl) rfl ?_
              refine to_ifeq 153 (dat dk_X12_readQuery 71 rfl) rfl (z_i32 ry104) (fun c195 => ?_) (fun c195 => ?_)
              · skip
                exact jn153_n114  (show y25 = 1 by omega) (show y104 ≤ y24 by omega)
              · skip
                replace c195 := z_one ry104 c195
                refine to_iload_n (dat dk_X12_readQuery 72 rfl) rfl ?_
                refine to_ifne 153 (dat dk_X12_readQuery 73 rfl) rfl ry24 (fun c196 => ?_) (fun c196 => ?_)
                · skip
                  exact jn153_n114  (show y25 = 1 by omega) (show y104 ≤ y24 by omega)
                · skip
                  refine to_aload_n (dat dk_X12_readQuery 74 rfl) rfl (to_iload (dat dk_X12_readQuery 75 rfl) rfl ?_)
                  refine to_cI ca_c13_456 (dat dk_X12_readQuery 76 rfl) (ct_X12_refuse l h28 Ih28 y27 ry27 (show 0 ≤ y27 ∧ y27 ≤ 1200 by omega)) rfl ⟨_, _, rfl, (Ih28.atS rfl)⟩ rfl (fun x197 h198 rx197 p199 => ?_)
                  obtain ⟨Ih198, fh198, zx197, p199_0⟩ := p199
                  have f200 : Fr [89, 90, 91, 92, 93, 94, 95, 96, 245, 246, 247, 248] h h198 := Fr.sub fh28 fh198 rfl
                  have t201 : Val h198 := Val_fr fh198 Ih28 rfl c32
                  have t202 : LfOK h198 := LfOK_fr fh198 Ih28 rfl c33
                  have t203 : htq h198 = htq h28 := htq_fr fh198 Ih28 rfl
                  have t204 : binq h198 = binq h28 := binq_fr fh198 Ih28 rfl
                  have t205 : opnq h198 = opnq h28 := opnq_fr fh198 Ih28 rfl
                  have rzx197 := z_lin zx197
                  clear zx197
                  clear rx197
                  have rx197 := rzx197
                  clear rzx197
                  exact to_zret rfl (dat dk_X12_readQuery 77 rfl) (by omega) (ri_mk (z_i32 rx197) ⟨Ih198, f200, (by omega), t201, t202⟩)
          have jn234_n209 : (y27 < h28.2.2 60 44 ∧ y27 ≤ x94 ∧ x94 ≤ h28.2.2 60 44) → (QW h y27 x94) → (bq h x94 = 1) → To l E_X12_readQuery (234, [(0, .inr (.inr 60)), (1, .inl y24), (2, .inl y25), (3, .inl 1), (4, .inl y27), (5, .inl x94), (6, .inl x98), (7, .inl x101), (8, .inl y104)], [], h28, 0, 0) (Q_X12_readQuery h) := by
            intro  c206 c207 c208
            try clear c51
            try clear z87
            try clear k89
            try clear p92
            try clear p92_0
            try clear c93
            try clear p96
            try clear p96_0
            try clear p96_1
            try clear p96_2
            try clear z97
            try clear p100
            try clear p100_0
            try clear p103
            try clear p103_0
            have jn259_n214 : (y27 < h28.2.2 60 44 ∧ y27 ≤ x94 ∧ x94 ≤ h28.2.2 60 44) → (QW h y27 x94) → (bq h x94 = 1) → (NP h y27 y24) → To l E_X12_readQuery (259, [(0, .inr (.inr 60)), (1, .inl y24), (2, .inl y25), (3, .inl 1), (4, .inl y27), (5, .inl x94), (6, .inl x98), (7, .inl x101), (8, .inl y104)], [], h28, 0, 0) (Q_X12_readQuery h) := by
              intro  c210 c211 c212 c213
              have jn273_n228 : ∀ (h215 : Hp), (Inv h215) → (Fr [89, 90, 91, 92, 93, 94, 95, 96, 245, 246, 247, 248] h h215) → (Val h215) → (LfOK h215) → (htq h215 ≤ h215.2.2 60 45) → (3 * h215.2.2 60 45 ≤ 2 * y27 + bq h y27) → (y27 < h215.2.2 60 44 ∧ y27 ≤ x94 ∧ x94 ≤ h215.2.2 60 44) → (QW h y27 x94) → (bq h x94 = 1) → (NP h y27 y24) → (htq h215 = binq h215) → (opnq h215 = y24) → (h215.2.2 60 46 + h215.2.2 60 47 ≤ 2 * y27 + 1) → (h215.2.2 60 47 ≤ y27 + y24 + 1) → To l E_X12_readQuery (273, [(0, .inr (.inr 60)), (1, .inl y24), (2, .inl y25), (3, .inl 1), (4, .inl y27), (5, .inl x94), (6, .inl x98), (7, .inl x101), (8, .inl y104)], [], h215, 0, 0) (Q_X12_readQuery h) := by
                intro h215 Ih215 fh215 c216 c217 c218 c219 c220 c221 c222 c223 c224 c225 c226 c227
                obtain ⟨x229, ex229⟩ : ∃ y : Int, h215.2.2 60 45 = y := ⟨_, rfl⟩
                have rx229 := Ih215.atR (a := 60) (j := 45) rfl
                rw [ex229] at rx229
                have e230 : h215.2.2 60 44 = x1 := ((Fr.get fh215 (by have := hI.1.1; omega) rfl).trans ex1)
                obtain ⟨x231, ex231⟩ : ∃ y : Int, h215.2.2 60 46 = y := ⟨_, rfl⟩
                have rx231 := Ih215.atR (a := 60) (j := 46) rfl
                rw [ex231] at rx231
                obtain ⟨x232, ex232⟩ : ∃ y : Int, h215.2.2 60 47 = y := ⟨_, rfl⟩
                have rx232 := Ih215.atR (a := 60) (j := 47) rfl
                rw [ex232] at rx232
                refine to_iconst (dat dk_X12_readQuery 141 rfl) (to_istore_n (L' := [(0, .inr (.inr 60)), (1, .inl y24), (2, .inl 0), (3, .inl 1), (4, .inl y27), (5, .inl x94), (6, .inl x98), (7, .inl x101), (8, .inl y104)]) (dat dk_X12_readQuery 142 rfl) (by decide) rfl ?_)
                have z233 := bq_ge (h := h) (p := y27)
                refine to_aload_n (dat dk_X12_readQuery 143 rfl) rfl (to_getR 88 g_c13_100 (dat dk_X12_readQuery 144 rfl) (Ih215.atS rfl) (Ih215.atE rfl) (to_iload (dat dk_X12_readQuery 145 rfl) rfl ?_))
                obtain ⟨x234, ex234⟩ : ∃ y : Int, h215.2.2 88 (Int.toNat y27) = y := ⟨_, rfl⟩
                have rx234 := Ih215.atR (a := 88) (j := Int.toNat y27) rfl
                rw [ex234] at rx234
                refine to_baldv (q := 1) ex234 (dat dk_X12_readQuery 146 rfl) (by decide) (Ih215.atS rfl) rfl (by decide) (by omega) ?_
                have k235 : h.2.2 88 (Int.toNat y27) = x234 := (Fr.getF fh215 hI (by decide) rfl).symm.trans ex234
                refine to_bipush (dat dk_X12_readQuery 147 rfl) (by decide) ?_
                refine to_ine 301 (dat dk_X12_readQuery 148 rfl) rfl (by omega) (by decide) (fun c236 => ?_) (fun c236 => ?_)
                · skip
                  have z237 : h.2.2 88 (Int.toNat y27) ≠ 40 := by omega
                  refine to_aload_n (dat dk_X12_readQuery 155 rfl) rfl (to_getR 88 g_c13_100 (dat dk_X12_readQuery 156 rfl) (Ih215.atS rfl) (Ih215.atE rfl) (to_iload (dat dk_X12_readQuery 157 rfl) rfl (to_iload (dat dk_X12_readQuery 158 rfl) rfl (to_gst (C := "MailArchiveModel") (f9 := "WORD_NOT") (d9 := "[I") (List.mem_of_getElem? (i := 16) rfl) (tin 7 217 (by decide +kernel) rfl) (dat dk_X12_readQuery 159 rfl) ?_))))
                  refine to_cI ca_c13_449 (dat dk_X12_readQuery 160 rfl) (ct_X12_just_vb l h215 Ih215 88 1200 rfl y27 ry27 x94 rx94 1000215 3 (List.mem_of_getElem? (i := 14) rfl) (show 0 ≤ y27 ∧ y27 ≤ 640000 by omega) (show -1 ≤ x94 ∧ x94 ≤ (1200 : Int) by omega)) rfl trivial rfl (fun x238 h239 rx238 p240 => ?_)
                  obtain ⟨rfl, zx238, p240_0⟩ := p240
                  have rzx238 := z_lin zx238
                  clear zx238
                  clear rx238
                  have rx238 := rzx238
                  clear rzx238
                  refine to_ifeq 330 (dat dk_X12_readQuery 161 rfl) rfl (z_i32 rx238) (fun c241 => ?_) (fun c241 => ?_)
                  · skip
                    have z242 : x94 = h215.2.2 60 44 ∨ sp (h.2.2 88 (Int.toNat x94)) = 1 := by rw [show h215.2.2 60 44 = h.2.2 60 44 by omega]; exact bq_or c222
                    refine to_aload_n (dat dk_X12_readQuery 168 rfl) rfl (to_iload (dat dk_X12_readQuery 169 rfl) rfl (to_iload (dat dk_X12_readQuery 170 rfl) rfl ?_))
                    refine to_cI ca_c13_468 (dat dk_X12_readQuery 171 rfl) (ct_X12_one l h215 Ih215 y27 ry27 x94 rx94 (show 0 ≤ y27 ∧ y27 < h215.2.2 60 44 by omega) (show y27 ≤ x94 ∧ x94 ≤ h215.2.2 60 44 by omega) c216 c217 (show htq h215 ≤ h215.2.2 60 45 by omega) (show h215.2.2 60 45 ≤ 809 by omega) (show h215.2.2 60 46 ≤ 2999 by omega) (by rw [show h215.2.2 88 = h.2.2 88 from fh215.arr hI (by decide) (fun _ => rfl)]; exact z242) (by rw [show h215.2.2 88 = h.2.2 88 from fh215.arr hI (by decide) (fun _ => rfl)]; exact c221.one z237)) rfl ⟨_, _, rfl, (Ih215.atS rfl)⟩ rfl (fun x243 h244 rx243 p245 => ?_)
                    obtain ⟨Ih244, fh244, p245_0, p245_1, p245_2⟩ := p245
                    have f246 : Fr [89, 90, 91, 92, 93, 94, 95, 96, 245, 246, 247, 248] h h244 := Fr.sub fh215 fh244 rfl
                    have t247 : binq h244 = binq h215 := binq_fr fh244 Ih215 rfl
                    have t248 : opnq h244 = opnq h215 := opnq_fr fh244 Ih215 rfl
                    have e249 : h244.2.2 60 44 = x1 := ((Fr.get fh244 (by have := Ih215.1.1; omega) rfl).trans e230)
                    obtain ⟨x250, ex250⟩ : ∃ y : Int, h244.2.2 60 45 = y := ⟨_, rfl⟩
                    have rx250 := Ih244.atR (a := 60) (j := 45) rfl
                    rw [ex250] at rx250
                    obtain ⟨x251, ex251⟩ : ∃ y : Int, h244.2.2 60 46 = y := ⟨_, rfl⟩
                    have rx251 := Ih244.atR (a := 60) (j := 46) rfl
                    rw [ex251] at rx251
                    refine to_istore (L' := [(0, .inr (.inr 60)), (1, .inl y24), (2, .inl 0), (3, .inl 1), (4, .inl y27), (5, .inl x94), (6, .inl x98), (7, .inl x101), (8, .inl y104), (9, .inl x243)]) (dat dk_X12_readQuery 172 rfl) (by decide) rfl (to_iload (dat dk_X12_readQuery 173 rfl) rfl (to_iconst (dat dk_X12_readQuery 174 rfl) ?_))
                    refine to_ine 353 (dat dk_X12_readQuery 175 rfl) rfl rx243 (by decide) (fun c252 => ?_) (fun c252 => ?_)
                    · skip
                      replace p245_2 := p245_2.resolve_left (by omega)
                      obtain ⟨p245_2a, p245_2b, p245_2c, p245_2d, p245_2e, p245_2f⟩ := p245_2
                      rw [show h215.2.2 88 = h.2.2 88 from fh215.arr hI (by decide) (fun _ => rfl)] at p245_2f
                      have z253 := leaf_one (p := y27) (e := x94) p245_2a p245_2c p245_2f (by omega) c221 c222 z237
                      clear p245_2f
                      refine to_iconst (dat dk_X12_readQuery 180 rfl) (to_istore_n (L' := [(0, .inr (.inr 60)), (1, .inl y24), (2, .inl 1), (3, .inl 1), (4, .inl y27), (5, .inl x94), (6, .inl x98), (7, .inl x101), (8, .inl y104), (9, .inl x243)]) (dat dk_X12_readQuery 181 rfl) (by decide) rfl (to_iload (dat dk_X12_readQuery 182 rfl) rfl (to_istore (L' := [(0, .inr (.inr 60)), (1, .inl y24), (2, .inl 1), (3, .inl 1), (4, .inl x243), (5, .inl x94), (6, .inl x98), (7, .inl x101), (8, .inl y104), (9, .inl x243)]) (dat dk_X12_readQuery 183 rfl) (by decide) rfl (to_goto (dat dk_X12_readQuery 184 rfl) rfl ?_))))
                      refine to_pick [0, 1, 2, 3, 4] rfl ?_
                      have e254 : h244.2.2 60 47 = x232 := ((Fr.get fh244 (by have := Ih215.1.1; omega) rfl).trans ex232)
                      exact ihn45 (n45 - 1) (by omega) y24 1 1 x243 h244 ry24 (by decide) (by decide) rx243 Ih244 f246 (show 0 ≤ y24 ∧ y24 ≤ 20 by omega) (show 0 ≤ x243 ∧ x243 ≤ h244.2.2 60 44 by omega) p245_0 p245_1 (show htq h244 ≤ h244.2.2 60 45 by omega) (show 3 * h244.2.2 60 45 ≤ 2 * x243 + bq h x243 by omega) (show htq h244 = binq h244 + (1 : Int) by omega) (show opnq h244 = y24 by omega) (show h244.2.2 60 46 + h244.2.2 60 47 ≤ 2 * x243 by omega) (show h244.2.2 60 47 ≤ x243 + y24 by omega) (show (1 : Int) ≤ (1 : Int) by omega) (show h244.2.2 60 47 ≤ 1300 * (1 : Int) by omega) (show h244.2.2 60 44 - x243 ≤ ((n45 - 1 : Nat) : Int) by omega)
                    · skip
                      refine to_aload_n (dat dk_X12_readQuery 176 rfl) rfl (to_iload (dat dk_X12_readQuery 177 rfl) rfl ?_)
                      refine to_cI ca_c13_456 (dat dk_X12_readQuery 178 rfl) (ct_X12_refuse l h244 Ih244 y27 ry27 (show 0 ≤ y27 ∧ y27 ≤ 1200 by omega)) rfl ⟨_, _, rfl, (Ih244.atS rfl)⟩ rfl (fun x255 h256 rx255 p257 => ?_)
                      obtain ⟨Ih256, fh256, zx255, p257_0⟩ := p257
                      have f258 : Fr [89, 90, 91, 92, 93, 94, 95, 96, 245, 246, 247, 248] h h256 := Fr.sub f246 fh256 rfl
                      have t259 : Val h256 := Val_fr fh256 Ih244 rfl p245_0
                      have t260 : LfOK h256 := LfOK_fr fh256 Ih244 rfl p245_1
                      have t261 : htq h256 = htq h244 := htq_fr fh256 Ih244 rfl
                      have t262 : binq h256 = binq h244 := binq_fr fh256 Ih244 rfl
                      have t263 : opnq h256 = opnq h244 := opnq_fr fh256 Ih244 rfl
                      have rzx255 := z_lin zx255
                      clear zx255
                      clear rx255
                      have rx255 := rzx255
                      clear rzx255
                      exact to_zret rfl (dat dk_X12_readQuery 179 rfl) (by omega) (ri_mk (z_i32 rx255) ⟨Ih256, f258, (by omega), t259, t260⟩)
                  · skip
                    replace c241 := z_one rx238 c241
                    refine to_aload_n (dat dk_X12_readQuery 162 rfl) rfl (to_iconst (dat dk_X12_readQuery 163 rfl) ?_)
                    refine to_cV ca_c13_462 (dat dk_X12_readQuery 164 rfl) (ct_X12_later_vb l h215 Ih215 1 (by decide) (show 0 ≤ (1 : Int) ∧ (1 : Int) ≤ 4 by omega) (show h215.2.2 60 47 ≤ 1299 by omega)) rfl ⟨_, _, rfl, (Ih215.atS rfl)⟩ rfl (fun h265 p266 => ?_)
                    obtain ⟨Ih265, fh265, p266_0, p266_1⟩ := p266
                    have f267 : Fr [89, 90, 91, 92, 93, 94, 95, 96, 245, 246, 247, 248] h h265 := Fr.sub fh215 fh265 rfl
                    have t268 : Val h265 := Val_fr fh265 Ih215 rfl c216
                    have t269 : LfOK h265 := LfOK_fr fh265 Ih215 rfl c217
                    have t270 : htq h265 = htq h215 := htq_fr fh265 Ih215 rfl
                    obtain ⟨x271, ex271⟩ : ∃ y : Int, h265.2.2 60 47 = y := ⟨_, rfl⟩
                    have rx271 := Ih265.atR (a := 60) (j := 47) rfl
                    rw [ex271] at rx271
                    have q272 := LaterP.sums p266_1 (Ih215.atR (a := 60) (j := 47) rfl).1
                    have q273 : bn 1 = 0 ∧ op4 1 = 0 := ⟨rfl, rfl⟩
                    have z274 := bq_ge (h := h) (p := x94)
                    refine to_iload (dat dk_X12_readQuery 165 rfl) rfl (to_istore (L' := [(0, .inr (.inr 60)), (1, .inl y24), (2, .inl 0), (3, .inl 1), (4, .inl x94), (5, .inl x94), (6, .inl x98), (7, .inl x101), (8, .inl y104)]) (dat dk_X12_readQuery 166 rfl) (by decide) rfl (to_goto (dat dk_X12_readQuery 167 rfl) rfl (to_goto (dat dk_X12_readQuery 184 rfl) rfl ?_)))
                    refine to_pick [0, 1, 2, 3, 4] rfl ?_
                    have e275 : h265.2.2 60 44 = x1 := ((Fr.get fh265 (by have := Ih215.1.1; omega) rfl).trans e230)
                    have e276 : h265.2.2 60 45 = x229 := ((Fr.get fh265 (by have := Ih215.1.1; omega) rfl).trans ex229)
                    have e277 : h265.2.2 60 46 = x231 := ((Fr.get fh265 (by have := Ih215.1.1; omega) rfl).trans ex231)
                    exact ihn45 (n45 - 1) (by omega) y24 0 1 x94 h265 ry24 (by decide) (by decide) rx94 Ih265 f267 (show 0 ≤ y24 ∧ y24 ≤ 20 by omega) (show 0 ≤ x94 ∧ x94 ≤ h265.2.2 60 44 by omega) t268 t269 (show htq h265 ≤ h265.2.2 60 45 by omega) (show 3 * h265.2.2 60 45 ≤ 2 * x94 + bq h x94 by omega) (show htq h265 = binq h265 + (0 : Int) by omega) (show opnq h265 = y24 by omega) (show h265.2.2 60 46 + h265.2.2 60 47 ≤ 2 * x94 by omega) (show h265.2.2 60 47 ≤ x94 + y24 by omega) (show (0 : Int) ≤ (1 : Int) by omega) (show h265.2.2 60 47 ≤ 1300 * (1 : Int) by omega) (show h265.2.2 60 44 - x94 ≤ ((n45 - 1 : Nat) : Int) by omega)
                · skip
                  have z278 := c223.resolve_left (fun k => k (by omega))
                  refine to_aload_n (dat dk_X12_readQuery 149 rfl) rfl (to_iconst (dat dk_X12_readQuery 150 rfl) ?_)
                  refine to_cV ca_c13_462 (dat dk_X12_readQuery 151 rfl) (ct_X12_later_vb l h215 Ih215 4 (by decide) (show 0 ≤ (4 : Int) ∧ (4 : Int) ≤ 4 by omega) (show h215.2.2 60 47 ≤ 1299 by omega)) rfl ⟨_, _, rfl, (Ih215.atS rfl)⟩ rfl (fun h280 p281 => ?_)
                  obtain ⟨Ih280, fh280, p281_0, p281_1⟩ := p281
                  have f282 : Fr [89, 90, 91, 92, 93, 94, 95, 96, 245, 246, 247, 248] h h280 := Fr.sub fh215 fh280 rfl
                  have t283 : Val h280 := Val_fr fh280 Ih215 rfl c216
                  have t284 : LfOK h280 := LfOK_fr fh280 Ih215 rfl c217
                  have t285 : htq h280 = htq h215 := htq_fr fh280 Ih215 rfl
                  obtain ⟨x286, ex286⟩ : ∃ y : Int, h280.2.2 60 47 = y := ⟨_, rfl⟩
                  have rx286 := Ih280.atR (a := 60) (j := 47) rfl
                  rw [ex286] at rx286
                  have q287 := LaterP.sums p281_1 (Ih215.atR (a := 60) (j := 47) rfl).1
                  have q288 : bn 4 = 0 ∧ op4 4 = 1 := ⟨rfl, rfl⟩
                  have z289 := bq_ge (h := h) (p := (y27 + 1))
                  refine to_iinc (L' := [(0, .inr (.inr 60)), (1, .inl (y24 + 1)), (2, .inl 0), (3, .inl 1), (4, .inl y27), (5, .inl x94), (6, .inl x98), (7, .inl x101), (8, .inl y104)]) (dat dk_X12_readQuery 152 rfl) rfl (by decide) rfl (to_iinc (L' := [(0, .inr (.inr 60)), (1, .inl (y24 + 1)), (2, .inl 0), (3, .inl 1), (4, .inl (y27 + 1)), (5, .inl x94), (6, .inl x98), (7, .inl x101), (8, .inl y104)]) (dat dk_X12_readQuery 153 rfl) rfl (by decide) rfl (to_goto (dat dk_X12_readQuery 154 rfl) rfl (to_goto (dat dk_X12_readQuery 184 rfl) rfl ?_)))
                  refine to_pick [0, 1, 2, 3, 4] rfl ?_
                  have e290 : h280.2.2 60 44 = x1 := ((Fr.get fh280 (by have := Ih215.1.1; omega) rfl).trans e230)
                  have e291 : h280.2.2 60 45 = x229 := ((Fr.get fh280 (by have := Ih215.1.1; omega) rfl).trans ex229)
                  have e292 : h280.2.2 60 46 = x231 := ((Fr.get fh280 (by have := Ih215.1.1; omega) rfl).trans ex231)
                  exact ihn45 (n45 - 1) (by omega) (y24 + 1) 0 1 (y27 + 1) h280 (by omega) (by decide) (by decide) (by omega) Ih280 f282 (show 0 ≤ (y24 + 1) ∧ (y24 + 1) ≤ 20 by omega) (show 0 ≤ (y27 + 1) ∧ (y27 + 1) ≤ h280.2.2 60 44 by omega) t283 t284 (show htq h280 ≤ h280.2.2 60 45 by omega) (show 3 * h280.2.2 60 45 ≤ 2 * (y27 + 1) + bq h (y27 + 1) by omega) (show htq h280 = binq h280 + (0 : Int) by omega) (show opnq h280 = (y24 + 1) by omega) (show h280.2.2 60 46 + h280.2.2 60 47 ≤ 2 * (y27 + 1) by omega) (show h280.2.2 60 47 ≤ (y27 + 1) + (y24 + 1) by omega) (show (0 : Int) ≤ (1 : Int) by omega) (show h280.2.2 60 47 ≤ 1300 * (1 : Int) by omega) (show h280.2.2 60 44 - (y27 + 1) ≤ ((n45 - 1 : Nat) : Int) by omega)
              refine to_iload_n (dat dk_X12_readQuery 133 rfl) rfl ?_
              refine to_ifeq 273 (dat dk_X12_readQuery 134 rfl) rfl (z_i32 ry25) (fun c293 => ?_) (fun c293 => ?_)
              · skip
                exact jn273_n228 h28 Ih28 fh28 c32 c33 (show htq h28 ≤ h28.2.2 60 45 by omega) (show 3 * h28.2.2 60 45 ≤ 2 * y27 + bq h y27 by omega) (show y27 < h28.2.2 60 44 ∧ y27 ≤ x94 ∧ x94 ≤ h28.2.2 60 44 by omega) c211 c212 c213 (show htq h28 = binq h28 by omega) (show opnq h28 = y24 by omega) (show h28.2.2 60 46 + h28.2.2 60 47 ≤ 2 * y27 + 1 by omega) (show h28.2.2 60 47 ≤ y27 + y24 + 1 by omega)
              · skip
                replace c293 := z_one ry25 c293
                refine to_aload_n (dat dk_X12_readQuery 135 rfl) rfl (to_iconst (dat dk_X12_readQuery 136 rfl) ?_)
                refine to_cV ca_c13_459 (dat dk_X12_readQuery 137 rfl) (ct_X12_unwind_vb l h28 Ih28 2 (by decide) (show h28.2.2 60 46 + h28.2.2 60 47 ≤ 3000 by omega) c32 (show htq h28 - binq h28 = 1 ∨ h28.2.2 60 47 = 0 by omega)) rfl ⟨_, _, rfl, (Ih28.atS rfl)⟩ rfl (fun h295 p296 => ?_)
                obtain ⟨Ih295, fh295, p296_0, p296_1, p296_2, p296_3, p296_4, p296_5, p296_6⟩ := p296
                have f297 : Fr [89, 90, 91, 92, 93, 94, 95, 96, 245, 246, 247, 248] h h295 := Fr.sub fh28 fh295 rfl
                have t298 : LfOK h295 := LfOK_fr fh295 Ih28 rfl c33
                obtain ⟨x299, ex299⟩ : ∃ y : Int, h295.2.2 60 46 = y := ⟨_, rfl⟩
                have rx299 := Ih295.atR (a := 60) (j := 46) rfl
                rw [ex299] at rx299
                obtain ⟨x300, ex300⟩ : ∃ y : Int, h295.2.2 60 47 = y := ⟨_, rfl⟩
                have rx300 := Ih295.atR (a := 60) (j := 47) rfl
                rw [ex300] at rx300
                refine to_aload_n (dat dk_X12_readQuery 138 rfl) rfl (to_iconst (dat dk_X12_readQuery 139 rfl) ?_)
                refine to_cV ca_c13_462 (dat dk_X12_readQuery 140 rfl) (ct_X12_later_vb l h295 Ih295 2 (by decide) (show 0 ≤ (2 : Int) ∧ (2 : Int) ≤ 4 by omega) (show h295.2.2 60 47 ≤ 1299 by omega)) rfl ⟨_, _, rfl, (Ih295.atS rfl)⟩ rfl (fun h302 p303 => ?_)
                obtain ⟨Ih302, fh302, p303_0, p303_1⟩ := p303
                have f304 : Fr [89, 90, 91, 92, 93, 94, 95, 96, 245, 246, 247, 248] h h302 := Fr.sub f297 fh302 rfl
                have t305 : Val h302 := Val_fr fh302 Ih295 rfl p296_0
                have t306 : LfOK h302 := LfOK_fr fh302 Ih295 rfl t298
                have t307 : htq h302 = htq h295 := htq_fr fh302 Ih295 rfl
                obtain ⟨x308, ex308⟩ : ∃ y : Int, h302.2.2 60 47 = y := ⟨_, rfl⟩
                have rx308 := Ih302.atR (a := 60) (j := 47) rfl
                rw [ex308] at rx308
                have q309 := LaterP.sums p303_1 (Ih295.atR (a := 60) (j := 47) rfl).1
                have q310 : bn 2 = 1 ∧ op4 2 = 0 := ⟨rfl, rfl⟩
                have e311 : h302.2.2 60 45 = x48 := ((Fr.get fh302 (by have := Ih295.1.1; omega) rfl).trans ((Fr.get fh295 (by have := Ih28.1.1; omega) rfl).trans ex48))
                have e312 : h302.2.2 60 44 = x1 := ((Fr.get fh302 (by have := Ih295.1.1; omega) rfl).trans ((Fr.get fh295 (by have := Ih28.1.1; omega) rfl).trans e47))
                have e313 : h302.2.2 60 46 = x299 := ((Fr.get fh302 (by have := Ih295.1.1; omega) rfl).trans ex299)
                exact jn273_n228 h302 Ih302 f304 t305 t306 (show htq h302 ≤ h302.2.2 60 45 by omega) (show 3 * h302.2.2 60 45 ≤ 2 * y27 + bq h y27 by omega) (show y27 < h302.2.2 60 44 ∧ y27 ≤ x94 ∧ x94 ≤ h302.2.2 60 44 by omega) c211 c212 c213 (show htq h302 = binq h302 by omega) (show opnq h302 = y24 by omega) (show h302.2.2 60 46 + h302.2.2 60 47 ≤ 2 * y27 + 1 by omega) (show h302.2.2 60 47 ≤ y27 + y24 + 1 by omega)
            refine to_aload_n (dat dk_X12_readQuery 120 rfl) rfl (to_getR 88 g_c13_100 (dat dk_X12_readQuery 121 rfl) (Ih28.atS rfl) (Ih28.atE rfl) (to_iload (dat dk_X12_readQuery 122 rfl) rfl ?_))
            obtain ⟨x314, ex314⟩ : ∃ y : Int, h28.2.2 88 (Int.toNat y27) = y := ⟨_, rfl⟩
            have rx314 := Ih28.atR (a := 88) (j := Int.toNat y27) rfl
            rw [ex314] at rx314
            refine to_baldv (q := 1) ex314 (dat dk_X12_readQuery 123 rfl) (by decide) (Ih28.atS rfl) rfl (by decide) (by omega) ?_
            have k315 : h.2.2 88 (Int.toNat y27) = x314 := (Fr.getF fh28 hI (by decide) rfl).symm.trans ex314
            refine to_bipush (dat dk_X12_readQuery 124 rfl) (by decide) ?_
            refine to_ine 259 (dat dk_X12_readQuery 125 rfl) rfl (by omega) (by decide) (fun c316 => ?_) (fun c316 => ?_)
            · skip
              exact jn259_n214  (show y27 < h28.2.2 60 44 ∧ y27 ≤ x94 ∧ x94 ≤ h28.2.2 60 44 by omega) c207 c208 (show NP h y27 y24 by unfold NP; omega)
            · skip
              refine to_iload_n (dat dk_X12_readQuery 126 rfl) rfl (to_bipush (dat dk_X12_readQuery 127 rfl) (by decide) ?_)
              refine to_ine 259 (dat dk_X12_readQuery 128 rfl) rfl ry24 (by decide) (fun c317 => ?_) (fun c317 => ?_)
              · skip
                exact jn259_n214  (show y27 < h28.2.2 60 44 ∧ y27 ≤ x94 ∧ x94 ≤ h28.2.2 60 44 by omega) c207 c208 (show NP h y27 y24 by unfold NP; omega)
              · skip
                refine to_aload_n (dat dk_X12_readQuery 129 rfl) rfl (to_iload (dat dk_X12_readQuery 130 rfl) rfl ?_)
                refine to_cI ca_c13_456 (dat dk_X12_readQuery 131 rfl) (ct_X12_refuse l h28 Ih28 y27 ry27 (show 0 ≤ y27 ∧ y27 ≤ 1200 by omega)) rfl ⟨_, _, rfl, (Ih28.atS rfl)⟩ rfl (fun x318 h319 rx318 p320 => ?_)
                obtain ⟨Ih319, fh319, zx318, p320_0⟩ := p320
                have f321 : Fr [89, 90, 91, 92, 93, 94, 95, 96, 245, 246, 247, 248] h h319 := Fr.sub fh28 fh319 rfl
                have t322 : Val h319 := Val_fr fh319 Ih28 rfl c32
                have t323 : LfOK h319 := LfOK_fr fh319 Ih28 rfl c33
                have t324 : htq h319 = htq h28 := htq_fr fh319 Ih28 rfl
                have t325 : binq h319 = binq h28 := binq_fr fh319 Ih28 rfl
                have t326 : opnq h319 = opnq h28 := opnq_fr fh319 Ih28 rfl
                have rzx318 := z_lin zx318
                clear zx318
                clear rx318
                have rx318 := rzx318
                clear rzx318
                exact to_zret rfl (dat dk_X12_readQuery 132 rfl) (by omega) (ri_mk (z_i32 rx318) ⟨Ih319, f321, (by omega), t322, t323⟩)
          refine to_iload (dat dk_X12_readQuery 62 rfl) rfl ?_
          refine to_ifne 133 (dat dk_X12_readQuery 63 rfl) rfl (z_i32 rx98) (fun c327 => ?_) (fun c327 => ?_)
          · skip
            replace c327 := z_one rx98 c327
            exact jn133_n111  (show y27 < h28.2.2 60 44 ∧ y27 ≤ x94 ∧ x94 ≤ h28.2.2 60 44 by omega) (show y27 + 2 ≤ x94 + 2 * y104 by omega) (show x98 + y104 ≤ 1 by omega) (show x101 + y104 ≤ 1 by omega)
          · skip
            refine to_iload (dat dk_X12_readQuery 64 rfl) rfl ?_
            refine to_ifne 133 (dat dk_X12_readQuery 65 rfl) rfl (z_i32 rx101) (fun c328 => ?_) (fun c328 => ?_)
            · skip
              replace c328 := z_one rx101 c328
              exact jn133_n111  (show y27 < h28.2.2 60 44 ∧ y27 ≤ x94 ∧ x94 ≤ h28.2.2 60 44 by omega) (show y27 + 2 ≤ x94 + 2 * y104 by omega) (show x98 + y104 ≤ 1 by omega) (show x101 + y104 ≤ 1 by omega)
            · skip
              refine to_iload (dat dk_X12_readQuery 66 rfl) rfl ?_
              refine to_ifeq 234 (dat dk_X12_readQuery 67 rfl) rfl (z_i32 ry104) (fun c329 => ?_) (fun c329 => ?_)
              · skip
                exact jn234_n209  (show y27 < h28.2.2 60 44 ∧ y27 ≤ x94 ∧ x94 ≤ h28.2.2 60 44 by omega) (QW.mk (by omega) p96_1 (by omega)) (bq_end p96_2)
              · skip
                replace c329 := z_one ry104 c329
                exact jn133_n111  (show y27 < h28.2.2 60 44 ∧ y27 ≤ x94 ∧ x94 ≤ h28.2.2 60 44 by omega) (show y27 + 2 ≤ x94 + 2 * y104 by omega) (show x98 + y104 ≤ 1 by omega) (show x101 + y104 ≤ 1 by omega)
        refine to_aload_n (dat dk_X12_readQuery 52 rfl) rfl (to_getR 88 g_c13_100 (dat dk_X12_readQuery 53 rfl) (Ih28.atS rfl) (Ih28.atE rfl) (to_iload (dat dk_X12_readQuery 54 rfl) rfl ?_))
        obtain ⟨x330, ex330⟩ : ∃ y : Int, h28.2.2 88 (Int.toNat y27) = y := ⟨_, rfl⟩
        have rx330 := Ih28.atR (a := 88) (j := Int.toNat y27) rfl
        rw [ex330] at rx330
        refine to_baldv (q := 1) ex330 (dat dk_X12_readQuery 55 rfl) (by decide) (Ih28.atS rfl) rfl (by decide) (by omega) ?_
        have k331 : h.2.2 88 (Int.toNat y27) = x330 := (Fr.getF fh28 hI (by decide) rfl).symm.trans ex330
        refine to_bipush (dat dk_X12_readQuery 56 rfl) (by decide) ?_
        refine to_ine 115 (dat dk_X12_readQuery 57 rfl) rfl (by omega) (by decide) (fun c332 => ?_) (fun c332 => ?_)
        · skip
          refine to_iconst (dat dk_X12_readQuery 60 rfl) ?_
          exact jn116_n106 0 (by decide) (show ((0 : Int) = 1 ∧ h.2.2 88 (Int.toNat y27) = 41) ∨ ((0 : Int) = 0 ∧ h.2.2 88 (Int.toNat y27) ≠ 41) by omega)
        · skip
          refine to_iconst (dat dk_X12_readQuery 58 rfl) (to_goto (dat dk_X12_readQuery 59 rfl) rfl ?_)
          exact jn116_n106 1 (by decide) (show ((1 : Int) = 1 ∧ h.2.2 88 (Int.toNat y27) = 41) ∨ ((1 : Int) = 0 ∧ h.2.2 88 (Int.toNat y27) ≠ 41) by omega)
      · skip
        replace c93 := z_one rx90 c93
        have z333 := bq_ge (h := h) (p := (y27 + 1))
        refine to_iinc (L' := [(0, .inr (.inr 60)), (1, .inl y24), (2, .inl y25), (3, .inl y26), (4, .inl (y27 + 1))]) (dat dk_X12_readQuery 30 rfl) rfl (by decide) rfl (to_goto (dat dk_X12_readQuery 31 rfl) rfl ?_)
        exact ihn45 (n45 - 1) (by omega) y24 y25 y26 (y27 + 1) h28 ry24 (by omega) (by omega) (by omega) Ih28 fh28 (show 0 ≤ y24 ∧ y24 ≤ 20 by omega) (show 0 ≤ (y27 + 1) ∧ (y27 + 1) ≤ h28.2.2 60 44 by omega) c32 c33 (show htq h28 ≤ h28.2.2 60 45 by omega) (show 3 * h28.2.2 60 45 ≤ 2 * (y27 + 1) + bq h (y27 + 1) by omega) (show htq h28 = binq h28 + y25 by omega) (show opnq h28 = y24 by omega) (show h28.2.2 60 46 + h28.2.2 60 47 ≤ 2 * (y27 + 1) by omega) (show h28.2.2 60 47 ≤ (y27 + 1) + y24 by omega) (show y25 ≤ y26 by omega) (show h28.2.2 60 47 ≤ 1300 * y26 by omega) (show h28.2.2 60 44 - (y27 + 1) ≤ ((n45 - 1 : Nat) : Int) by omega)
  exact lp29_n45 (h16.2.2 60 44 - (0 : Int)).toNat 0 0 0 0 h16 (by decide) (by decide) (by decide) (by decide) I14 f15 (show 0 ≤ (0 : Int) ∧ (0 : Int) ≤ 20 by omega) (show 0 ≤ (0 : Int) ∧ (0 : Int) ≤ h16.2.2 60 44 by omega) z18 z19 (show htq h16 ≤ h16.2.2 60 45 by omega) (show 3 * h16.2.2 60 45 ≤ 2 * (0 : Int) + bq h (0 : Int) by omega) (show htq h16 = binq h16 + (0 : Int) by omega) (show opnq h16 = (0 : Int) by omega) (show h16.2.2 60 46 + h16.2.2 60 47 ≤ 2 * (0 : Int) by omega) (show h16.2.2 60 47 ≤ (0 : Int) + (0 : Int) by omega) (show (0 : Int) ≤ (0 : Int) by omega) (show h16.2.2 60 47 ≤ 1300 * (0 : Int) by omega) (by omega)
