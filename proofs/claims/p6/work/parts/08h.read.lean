/-! Messages read. -/
def noK (k : Nat) : Bool := (List.range 106).all fun a => match fixTy a with
  | none => true
  | some t => match t with
    | .inr _ => true
    | .inl q => !(Nat.beq q.1 k)
theorem noK_big {h : Hp} (hI : Inv h) {a k n : Nat} (hk : noK k = true) (ht : h.2.1 a = some (.inl (k, n))) : 106 ≤ a := by
  by_cases ha : a < 106
  · exfalso
    have h1 := List.all_eq_true.mp hk a (List.mem_range.mpr ha)
    cases hf : fixTy a with
    | none =>
      have h2 : ∀ a, a < 106 → fixTy a = none → a = 0 := by decide +kernel
      have h3 := h2 a ha hf
      have h4 := hI.posN ht
      omega
    | some t =>
      have h2 := hI.1.2.2.1 a t hf
      cases ht.symm.trans h2
      rw [hf] at h1
      simp only [Nat.beq_refl, Bool.not_true] at h1
      cases h1
  · omega
/-- a write to the starts of a message's parts -/
theorem Inv.put20 {h : Hp} (hI : Inv h) {a j n : Nat} {x : Int} (ht : h.2.1 a = some (.inl (20, n))) (hx : 0 ≤ x ∧ x ≤ 1200) : Inv (wr h a j x) := by
  have hbig := noK_big hI (by decide +kernel) ht
  obtain ⟨hS, hR, hG, hM, hF, hL, hb1, hb2, hb3⟩ := hI
  refine ⟨hS, fun b i lo hi e => ?_, fun b k' n' hb => ⟨(hG b k' n' hb).1, fun i => ?_⟩, fun b hb => ?_, fun b n' hb => ?_, ?_, hb1.put (Or.inl (by omega)), hb2.put (Or.inl (by omega)), hb3.put (Or.inl (by omega))⟩
  · have hab : b ≠ a := fun q => by
      subst q
      rw [rg_none hbig] at e
      cases e
    rw [wr_ne hab]
    exact hR b i lo hi e
  · by_cases hab : b = a
    · subst hab
      cases ht.symm.trans hb
      by_cases hij : i = j
      · subst hij
        rw [wr_eq]
        show I32 x
        unfold I32
        omega
      · rw [wr_ne2 hij]
        exact (hG b 20 n ht).2 i
    · rw [wr_ne hab]
      exact (hG b k' n' hb).2 i
  · refine (hM b hb).put fun e => ?_
    subst e
    cases ht.symm.trans hb
  · by_cases hab : b = a
    · subst hab
      refine ⟨(hF b n' hb).1, fun i => ?_⟩
      by_cases hij : i = j
      · subst hij
        rw [wr_eq]
        exact hx
      · rw [wr_ne2 hij]
        exact (hF b n' hb).2 i
    · simp only [wr_ne hab]
      exact hF b n' hb
  · obtain ⟨s, h1, h2, h3⟩ := hL
    refine ⟨s, by rw [wr_ne (by omega)]; exact h1, h2, ?_⟩
    rw [wr_ne (by omega)]
    rcases h3 with h3 | ⟨ed, n', g1, g2, g3, g4, g5⟩
    · exact Or.inl h3
    · refine Or.inr ⟨ed, n', g1, g2, g3, g4, fun i hi => ?_⟩
      have hed : ed ≠ a := fun e => by
        subst e
        cases ht.symm.trans g3
      obtain ⟨m, m1, m2⟩ := g5 i hi
      exact ⟨m, by rw [wr_ne hed]; exact m1, m2.putA ht⟩
theorem nw_Msg : NewOK "MailArchive$Reader" 105 5 := by
  refine ⟨_, _, _, rfl, ?_, ?_, ?_, ?_⟩
  · rfl
  · exact tin 5 43 (by decide +kernel) rfl
  · exact tin 5 44 (by decide +kernel) rfl
  · exact tin 1 27 (by decide +kernel) rfl
/-- a step that changes one new name only -/
theorem Fr.upd {S S2 : List Nat} {h h1 H : Hp} {m : Nat} (f : Fr S h h1) (g : Fr S2 h1 H) (hm : h.1 ≤ m) (hv : ∀ b, b ≠ m → b < h1.1 → H.2.2 b = h1.2.2 b) (hs : S.contains 999 = true) : Fr S h H := by
  refine ⟨⟨Nat.le_trans f.1.1 g.1.1, fun a ha => ?_⟩, fun a j ha hn => ?_, fun e => by rw [hs] at e; cases e⟩
  · have := f.1.1
    exact (g.1.2 a (by omega)).trans (f.1.2 a ha)
  · have := f.1.1
    rw [hv a (by omega) (by omega)]
    exact f.2.1 a j ha hn
/-! Contracts, by program. -/
abbrev Q_X7_readReferences (h : Hp) : Option V → Hp → Nat → Nat → Prop := RRa (fun x H mc ms => Inv H ∧ Fr [999, 14, 15, 16, 17, 19, 357, 317, 377, 33, 42] h H ∧ (∃ n : Nat, H.2.1 x = some (.inl (0, n)) ∧ 106 ≤ x) ∧ (ENL h H mc ms (16) (960) (17)))
set_option maxRecDepth 100000 in
set_option maxHeartbeats 4000000 in
theorem ct_X7_readReferences (l : Launch) (h : Hp) (hI : Inv h) (g0 : Bks h) (g1 : WT h ≤ 9300000) (g2 : ET h ≤ 3300000) (g3 : h.1 ≤ 840000) : Ct l D_X7_readReferences 5 179 [.inr (.inr 32)] h (Q_X7_readReferences h) := by
  refine ct_of pn_X7_readReferences (Nat.le_of_ble_eq_true rfl) ?_
  show To l E_X7_readReferences (0, [(0, .inr (.inr 32))], [], h, 0, 0) _
  have e00 : ENL h h 0 0 0 0 0 := ENL.rf g0 (by decide) (by decide) (by decide)
  refine to_aload_n (dat dk_X7_readReferences 0 rfl) rfl (to_getR 46 g_c8_60 (dat dk_X7_readReferences 1 rfl) (hI.atS rfl) (hI.atE rfl) (to_iconst (dat dk_X7_readReferences 2 rfl) (to_aload_n (dat dk_X7_readReferences 3 rfl) rfl (to_getR 33 g_c8_14 (dat dk_X7_readReferences 4 rfl) (hI.atS rfl) (hI.atE rfl) ?_))))
  refine to_cV ca_c8_86 (dat dk_X7_readReferences 5 rfl) (ct_X4_writeValue l h hI 5 (by decide) 33 rfl) rfl ⟨_, _, rfl, (hI.atS rfl)⟩ rfl (fun h2 p3 => ?_)
  obtain ⟨Ih2, fh2⟩ := p3
  have f4 : Fr [999, 14, 15, 16, 17, 19, 357, 317, 377, 33, 42] h h2 := Fr.sub (Fr.rf _ _) fh2 rfl
  have e5 : ENL h h2 0 0 0 0 0 := ENL.fr e00 fh2 hI rfl
  refine to_aload_n (dat dk_X7_readReferences 6 rfl) rfl (to_bipush (dat dk_X7_readReferences 7 rfl) (by decide) ?_)
  have q6 := (id e5).2
  have q7 := Bks.each Ih2 e5.1
  refine to_cIa ca_c8_227 (dat dk_X7_readReferences 8 rfl) (ct_X7_takeReferences l h2 Ih2 16 (by decide) (e5.1) (show WT h2 ≤ 9400000 by omega) (show ET h2 ≤ 3400000 by omega) (show h2.1 ≤ 850000 by omega)) rfl ⟨_, _, rfl, (Ih2.atS rfl)⟩ rfl (fun x8 h9 mcx8 msx8 rx8 p10 => ?_)
  obtain ⟨Ih9, fh9, p10_0, p10_1⟩ := p10
  have f11 : Fr [999, 14, 15, 16, 17, 19, 357, 317, 377, 33, 42] h h9 := Fr.sub f4 fh9 rfl
  have e12 : ENL h h9 (0 + mcx8) (0 + msx8) (0 + x8) (0 + (60 * x8)) (0 + 0) := ENL.tr e5 p10_1 rfl rfl (by omega) (by omega) (by omega)
  refine to_istore_n (L' := [(0, .inr (.inr 32)), (1, .inl x8)]) (dat dk_X7_readReferences 9 rfl) (by decide) rfl ?_
  have jn42_n19 : ∀ (y13 : Int) (h14 : Hp) (ka15 : Nat) (za16 : Nat), (I32 y13) → (Inv h14) → (Fr [999, 14, 15, 16, 17, 19, 357, 317, 377, 33, 42] h h14) → (0 ≤ y13 ∧ y13 ≤ 16) → (ENL h h14 ka15 za16 (y13) (60 * y13) (0)) → To l E_X7_readReferences (42, [(0, .inr (.inr 32)), (1, .inl y13)], [], h14, ka15, za16) (Q_X7_readReferences h) := by
    intro y13 h14 ka15 za16 ry13 Ih14 fh14 c17 c18
    refine to_aload_n (dat dk_X7_readReferences 22 rfl) rfl (to_getR 42 g_c8_33 (dat dk_X7_readReferences 23 rfl) (Ih14.atS rfl) (Ih14.atE rfl) (to_iload_n (dat dk_X7_readReferences 24 rfl) rfl ?_))
    have q20 := (id c18).2
    have q21 := Bks.each Ih14 c18.1
    refine to_cRa ca_c8_107 (dat dk_X7_readReferences 25 rfl) (ct_X7_firstOf l h14 Ih14 42 0 16 (Ih14.atS rfl) rfl y13 ry13 (show h14.1 + 1 ≤ 900000 by omega)) rfl trivial rfl (fun x22 h23 mcx22 msx22 p24 => ?_)
    obtain ⟨Ih23, fh23, p24_0⟩ := p24
    have f25 : Fr [999, 14, 15, 16, 17, 19, 357, 317, 377, 33, 42] h h23 := Fr.sub fh14 fh23 rfl
    obtain ⟨eXx22, eCx22, eSx22, tXx22, eHx22⟩ := p24_0
    have e26 : ENL h h23 (ka15 + mcx22) (za16 + msx22) (y13) (60 * y13) ((0) + (1 + 16)) := ENL.alF (m := mcx22) (n := msx22) c18 fh23 Ih14 rfl (by omega) rfl rfl (by omega)
    exact to_aret rfl (Or.inr ⟨_, rfl⟩) (dat dk_X7_readReferences 26 rfl) (rr_mka ⟨Ih23, f25, ⟨_, tXx22, (by have := Ih14.1.1; omega)⟩, (ENL.mono e26 (by omega) (by omega) (by omega))⟩)
  refine to_iload_n (dat dk_X7_readReferences 10 rfl) rfl ?_
  refine to_ifne 42 (dat dk_X7_readReferences 11 rfl) rfl rx8 (fun c27 => ?_) (fun c27 => ?_)
  · skip
    exact jn42_n19 x8 h9 (0 + mcx8) (0 + msx8) rx8 Ih9 f11 (show 0 ≤ x8 ∧ x8 ≤ 16 by omega) (ENL.mono e12 (by omega) (by omega) (by omega))
  · skip
    refine to_aload_n (dat dk_X7_readReferences 12 rfl) rfl (to_getR 46 g_c8_60 (dat dk_X7_readReferences 13 rfl) (Ih9.atS rfl) (Ih9.atE rfl) (to_bipush (dat dk_X7_readReferences 14 rfl) (by decide) (to_aload_n (dat dk_X7_readReferences 15 rfl) rfl (to_getR 33 g_c8_14 (dat dk_X7_readReferences 16 rfl) (Ih9.atS rfl) (Ih9.atE rfl) ?_))))
    refine to_cV ca_c8_86 (dat dk_X7_readReferences 17 rfl) (ct_X4_writeValue l h9 Ih9 6 (by decide) 33 rfl) rfl ⟨_, _, rfl, (Ih9.atS rfl)⟩ rfl (fun h29 p30 => ?_)
    obtain ⟨Ih29, fh29⟩ := p30
    have f31 : Fr [999, 14, 15, 16, 17, 19, 357, 317, 377, 33, 42] h h29 := Fr.sub f11 fh29 rfl
    have e32 : ENL h h29 (0 + mcx8) (0 + msx8) (0 + x8) (0 + (60 * x8)) (0 + 0) := ENL.fr e12 fh29 Ih9 rfl
    refine to_aload_n (dat dk_X7_readReferences 18 rfl) rfl (to_iconst (dat dk_X7_readReferences 19 rfl) ?_)
    have q33 := (id e32).2
    have q34 := Bks.each Ih29 e32.1
    refine to_cIa ca_c8_227 (dat dk_X7_readReferences 20 rfl) (ct_X7_takeReferences l h29 Ih29 1 (by decide) (e32.1) (show WT h29 ≤ 9400000 by omega) (show ET h29 ≤ 3400000 by omega) (show h29.1 ≤ 850000 by omega)) rfl ⟨_, _, rfl, (Ih29.atS rfl)⟩ rfl (fun x35 h36 mcx35 msx35 rx35 p37 => ?_)
    obtain ⟨Ih36, fh36, p37_0, p37_1⟩ := p37
    have f38 : Fr [999, 14, 15, 16, 17, 19, 357, 317, 377, 33, 42] h h36 := Fr.sub f31 fh36 rfl
    have e39 : ENL h h36 ((0 + mcx8) + mcx35) ((0 + msx8) + msx35) ((0 + x8) + x35) ((0 + (60 * x8)) + (60 * x35)) ((0 + 0) + 0) := ENL.tr e32 p37_1 rfl rfl (by omega) (by omega) (by omega)
    refine to_istore_n (L' := [(0, .inr (.inr 32)), (1, .inl x35)]) (dat dk_X7_readReferences 21 rfl) (by decide) rfl ?_
    exact jn42_n19 x35 h36 ((0 + mcx8) + mcx35) ((0 + msx8) + msx35) rx35 Ih36 f38 (show 0 ≤ x35 ∧ x35 ≤ 16 by omega) (ENL.mono e39 (by omega) (by omega) (by omega))
abbrev Q_X7_read (h : Hp) (n : Int) : Option V → Hp → Nat → Nat → Prop := RRa (fun x H mc ms => Inv H ∧ Fr [999, 8, 9, 10, 11, 13, 356, 316, 376, 14, 15, 16, 17, 19, 357, 317, 377, 30, 32, 33, 35, 37, 39, 41, 42, 43, 44, 45, 46, 47, 48, 312] h H ∧ (full H x) ∧ (h.1 ≤ x) ∧ (H.2.2 x 0 = n) ∧ (ENL h H mc ms (1417) (5820) (1242)))
set_option maxRecDepth 100000 in
set_option maxHeartbeats 4000000 in
theorem ct_X7_read (l : Launch) (h : Hp) (hI : Inv h) (n : Int) (hn : I32 n) (g0 : Bks h) (g1 : WT h ≤ 9100000) (g2 : ET h ≤ 3100000) (g3 : h.1 ≤ 810000) : Ct l D_X7_read 10 228 [.inr (.inr 32), .inl n] h (Q_X7_read h n) := by
  refine ct_of pn_X7_read (Nat.le_of_ble_eq_true rfl) ?_
  show To l E_X7_read (0, [(0, .inr (.inr 32)), (1, .inl n)], [], h, 0, 0) _
  have e00 : ENL h h 0 0 0 0 0 := ENL.rf g0 (by decide) (by decide) (by decide)
  obtain ⟨x1, ex1⟩ : ∃ y : Int, h.2.2 32 13 = y := ⟨_, rfl⟩
  have rx1 := hI.atR (a := 32) (j := 13) rfl
  rw [ex1] at rx1
  refine to_aload_n (dat dk_X7_read 0 rfl) rfl (to_getR 46 g_c8_60 (dat dk_X7_read 1 rfl) (hI.atS rfl) (hI.atE rfl) (to_iconst (dat dk_X7_read 2 rfl) (to_aload_n (dat dk_X7_read 3 rfl) rfl (to_getR 4 g_c8_45 (dat dk_X7_read 4 rfl) (hI.atS rfl) (hI.atE rfl) ?_))))
  obtain ⟨x2, ex2⟩ : ∃ y : Int, h.2.2 4 1 = y := ⟨_, rfl⟩
  have rx2 := hI.atR (a := 4) (j := 1) rfl
  rw [ex2] at rx2
  refine to_cI ca_c8_64 (dat dk_X7_read 5 rfl) (ct_X1_size l h hI 4 rfl) rfl ⟨_, _, rfl, (hI.atS rfl)⟩ rfl (fun x3 h4 rx3 p5 => ?_)
  obtain ⟨rfl, p5_0⟩ := p5
  refine to_cV ca_c8_68 (dat dk_X7_read 6 rfl) (ct_X4_readLines l h hI 0 (by decide) x3 rx3 (show 0 ≤ (0 : Int) ∧ (0 : Int) ≤ 1201 by omega) (show 0 ≤ x3 ∧ x3 ≤ 1200 by omega)) rfl ⟨_, _, rfl, (hI.atS rfl)⟩ rfl (fun h7 p8 => ?_)
  obtain ⟨Ih7, fh7⟩ := p8
  have f9 : Fr [999, 8, 9, 10, 11, 13, 356, 316, 376, 14, 15, 16, 17, 19, 357, 317, 377, 30, 32, 33, 35, 37, 39, 41, 42, 43, 44, 45, 46, 47, 48, 312] h h7 := Fr.sub (Fr.rf _ _) fh7 rfl
  have e10 : ENL h h7 0 0 0 0 0 := ENL.fr e00 fh7 hI rfl
  refine to_aload_n (dat dk_X7_read 7 rfl) rfl ?_
  refine to_cI ca_c8_72 (dat dk_X7_read 8 rfl) (ct_X7_readDate l h7 Ih7 ) rfl ⟨_, _, rfl, (Ih7.atS rfl)⟩ rfl (fun x11 h12 rx11 p13 => ?_)
  obtain ⟨Ih12, fh12⟩ := p13
  have f14 : Fr [999, 8, 9, 10, 11, 13, 356, 316, 376, 14, 15, 16, 17, 19, 357, 317, 377, 30, 32, 33, 35, 37, 39, 41, 42, 43, 44, 45, 46, 47, 48, 312] h h12 := Fr.sub f9 fh12 rfl
  have e15 : ENL h h12 0 0 0 0 0 := ENL.fr e10 fh12 Ih7 rfl
  refine to_istore_n (L' := [(0, .inr (.inr 32)), (1, .inl n), (2, .inl x11)]) (dat dk_X7_read 9 rfl) (by decide) rfl (to_aload_n (dat dk_X7_read 10 rfl) rfl ?_)
  have q16 := (id e15).2
  have q17 := Bks.each Ih12 e15.1
  refine to_cIa ca_c8_75 (dat dk_X7_read 11 rfl) (ct_X7_readId l h12 Ih12 (e15.1) (show WT h12 ≤ 9400000 by omega) (show ET h12 ≤ 3400000 by omega) (show h12.1 ≤ 850000 by omega)) rfl ⟨_, _, rfl, (Ih12.atS rfl)⟩ rfl (fun x18 h19 mcx18 msx18 rx18 p20 => ?_)
  obtain ⟨Ih19, fh19, p20_0⟩ := p20
  have f21 : Fr [999, 8, 9, 10, 11, 13, 356, 316, 376, 14, 15, 16, 17, 19, 357, 317, 377, 30, 32, 33, 35, 37, 39, 41, 42, 43, 44, 45, 46, 47, 48, 312] h h19 := Fr.sub f14 fh19 rfl
  have e22 : ENL h h19 (0 + mcx18) (0 + msx18) (0 + 1) (0 + 60) (0 + 0) := ENL.tr e15 p20_0 rfl rfl (by omega) (by omega) (by omega)
  refine to_istore_n (L' := [(0, .inr (.inr 32)), (1, .inl n), (2, .inl x11), (3, .inl x18)]) (dat dk_X7_read 12 rfl) (by decide) rfl (to_aload_n (dat dk_X7_read 13 rfl) rfl ?_)
  have q23 := (id e22).2
  have q24 := Bks.each Ih19 e22.1
  refine to_cRa ca_c8_78 (dat dk_X7_read 14 rfl) (ct_X7_readReferences l h19 Ih19 (e22.1) (show WT h19 ≤ 9300000 by omega) (show ET h19 ≤ 3300000 by omega) (show h19.1 ≤ 840000 by omega)) rfl ⟨_, _, rfl, (Ih19.atS rfl)⟩ rfl (fun x25 h26 mcx25 msx25 p27 => ?_)
  obtain ⟨Ih26, fh26, p27_0, p27_1⟩ := p27
  have f28 : Fr [999, 8, 9, 10, 11, 13, 356, 316, 376, 14, 15, 16, 17, 19, 357, 317, 377, 30, 32, 33, 35, 37, 39, 41, 42, 43, 44, 45, 46, 47, 48, 312] h h26 := Fr.sub f21 fh26 rfl
  have e29 : ENL h h26 ((0 + mcx18) + mcx25) ((0 + msx18) + msx25) ((0 + 1) + 16) ((0 + 60) + 960) ((0 + 0) + 17) := ENL.tr e22 p27_1 rfl rfl (by omega) (by omega) (by omega)
  obtain ⟨nRx25, tXx25, bXx25⟩ := p27_0
  refine to_astore (L' := [(0, .inr (.inr 32)), (1, .inl n), (2, .inl x11), (3, .inl x18), (4, .inr (.inr x25))]) (dat dk_X7_read 15 rfl) (Ih26.posN tXx25) (by decide) rfl (to_iconst (dat dk_X7_read 16 rfl) ?_)
  have q30 := (id e29).2
  have q31 := Bks.each Ih26 e29.1
  have lt32 : h26.1 + 1 ≤ 900000 := by omega
  refine to_newarrayZ 20 rfl (by decide) rfl (tin 1 82 (by decide +kernel) rfl) (dat dk_X7_read 17 rfl) (by decide) (by omega) ?_
  obtain ⟨h33, eh33⟩ : ∃ y : Hp, y = row (al h26 (.inl (20, 5))) h26.1 (fun _ => 0) := ⟨_, rfl⟩
  have eh33' : row (al h26 (Sum.inl (20, Int.toNat 5))) h26.1 (fun _ => 0) = h33 := eh33.symm
  rw [eh33']
  have Ih33 : Inv h33 := by rw [eh33]; exact Ih26.new lt32 (fun k n e => by cases e; exact ⟨by decide, fun _ => ⟨by decide, by decide⟩⟩) (fun e => by cases e) (fun n e => by cases e; exact ⟨rfl, fun _ => by decide⟩)
  have gh33 : Fr [999] h26 h33 := by rw [eh33]; exact fr_new (Fr.rf _ _) rfl
  have fh33 : Fr [999, 8, 9, 10, 11, 13, 356, 316, 376, 14, 15, 16, 17, 19, 357, 317, 377, 30, 32, 33, 35, 37, 39, 41, 42, 43, 44, 45, 46, 47, 48, 312] h h33 := by rw [eh33]; exact fr_new f28 rfl
  have zh33 : h33.1 = h26.1 + 1 := by rw [eh33]; rfl
  obtain ⟨q34, eq34⟩ : ∃ y : Nat, y = h26.1 := ⟨_, rfl⟩
  have tq34 : h33.2.1 q34 = some (.inl (20, 5)) := by rw [eq34, eh33]; exact al_new _ _
  rw [← eq34]
  have e35 : ENL h h33 (((0 + mcx18) + mcx25) + 1) (((0 + msx18) + msx25) + 5) ((0 + 1) + 16) ((0 + 60) + 960) (((0 + 0) + 17) + 6) := ENL.alF (m := 1) (n := 5) e29 gh33 Ih26 rfl zh33 rfl rfl (by omega)
  have d36 := newA_old (t := .inl (20, 5)) (f := fun _ => 0) Ih26 tXx25
  rw [← eh33] at d36
  refine to_astore (L' := [(0, .inr (.inr 32)), (1, .inl n), (2, .inl x11), (3, .inl x18), (4, .inr (.inr x25)), (5, .inr (.inr q34))]) (dat dk_X7_read 18 rfl) (Ih33.posN tq34) (by decide) rfl (to_aload_n (dat dk_X7_read 19 rfl) rfl (to_iconst (dat dk_X7_read 20 rfl) (to_putIw p_c8_82 (dat dk_X7_read 21 rfl) (Ih33.atS rfl) ?_)))
  intro h39 wh39
  have I37 : Inv h39 := by rw [wh39]; exact Ih33.put (a := 32) (j := 13) (x := 0) (0) (1200) rfl rfl (show (0 : Int) ≤ 0 ∧ 0 ≤ 1200 by decide)
  have f38 : Fr [999, 8, 9, 10, 11, 13, 356, 316, 376, 14, 15, 16, 17, 19, 357, 317, 377, 30, 32, 33, 35, 37, 39, 41, 42, 43, 44, 45, 46, 47, 48, 312] h h39 := by rw [wh39]; exact Fr.putF (a := 32) (j := 13) (x := 0) fh33 rfl
  have d40 : h39.2.1 x25 = some (.inl (0, nRx25)) := by rw [wh39]; exact d36
  have d41 : h39.2.1 q34 = some (.inl (20, 5)) := by rw [wh39]; exact tq34
  have e42 : ENL h h39 (((0 + mcx18) + mcx25) + 1) (((0 + msx18) + msx25) + 5) ((0 + 1) + 16) ((0 + 60) + 960) (((0 + 0) + 17) + 6) := by rw [wh39]; exact ENL.fr e35 (fr_wr [32] rfl) Ih33 rfl
  refine to_iconst (dat dk_X7_read 22 rfl) (to_istore (L' := [(0, .inr (.inr 32)), (1, .inl n), (2, .inl x11), (3, .inl x18), (4, .inr (.inr x25)), (5, .inr (.inr q34)), (6, .inl 0)]) (dat dk_X7_read 23 rfl) (by decide) rfl ?_)
  have e50 : h39.2.2 32 13 = (0 : Int) := (by rw [wh39]; exact wr_eq)
  have lp44_n52 : ∀ (n52 : Nat) (y43 : Int) (h44 : Hp) (ka45 : Nat) (za46 : Nat), (I32 y43) → (Inv h44) → (Fr [999, 8, 9, 10, 11, 13, 356, 316, 376, 14, 15, 16, 17, 19, 357, 317, 377, 30, 32, 33, 35, 37, 39, 41, 42, 43, 44, 45, 46, 47, 48, 312] h h44) → (h44.2.1 x25 = some (.inl (0, nRx25))) → (h44.2.1 q34 = some (.inl (20, 5))) → (0 ≤ y43 ∧ y43 ≤ 3) → (ENL h h44 ka45 za46 (h44.2.2 32 13 + 17) (1200 * y43 + 1020) (23)) → (3 - y43 ≤ (n52 : Int)) → To l E_X7_read (44, [(0, .inr (.inr 32)), (1, .inl n), (2, .inl x11), (3, .inl x18), (4, .inr (.inr x25)), (5, .inr (.inr q34)), (6, .inl y43)], [], h44, ka45, za46) (Q_X7_read h n) := by
    intro n52
    induction n52 using Nat.strongRecOn with
    | _ n52 ihn52 =>
    intro y43 h44 ka45 za46 ry43 Ih44 fh44 d47 d48 c49 c51 c53
    obtain ⟨x54, ex54⟩ : ∃ y : Int, h44.2.2 32 13 = y := ⟨_, rfl⟩
    have rx54 := Ih44.atR (a := 32) (j := 13) rfl
    rw [ex54] at rx54
    refine to_iload (dat dk_X7_read 24 rfl) rfl (to_iconst (dat dk_X7_read 25 rfl) ?_)
    refine to_igt 105 (dat dk_X7_read 26 rfl) rfl ry43 (by decide) (fun c55 => ?_) (fun c55 => ?_)
    · skip
      refine to_aload_n (dat dk_X7_read 53 rfl) rfl ?_
      refine to_cV ca_c8_102 (dat dk_X7_read 54 rfl) (ct_X7_writeText l h44 Ih44 ) rfl ⟨_, _, rfl, (Ih44.atS rfl)⟩ rfl (fun h57 p58 => ?_)
      obtain ⟨Ih57, fh57⟩ := p58
      have f59 : Fr [999, 8, 9, 10, 11, 13, 356, 316, 376, 14, 15, 16, 17, 19, 357, 317, 377, 30, 32, 33, 35, 37, 39, 41, 42, 43, 44, 45, 46, 47, 48, 312] h h57 := Fr.sub fh44 fh57 rfl
      have d60 := (fh57.1.2 _ (Ih44.ltN d47)).trans d47
      have d61 := (fh57.1.2 _ (Ih44.ltN d48)).trans d48
      have e62 : ENL h h57 ka45 za46 (h44.2.2 32 13 + 17) (1200 * y43 + 1020) (23) := ENL.fr c51 fh57 Ih44 rfl
      refine to_aload_n (dat dk_X7_read 55 rfl) rfl (to_sipush (dat dk_X7_read 56 rfl) (by decide) ?_)
      have q63 := (id e62).2
      have q64 := Bks.each Ih57 e62.1
      obtain ⟨x65, ex65⟩ : ∃ y : Int, h57.2.2 32 13 = y := ⟨_, rfl⟩
      have rx65 := Ih57.atR (a := 32) (j := 13) rfl
      rw [ex65] at rx65
      refine to_cVa ca_c8_99 (dat dk_X7_read 57 rfl) (ct_X7_takeWords l h57 Ih57 200 (by decide) (e62.1) (show WT h57 ≤ 9300000 by omega) (show ET h57 ≤ 3300000 by omega) (show h57.1 ≤ 840000 by omega) (show 0 ≤ (200 : Int) by omega)) rfl ⟨_, _, rfl, (Ih57.atS rfl)⟩ rfl (fun h67 mcx66 msx66 p68 => ?_)
      obtain ⟨Ih67, fh67, p68_0, p68_1⟩ := p68
      have f69 : Fr [999, 8, 9, 10, 11, 13, 356, 316, 376, 14, 15, 16, 17, 19, 357, 317, 377, 30, 32, 33, 35, 37, 39, 41, 42, 43, 44, 45, 46, 47, 48, 312] h h67 := Fr.sub f59 fh67 rfl
      have d70 := (fh67.1.2 _ (Ih57.ltN d60)).trans d60
      have d71 := (fh67.1.2 _ (Ih57.ltN d61)).trans d61
      have e72 : ENL h h67 (ka45 + mcx66) (za46 + msx66) ((h44.2.2 32 13 + 17) + (h67.2.2 32 13 - h57.2.2 32 13)) ((1200 * y43 + 1020) + 1200) ((23) + 0) := ENL.tr e62 p68_0 rfl rfl (by omega) (by omega) (by omega)
      obtain ⟨x73, ex73⟩ : ∃ y : Int, h67.2.2 32 13 = y := ⟨_, rfl⟩
      have rx73 := Ih67.atR (a := 32) (j := 13) rfl
      rw [ex73] at rx73
      refine to_aload_p (dat dk_X7_read 58 rfl) (Ih67.posN d71) rfl (to_iconst (dat dk_X7_read 59 rfl) (to_aload_n (dat dk_X7_read 60 rfl) rfl (to_getIv (y := x73) ex73 g_c8_82 (dat dk_X7_read 61 rfl) (Ih67.atS rfl) (to_iastw (dat dk_X7_read 62 rfl) d71 rfl (by decide) (by decide) ?_))))
      intro h76 wh76
      have I74 : Inv h76 := by rw [wh76]; exact Ih67.put20 (j := (Int.toNat 4)) (x := x73) d71 (by omega)
      have f75 : Fr [999, 8, 9, 10, 11, 13, 356, 316, 376, 14, 15, 16, 17, 19, 357, 317, 377, 30, 32, 33, 35, 37, 39, 41, 42, 43, 44, 45, 46, 47, 48, 312] h h76 := by rw [wh76]; exact Fr.putA (j := (Int.toNat 4)) (x := x73) f69 Ih67 d71 (by decide +kernel)
      have d77 : h76.2.1 x25 = some (.inl (0, nRx25)) := by rw [wh76]; exact d70
      have d78 : h76.2.1 q34 = some (.inl (20, 5)) := by rw [wh76]; exact d71
      have e79 : ENL h h76 (ka45 + mcx66) (za46 + msx66) ((h44.2.2 32 13 + 17) + (h67.2.2 32 13 - h57.2.2 32 13)) ((1200 * y43 + 1020) + 1200) ((23) + 0) := by rw [wh76]; exact ENL.fr (S := [312]) e72 (Fr.putA (Fr.rf _ _) Ih67 d71 (by decide +kernel)) Ih67 rfl
      have qe := (id e79).2
      have qf := Bks.each I74 e79.1
      have lt1 : h76.1 + 8 ≤ 900000 := by omega
      refine to_newZ nw_Msg (dat dk_X7_read 63 rfl) (by omega) ?_
      obtain ⟨hm, em⟩ : ∃ y : Hp, y = row (al h76 (.inr 5)) h76.1 (fun _ => 0) := ⟨_, rfl⟩
      rw [← em]
      have Im : Inv hm := by
        rw [em]; exact I74.new (by omega) (fun _ _ e => by cases e) (fun _ => ⟨by have := I74.1.1; omega, by rw [row_eq]; exact ⟨by decide, by decide⟩, by rw [row_eq]; exact ⟨by decide, by decide⟩, by rw [row_eq]; exact ⟨by decide, by decide⟩, by rw [row_eq]; decide, by rw [row_eq]; exact Or.inl rfl, by rw [row_eq]; exact Or.inl rfl, by rw [row_eq]; exact Or.inl rfl, by rw [row_eq]; exact Or.inl rfl⟩) (fun _ e => by cases e)
      have gm : Fr [999] h76 hm := by rw [em]; exact fr_new (Fr.rf _ _) rfl
      have fm : Fr [999, 8, 9, 10, 11, 13, 356, 316, 376, 14, 15, 16, 17, 19, 357, 317, 377, 30, 32, 33, 35, 37, 39, 41, 42, 43, 44, 45, 46, 47, 48, 312] h hm := by rw [em]; exact fr_new f75 rfl
      have zm : hm.1 = h76.1 + 1 := by rw [em]; rfl
      obtain ⟨m, mm⟩ : ∃ y : Nat, y = h76.1 := ⟨_, rfl⟩
      have tm : hm.2.1 m = some (.inr 5) := by rw [mm, em]; exact al_new _ _
      rw [← mm]
      have oldm : ∀ b t, h76.2.1 b = some t → hm.2.1 b = some t := fun b t ht => by rw [em]; exact newA_old I74 ht
      have nm1 : ENL h hm ((ka45 + mcx66) + 1) ((za46 + msx66) + 8) ((h44.2.2 32 13 + 17) + (h67.2.2 32 13 - h57.2.2 32 13)) ((1200 * y43 + 1020) + 1200) (((23) + 0) + 9) := ENL.alF (m := 1) (n := 8) e79 gm I74 rfl zm rfl rfl (by omega)
      have tf1 := oldm _ _ d78
      have tr1 := oldm _ _ d77
      have m6 : 106 ≤ m := (Im.2.2.2.1 m tm).1
      have bf := noK_big Im (by decide +kernel) tf1
      have br := bXx25
      obtain ⟨x80, ex80⟩ : ∃ y : Int, hm.2.2 32 13 = y := ⟨_, rfl⟩
      have rx80 := Im.atR (a := 32) (j := 13) rfl
      rw [ex80] at rx80
      refine to_dup (dat dk_X7_read 64 rfl) rfl (to_iload_n (dat dk_X7_read 65 rfl) rfl (to_aload_n (dat dk_X7_read 66 rfl) rfl (to_getR 41 g_c8_29 (dat dk_X7_read 67 rfl) (Im.atS rfl) (Im.atE rfl) (to_aload_n (dat dk_X7_read 68 rfl) rfl (to_getIv (y := x80) ex80 g_c8_82 (dat dk_X7_read 69 rfl) (Im.atS rfl) ?_)))))
      refine to_cRa ca_c8_107 (dat dk_X7_read 70 rfl) (ct_X7_firstOf l hm Im 41 0 1200 (Im.atS rfl) rfl x80 (by unfold I32; omega) (by omega)) rfl trivial rfl (fun wr1 hw mcw msw pw => ?_)
      obtain ⟨Iw, fw, eXw, eCw, eSw, tXw, eHw⟩ := pw
      have fw2 : Fr [999, 8, 9, 10, 11, 13, 356, 316, 376, 14, 15, 16, 17, 19, 357, 317, 377, 30, 32, 33, 35, 37, 39, 41, 42, 43, 44, 45, 46, 47, 48, 312] h hw := Fr.sub fm fw rfl
      have nm2 : ENL h hw ((ka45 + mcx66) + 1 + mcw) ((za46 + msx66) + 8 + msw) ((h44.2.2 32 13 + 17) + (h67.2.2 32 13 - h57.2.2 32 13)) ((1200 * y43 + 1020) + 1200) (((23) + 0) + 9 + 1201) := ENL.alF (m := mcw) (n := msw) nm1 fw Im rfl (by omega) rfl rfl (by omega)
      have tm2 := (fw.1.2 _ (Im.ltN tm)).trans tm
      have tf2 := (fw.1.2 _ (Im.ltN tf1)).trans tf1
      have tr2 := (fw.1.2 _ (Im.ltN tr1)).trans tr1
      refine to_aload_p (dat dk_X7_read 71 rfl) (by omega) rfl (to_iload_n (dat dk_X7_read 72 rfl) rfl (to_iload_n (dat dk_X7_read 73 rfl) rfl (to_aload_p (dat dk_X7_read 74 rfl) (by omega) rfl ?_)))
      refine to_cVa ca_c8_111 (dat dk_X7_read 75 rfl) (ct_X6_init l hw Iw m tm2 n hn wr1 msw tXw (by have := Im.1.1; omega) q34 tf2 bf x11 rx11 x18 rx18 x25 _ tr2 br (by omega)) rfl ⟨_, _, _, rfl, tm2⟩ rfl (fun hz mcz msz pz => ?_)
      obtain ⟨Iz, fz, fulz, eCz, eSz, eHz, vz, nz⟩ := pz
      have fz2 : Fr [999, 8, 9, 10, 11, 13, 356, 316, 376, 14, 15, 16, 17, 19, 357, 317, 377, 30, 32, 33, 35, 37, 39, 41, 42, 43, 44, 45, 46, 47, 48, 312] h hz := Fr.upd fw2 fz (by omega) vz rfl
      have nm3 : ENL h hz ((ka45 + mcx66) + 1 + mcw + mcz) ((za46 + msx66) + 8 + msw + msz) ((h44.2.2 32 13 + 17) + (h67.2.2 32 13 - h57.2.2 32 13)) ((1200 * y43 + 1020) + 1200) (((23) + 0) + 9 + 1201 + 9) := ENL.alF (m := mcz) (n := msz) nm2 fz Iw rfl (by omega) rfl rfl (by omega)
      exact to_aret rfl (Or.inl ⟨_, rfl⟩) (dat dk_X7_read 76 rfl) (rr_mka ⟨Iz, fz2, fulz, by omega, nz, ENL.mono nm3 (by omega) (by omega) (by omega)⟩)
    · skip
      refine to_aload_n (dat dk_X7_read 27 rfl) rfl (to_getR 46 g_c8_60 (dat dk_X7_read 28 rfl) (Ih44.atS rfl) (Ih44.atE rfl) (to_iload (dat dk_X7_read 29 rfl) rfl (to_aload_n (dat dk_X7_read 30 rfl) rfl (to_getR 33 g_c8_14 (dat dk_X7_read 31 rfl) (Ih44.atS rfl) (Ih44.atE rfl) ?_))))
      refine to_cV ca_c8_86 (dat dk_X7_read 32 rfl) (ct_X4_writeValue l h44 Ih44 y43 ry43 33 rfl) rfl ⟨_, _, rfl, (Ih44.atS rfl)⟩ rfl (fun h82 p83 => ?_)
      obtain ⟨Ih82, fh82⟩ := p83
      have f84 : Fr [999, 8, 9, 10, 11, 13, 356, 316, 376, 14, 15, 16, 17, 19, 357, 317, 377, 30, 32, 33, 35, 37, 39, 41, 42, 43, 44, 45, 46, 47, 48, 312] h h82 := Fr.sub fh44 fh82 rfl
      have d85 := (fh82.1.2 _ (Ih44.ltN d47)).trans d47
      have d86 := (fh82.1.2 _ (Ih44.ltN d48)).trans d48
      have e87 : ENL h h82 ka45 za46 (h44.2.2 32 13 + 17) (1200 * y43 + 1020) (23) := ENL.fr c51 fh82 Ih44 rfl
      refine to_aload_n (dat dk_X7_read 33 rfl) rfl (to_getR 35 g_c8_20 (dat dk_X7_read 34 rfl) (Ih82.atS rfl) (Ih82.atE rfl) ?_)
      refine to_cV ca_c8_90 (dat dk_X7_read 35 rfl) (ct_X1_clear l h82 Ih82 35 rfl) rfl ⟨_, _, rfl, (Ih82.atS rfl)⟩ rfl (fun h89 p90 => ?_)
      obtain ⟨Ih89, fh89, p90_0⟩ := p90
      have f91 : Fr [999, 8, 9, 10, 11, 13, 356, 316, 376, 14, 15, 16, 17, 19, 357, 317, 377, 30, 32, 33, 35, 37, 39, 41, 42, 43, 44, 45, 46, 47, 48, 312] h h89 := Fr.sub f84 fh89 rfl
      have d92 := (fh89.1.2 _ (Ih82.ltN d85)).trans d85
      have d93 := (fh89.1.2 _ (Ih82.ltN d86)).trans d86
      have e94 : ENL h h89 ka45 za46 (h44.2.2 32 13 + 17) (1200 * y43 + 1020) (23) := ENL.fr e87 fh89 Ih82 rfl
      obtain ⟨x95, ex95⟩ : ∃ y : Int, h89.2.2 35 1 = y := ⟨_, rfl⟩
      have rx95 := Ih89.atR (a := 35) (j := 1) rfl
      rw [ex95] at rx95
      refine to_aload_n (dat dk_X7_read 36 rfl) rfl (to_getR 33 g_c8_14 (dat dk_X7_read 37 rfl) (Ih89.atS rfl) (Ih89.atE rfl) (to_aload_n (dat dk_X7_read 38 rfl) rfl (to_getR 35 g_c8_20 (dat dk_X7_read 39 rfl) (Ih89.atS rfl) (Ih89.atE rfl) ?_)))
      refine to_cV ca_c8_93 (dat dk_X7_read 40 rfl) (ct_X2_encodedWords l h89 Ih89 33 rfl 35 rfl) rfl trivial rfl (fun h97 p98 => ?_)
      obtain ⟨Ih97, fh97⟩ := p98
      have f99 : Fr [999, 8, 9, 10, 11, 13, 356, 316, 376, 14, 15, 16, 17, 19, 357, 317, 377, 30, 32, 33, 35, 37, 39, 41, 42, 43, 44, 45, 46, 47, 48, 312] h h97 := Fr.sub f91 fh97 rfl
      have d100 := (fh97.1.2 _ (Ih89.ltN d92)).trans d92
      have d101 := (fh97.1.2 _ (Ih89.ltN d93)).trans d93
      have e102 : ENL h h97 ka45 za46 (h44.2.2 32 13 + 17) (1200 * y43 + 1020) (23) := ENL.fr e94 fh97 Ih89 rfl
      refine to_aload_n (dat dk_X7_read 41 rfl) rfl (to_sipush (dat dk_X7_read 42 rfl) (by decide) ?_)
      have q103 := (id e102).2
      have q104 := Bks.each Ih97 e102.1
      have e105 : h97.2.2 32 13 = x54 := ((Fr.get fh97 (by have := Ih89.1.1; omega) rfl).trans ((Fr.get fh89 (by have := Ih82.1.1; omega) rfl).trans ((Fr.get fh82 (by have := Ih44.1.1; omega) rfl).trans ex54)))
      refine to_cVa ca_c8_99 (dat dk_X7_read 43 rfl) (ct_X7_takeWords l h97 Ih97 1200 (by decide) (e102.1) (show WT h97 ≤ 9300000 by omega) (show ET h97 ≤ 3300000 by omega) (show h97.1 ≤ 840000 by omega) (show 0 ≤ (1200 : Int) by omega)) rfl ⟨_, _, rfl, (Ih97.atS rfl)⟩ rfl (fun h107 mcx106 msx106 p108 => ?_)
      obtain ⟨Ih107, fh107, p108_0, p108_1⟩ := p108
      have f109 : Fr [999, 8, 9, 10, 11, 13, 356, 316, 376, 14, 15, 16, 17, 19, 357, 317, 377, 30, 32, 33, 35, 37, 39, 41, 42, 43, 44, 45, 46, 47, 48, 312] h h107 := Fr.sub f99 fh107 rfl
      have d110 := (fh107.1.2 _ (Ih97.ltN d100)).trans d100
      have d111 := (fh107.1.2 _ (Ih97.ltN d101)).trans d101
      have e112 : ENL h h107 (ka45 + mcx106) (za46 + msx106) ((h44.2.2 32 13 + 17) + (h107.2.2 32 13 - h97.2.2 32 13)) ((1200 * y43 + 1020) + 1200) ((23) + 0) := ENL.tr e102 p108_0 rfl rfl (by omega) (by omega) (by omega)
      obtain ⟨x113, ex113⟩ : ∃ y : Int, h107.2.2 32 13 = y := ⟨_, rfl⟩
      have rx113 := Ih107.atR (a := 32) (j := 13) rfl
      rw [ex113] at rx113
      refine to_aload_p (dat dk_X7_read 44 rfl) (Ih107.posN d111) rfl (to_iload (dat dk_X7_read 45 rfl) rfl (to_iconst (dat dk_X7_read 46 rfl) (to_iadd (dat dk_X7_read 47 rfl) (to_aload_n (dat dk_X7_read 48 rfl) rfl (to_getIv (y := x113) ex113 g_c8_82 (dat dk_X7_read 49 rfl) (Ih107.atS rfl) (to_iastw (dat dk_X7_read 50 rfl) d111 rfl (by decide) (by omega) ?_))))))
      intro h116 wh116
      have I114 : Inv h116 := by rw [wh116]; exact Ih107.put20 (j := (Int.toNat (y43 + 1))) (x := x113) d111 (by omega)
      have f115 : Fr [999, 8, 9, 10, 11, 13, 356, 316, 376, 14, 15, 16, 17, 19, 357, 317, 377, 30, 32, 33, 35, 37, 39, 41, 42, 43, 44, 45, 46, 47, 48, 312] h h116 := by rw [wh116]; exact Fr.putA (j := (Int.toNat (y43 + 1))) (x := x113) f109 Ih107 d111 (by decide +kernel)
      have d117 : h116.2.1 x25 = some (.inl (0, nRx25)) := by rw [wh116]; exact d110
      have d118 : h116.2.1 q34 = some (.inl (20, 5)) := by rw [wh116]; exact d111
      have e119 : ENL h h116 (ka45 + mcx106) (za46 + msx106) ((h44.2.2 32 13 + 17) + (h107.2.2 32 13 - h97.2.2 32 13)) ((1200 * y43 + 1020) + 1200) ((23) + 0) := by rw [wh116]; exact ENL.fr (S := [312]) e112 (Fr.putA (Fr.rf _ _) Ih107 d111 (by decide +kernel)) Ih107 rfl
      refine to_iinc (L' := [(0, .inr (.inr 32)), (1, .inl n), (2, .inl x11), (3, .inl x18), (4, .inr (.inr x25)), (5, .inr (.inr q34)), (6, .inl (y43 + 1))]) (dat dk_X7_read 51 rfl) rfl (by decide) rfl (to_goto (dat dk_X7_read 52 rfl) rfl ?_)
      have e120 : h116.2.2 32 13 = x113 := (by rw [wh116]; exact (wr_ne (ne_ty (Ih107.atS rfl) d111 (by intro e; cases e))).trans ex113)
      exact ihn52 (n52 - 1) (by omega) (y43 + 1) h116 (ka45 + mcx106) (za46 + msx106) (by omega) I114 f115 d117 d118 (show 0 ≤ (y43 + 1) ∧ (y43 + 1) ≤ 3 by omega) (ENL.mono e119 (by omega) (by omega) (by omega)) (show 3 - (y43 + 1) ≤ ((n52 - 1 : Nat) : Int) by omega)
  exact lp44_n52 (3 - (0 : Int)).toNat 0 h39 (((0 + mcx18) + mcx25) + 1) (((0 + msx18) + msx25) + 5) (by decide) I37 f38 d40 d41 (show 0 ≤ (0 : Int) ∧ (0 : Int) ≤ 3 by omega) (ENL.mono e42 (by omega) (by omega) (by omega)) (by omega)
