/-! Counts: the books stay as they are. -/
theorem book_eq {h h' : Hp} (hI : Inv h) {b w : Nat} (hb : isK b w = true) (fe : ∀ j, j ≤ 5 → h'.2.2 b j = h.2.2 b j) (ft : ∀ a t, h.2.1 a = some t → h'.2.1 a = some t) (fs : ∀ a n, h.2.1 a = some (.inl (w, n)) → ∀ i, h'.2.2 a i = h.2.2 a i) : h'.2.2 b 5 = h.2.2 b 5 ∧ PB h' b = PB h b ∧ WB h' b = WB h b ∧ (BkW h b w → BkW h' b w) := by
  have fe1 := fe 1 (by decide)
  have fe2 := fe 2 (by decide)
  have fe3 := fe 3 (by decide)
  have fe4 := fe 4 (by decide)
  have fe5 := fe 5 (by decide)
  obtain ⟨nx, st, rd, rw_, nn, ns, nr, nw, e1, e2, e3, e4, t1, t2, t3, t4, p1, p2, p3, p4⟩ := hI.kbk hb
  have r : BkR h b w nx st rd rw_ nn ns nr nw := ⟨⟨e1, e2, e3, e4⟩, ⟨t1, t2, t3, t4⟩, p1, p2, p3, p4⟩
  have r' : BkR h' b w nx st rd rw_ nn ns nr nw := ⟨⟨fe1.trans e1, fe2.trans e2, fe3.trans e3, fe4.trans e4⟩, ⟨ft _ _ t1, ft _ _ t2, ft _ _ t3, ft _ _ t4⟩, p1, p2, p3, p4⟩
  refine ⟨fe5, by rw [r'.vals.1, r.vals.1], by rw [r'.vals.2, r.vals.2, fe5, fs st ns t2], fun k => ?_⟩
  obtain ⟨nx', st', rd', rw', nn', ns', nr', nw', ⟨⟨a1, a2, a3, a4⟩, ⟨u1, u2, u3, u4⟩, w1⟩, kn⟩ := k
  refine ⟨nx', st', rd', rw', nn', ns', nr', nw', ⟨⟨fe1.trans a1, fe2.trans a2, fe3.trans a3, fe4.trans a4⟩, ⟨ft _ _ u1, ft _ _ u2, ft _ _ u3, ft _ _ u4⟩, w1⟩, ?_⟩
  unfold BkN
  rw [fe5, fs st' ns' u2]
  exact kn
theorem enl_wr6 {h : Hp} (hI : Inv h) (k : Bks h) {c w0 : Nat} (hc : isK c w0 = true) {x : Int} : ENL h (wr h c 6 x) 0 0 0 0 0 := by
  have tc := hI.kty hc
  have one : ∀ b w, isK b w = true → (wr h c 6 x).2.2 b 5 = h.2.2 b 5 ∧ PB (wr h c 6 x) b = PB h b ∧ WB (wr h c 6 x) b = WB h b ∧ (BkW h b w → BkW (wr h c 6 x) b w) := fun b w hb => book_eq hI hb (fun j hj => by
    by_cases hbc : b = c
    · subst hbc
      exact wr_ne2 (by omega)
    · exact wr_ne hbc) (fun _ _ ht => ht) (fun a n ta i => wr_ne fun e => by
      subst e
      cases tc.symm.trans ta)
  have a := one 8 60 rfl
  have b := one 14 70 rfl
  have d := one 20 80 rfl
  refine ⟨⟨a.2.2.2 k.1, b.2.2.2 k.2.1, d.2.2.2 k.2.2⟩, ?_, rfl, ?_, ?_⟩
  · unfold ET WT PT
    refine ⟨by omega, by omega, by omega, by omega⟩
  · unfold ET
    omega
  · unfold WT
    omega
set_option maxRecDepth 100000 in
theorem ct_X0_startRound_v8 (l : Launch) (h : Hp) (hI : Inv h) (g0 : Bks h) : Ct l D_X0_startRound 0 0 [.inr (.inr 8)] h (RVa (fun H mc ms => Inv H ∧ Fr [148] h H ∧ ENL h H mc ms 0 0 0)) := by
  refine ct_of pn_X0_startRound (Nat.le_of_ble_eq_true rfl) ?_
  show To l E_X0_startRound (0, [(0, .inr (.inr 8))], [], h, 0, 0) _
  obtain ⟨x1, ex1⟩ : ∃ y : Int, h.2.2 8 6 = y := ⟨_, rfl⟩
  refine to_aload_n (dat dk_X0_startRound 0 rfl) rfl (to_dup (dat dk_X0_startRound 1 rfl) rfl (to_getIv (y := x1) ex1 g_c1_65 (dat dk_X0_startRound 2 rfl) (hI.atS rfl) (to_iconst (dat dk_X0_startRound 3 rfl) (to_iaddA (dat dk_X0_startRound 4 rfl) (fun y ry => ?_)))))
  refine to_putIw p_c1_65 (dat dk_X0_startRound 5 rfl) (hI.atS rfl) (fun H e => ?_)
  exact to_vret rfl (dat dk_X0_startRound 6 rfl) (rv_mka ⟨by rw [e]; exact hI.putK (b := 8) (w := 60) rfl (Or.inr ⟨rfl, ry⟩), by rw [e]; exact Fr.putF (a := 8) (j := 6) (Fr.rf _ _) rfl, by rw [e]; exact enl_wr6 hI g0 (c := 8) (w0 := 60) rfl⟩)
set_option maxRecDepth 100000 in
theorem ct_X0_startRound_v20 (l : Launch) (h : Hp) (hI : Inv h) (g0 : Bks h) : Ct l D_X0_startRound 0 0 [.inr (.inr 20)] h (RVa (fun H mc ms => Inv H ∧ Fr [160] h H ∧ ENL h H mc ms 0 0 0)) := by
  refine ct_of pn_X0_startRound (Nat.le_of_ble_eq_true rfl) ?_
  show To l E_X0_startRound (0, [(0, .inr (.inr 20))], [], h, 0, 0) _
  obtain ⟨x1, ex1⟩ : ∃ y : Int, h.2.2 20 6 = y := ⟨_, rfl⟩
  refine to_aload_n (dat dk_X0_startRound 0 rfl) rfl (to_dup (dat dk_X0_startRound 1 rfl) rfl (to_getIv (y := x1) ex1 g_c1_65 (dat dk_X0_startRound 2 rfl) (hI.atS rfl) (to_iconst (dat dk_X0_startRound 3 rfl) (to_iaddA (dat dk_X0_startRound 4 rfl) (fun y ry => ?_)))))
  refine to_putIw p_c1_65 (dat dk_X0_startRound 5 rfl) (hI.atS rfl) (fun H e => ?_)
  exact to_vret rfl (dat dk_X0_startRound 6 rfl) (rv_mka ⟨by rw [e]; exact hI.putK (b := 20) (w := 80) rfl (Or.inr ⟨rfl, ry⟩), by rw [e]; exact Fr.putF (a := 20) (j := 6) (Fr.rf _ _) rfl, by rw [e]; exact enl_wr6 hI g0 (c := 20) (w0 := 80) rfl⟩)
abbrev Q_X11_differentWords_vb (h : Hp) : Option V → Hp → Nat → Nat → Prop := RIa (fun x H mc ms => Inv H ∧ Fr [148, 12, 366] h H ∧ (ENL h H mc ms (0) (0) (0)))
set_option maxRecDepth 100000 in
theorem ct_X11_differentWords_vb (l : Launch) (h : Hp) (hI : Inv h) (g0 : Bks h) : Ct l D_X11_differentWords 3 64 [.inr (.inr 1)] h (Q_X11_differentWords_vb h) := by
  refine ct_of pn_X11_differentWords (Nat.le_of_ble_eq_true rfl) ?_
  show To l E_X11_differentWords (0, [(0, .inr (.inr 1))], [], h, 0, 0) _
  have e00 : ENL h h 0 0 0 0 0 := ENL.rf g0 (by decide) (by decide) (by decide)
  refine to_iconst (dat dk_X11_differentWords 0 rfl) (to_istore_n (L' := [(0, .inr (.inr 1)), (1, .inl 0)]) (dat dk_X11_differentWords 1 rfl) (by decide) rfl (to_aload_n (dat dk_X11_differentWords 2 rfl) rfl (to_getR 8 g_c0_27 (dat dk_X11_differentWords 3 rfl) (hI.atS rfl) (hI.atE rfl) ?_)))
  have q1 := (id e00).2
  have q2 := Bks.each hI e00.1
  refine to_cVa ca_c0_261 (dat dk_X11_differentWords 4 rfl) (ct_X0_startRound_v8 l h hI g0) rfl ⟨_, _, rfl, (hI.atS rfl)⟩ rfl (fun h4 mcx3 msx3 p5 => ?_)
  obtain ⟨Ih4, fh4, p5_0⟩ := p5
  have f6 : Fr [148, 12, 366] h h4 := Fr.sub (Fr.rf _ _) fh4 rfl
  have e7 : ENL h h4 (0 + mcx3) (0 + msx3) (0 + 0) (0 + 0) (0 + 0) := ENL.tr e00 p5_0 rfl rfl (by omega) (by omega) (by omega)
  refine to_iconst (dat dk_X11_differentWords 5 rfl) (to_istore_n (L' := [(0, .inr (.inr 1)), (1, .inl 0), (2, .inl 0)]) (dat dk_X11_differentWords 6 rfl) (by decide) rfl ?_)
  have lp11_n13 : ∀ (n13 : Nat) (y8 : Int) (y9 : Int) (h10 : Hp), (I32 y8) → (I32 y9) → (Inv h10) → (Fr [148, 12, 366] h h10) → (0 ≤ y9) → (ENL h h10 (0 + mcx3) (0 + msx3) (0) (0) (0)) → (61 - y9 ≤ (n13 : Int)) → To l E_X11_differentWords (11, [(0, .inr (.inr 1)), (1, .inl y8), (2, .inl y9)], [], h10, (0 + mcx3), (0 + msx3)) (Q_X11_differentWords_vb h) := by
    intro n13
    induction n13 using Nat.strongRecOn with
    | _ n13 ihn13 =>
    intro y8 y9 h10 ry8 ry9 Ih10 fh10 c11 c12 c14
    refine to_iload_n (dat dk_X11_differentWords 7 rfl) rfl (to_aload_n (dat dk_X11_differentWords 8 rfl) rfl (to_getR 26 g_c0_40 (dat dk_X11_differentWords 9 rfl) (Ih10.atS rfl) (Ih10.atE rfl) ?_))
    obtain ⟨x15, ex15⟩ : ∃ y : Int, h10.2.2 26 2 = y := ⟨_, rfl⟩
    have rx15 := Ih10.atR (a := 26) (j := 2) rfl
    rw [ex15] at rx15
    refine to_cI ca_c0_93 (dat dk_X11_differentWords 10 rfl) (ct_Jx4a65c_size_8abf5 l h10 Ih10 ) rfl ⟨_, _, rfl, (Ih10.atS rfl)⟩ rfl (fun x16 h17 rx16 p18 => ?_)
    obtain ⟨rfl, p18_0, p18_1⟩ := p18
    refine to_ige 81 (dat dk_X11_differentWords 11 rfl) rfl ry9 rx16 (fun c19 => ?_) (fun c19 => ?_)
    · skip
      refine to_iload_n (dat dk_X11_differentWords 42 rfl) rfl ?_
      exact to_iret rfl (dat dk_X11_differentWords 43 rfl) (ri_mka ry8 ⟨Ih10, fh10, (ENL.mono c12 (by omega) (by omega) (by omega))⟩)
    · skip
      refine to_aload_n (dat dk_X11_differentWords 12 rfl) rfl (to_getR 26 g_c0_40 (dat dk_X11_differentWords 13 rfl) (Ih10.atS rfl) (Ih10.atE rfl) (to_iload_n (dat dk_X11_differentWords 14 rfl) rfl ?_))
      refine to_cR ca_c0_144 (dat dk_X11_differentWords 15 rfl) (ct_Jx4a65c_get_915e3 l h10 Ih10 y9 ry9 (show 0 ≤ y9 ∧ y9 < h10.2.2 26 2 by omega)) rfl ⟨_, _, rfl, (Ih10.atS rfl)⟩ rfl (fun x20 h21 p22 => ?_)
      obtain ⟨rfl, p22_0⟩ := p22
      refine to_castM (C := RX6) (T := TX6) (N := 8) (ci := 5) rfl (tin 2 235 (by decide +kernel) rfl) (dat dk_X11_differentWords 16 rfl) p22_0.1 ?_
      obtain ⟨q23, nq23, eq23, pq23, tq23⟩ := full.r1 Ih10 p22_0
      have lq23 := Ih10.lenM tq23
      refine to_getR q23 g_c0_264 (dat dk_X11_differentWords 17 rfl) p22_0.1 eq23 (to_astore_n (L' := [(0, .inr (.inr 1)), (1, .inl y8), (2, .inl y9), (3, .inr (.inr q23))]) (dat dk_X11_differentWords 18 rfl) (by omega) (by decide) rfl (to_iconst (dat dk_X11_differentWords 19 rfl) (to_istore (L' := [(0, .inr (.inr 1)), (1, .inl y8), (2, .inl y9), (3, .inr (.inr q23)), (4, .inl 0)]) (dat dk_X11_differentWords 20 rfl) (by decide) rfl ?_)))
      have lp40_n30 : ∀ (n30 : Nat) (y24 : Int) (y25 : Int) (h26 : Hp), (I32 y24) → (I32 y25) → (Inv h26) → (Fr [148, 12, 366] h h26) → (h26.2.1 q23 = some (.inl (0, nq23))) → (0 ≤ y25) → (ENL h h26 (0 + mcx3) (0 + msx3) (0) (0) (0)) → (67108865 - y25 ≤ (n30 : Int)) → To l E_X11_differentWords (40, [(0, .inr (.inr 1)), (1, .inl y24), (2, .inl y9), (3, .inr (.inr q23)), (4, .inl y25)], [], h26, (0 + mcx3), (0 + msx3)) (Q_X11_differentWords_vb h) := by
        intro n30
        induction n30 using Nat.strongRecOn with
        | _ n30 ihn30 =>
        intro y24 y25 h26 ry24 ry25 Ih26 fh26 d27 c28 c29 c31
        refine to_iload (dat dk_X11_differentWords 21 rfl) rfl (to_aload_np (dat dk_X11_differentWords 22 rfl) (by omega) rfl (to_alen (dat dk_X11_differentWords 23 rfl) d27 (by decide) ?_))
        refine to_ige 75 (dat dk_X11_differentWords 24 rfl) rfl ry25 (by omega) (fun c32 => ?_) (fun c32 => ?_)
        · skip
          refine to_iinc (L' := [(0, .inr (.inr 1)), (1, .inl y24), (2, .inl (y9 + 1)), (3, .inr (.inr q23)), (4, .inl y25)]) (dat dk_X11_differentWords 40 rfl) rfl (by decide) rfl (to_goto (dat dk_X11_differentWords 41 rfl) rfl ?_)
          refine to_pick [0, 1, 2] rfl ?_
          exact ihn13 (n13 - 1) (by omega) y24 (y9 + 1) h26 ry24 (by omega) Ih26 fh26 (show 0 ≤ (y9 + 1) by omega) (ENL.mono c29 (by omega) (by omega) (by omega)) (show 61 - (y9 + 1) ≤ ((n13 - 1 : Nat) : Int) by omega)
        · skip
          refine to_iload_n (dat dk_X11_differentWords 25 rfl) rfl (to_aload_n (dat dk_X11_differentWords 26 rfl) rfl (to_getR 8 g_c0_27 (dat dk_X11_differentWords 27 rfl) (Ih26.atS rfl) (Ih26.atE rfl) (to_aload_np (dat dk_X11_differentWords 28 rfl) (by omega) rfl (to_iload (dat dk_X11_differentWords 29 rfl) rfl ?_))))
          obtain ⟨x33, ex33⟩ : ∃ y : Int, h26.2.2 q23 (Int.toNat y25) = y := ⟨_, rfl⟩
          have rx33 := Ih26.con0 d27 rfl (Int.toNat y25)
          rw [ex33] at rx33
          refine to_ialdv ex33 (dat dk_X11_differentWords 30 rfl) d27 rfl (Ih26.lenN d27) (by omega) ?_
          refine to_cI ca_c0_266 (dat dk_X11_differentWords 31 rfl) (ct_X0_isNewInRound_v8 l h26 Ih26 x33 rx33) rfl ⟨_, _, rfl, (Ih26.atS rfl)⟩ rfl (fun x34 h35 rx34 p36 => ?_)
          obtain ⟨Ih35, fh35, zx34⟩ := p36
          have f37 : Fr [148, 12, 366] h h35 := Fr.sub fh26 fh35 rfl
          have d38 := (fh35.1.2 _ (Ih26.ltN d27)).trans d27
          have e39 : ENL h h35 (0 + mcx3) (0 + msx3) (0) (0) (0) := ENL.fr c29 fh35 Ih26 rfl
          have rzx34 := z_lin zx34
          clear zx34
          clear rx34
          have rx34 := rzx34
          clear rzx34
          refine to_ifeq 66 (dat dk_X11_differentWords 32 rfl) rfl (z_i32 rx34) (fun c40 => ?_) (fun c40 => ?_)
          · skip
            refine to_iconst (dat dk_X11_differentWords 35 rfl) ?_
            refine to_iaddA (dat dk_X11_differentWords 36 rfl) (fun x41 rx41 => ?_)
            refine to_istore_n (L' := [(0, .inr (.inr 1)), (1, .inl x41), (2, .inl y9), (3, .inr (.inr q23)), (4, .inl y25)]) (dat dk_X11_differentWords 37 rfl) (by decide) rfl (to_iinc (L' := [(0, .inr (.inr 1)), (1, .inl x41), (2, .inl y9), (3, .inr (.inr q23)), (4, .inl (y25 + 1))]) (dat dk_X11_differentWords 38 rfl) rfl (by decide) rfl (to_goto (dat dk_X11_differentWords 39 rfl) rfl ?_))
            exact ihn30 (n30 - 1) (by omega) x41 (y25 + 1) h35 rx41 (by omega) Ih35 f37 d38 (show 0 ≤ (y25 + 1) by omega) (ENL.mono e39 (by omega) (by omega) (by omega)) (show 67108865 - (y25 + 1) ≤ ((n30 - 1 : Nat) : Int) by omega)
          · skip
            replace c40 := z_one rx34 c40
            refine to_iconst (dat dk_X11_differentWords 33 rfl) (to_goto (dat dk_X11_differentWords 34 rfl) rfl ?_)
            refine to_iaddA (dat dk_X11_differentWords 36 rfl) (fun x42 rx42 => ?_)
            refine to_istore_n (L' := [(0, .inr (.inr 1)), (1, .inl x42), (2, .inl y9), (3, .inr (.inr q23)), (4, .inl y25)]) (dat dk_X11_differentWords 37 rfl) (by decide) rfl (to_iinc (L' := [(0, .inr (.inr 1)), (1, .inl x42), (2, .inl y9), (3, .inr (.inr q23)), (4, .inl (y25 + 1))]) (dat dk_X11_differentWords 38 rfl) rfl (by decide) rfl (to_goto (dat dk_X11_differentWords 39 rfl) rfl ?_))
            exact ihn30 (n30 - 1) (by omega) x42 (y25 + 1) h35 rx42 (by omega) Ih35 f37 d38 (show 0 ≤ (y25 + 1) by omega) (ENL.mono e39 (by omega) (by omega) (by omega)) (show 67108865 - (y25 + 1) ≤ ((n30 - 1 : Nat) : Int) by omega)
      exact lp40_n30 (67108865 - (0 : Int)).toNat y8 0 h10 ry8 (by decide) Ih10 fh10 tq23 (show 0 ≤ (0 : Int) by omega) (ENL.mono c12 (by omega) (by omega) (by omega)) (by omega)
  exact lp11_n13 (61 - (0 : Int)).toNat 0 0 h4 (by decide) (by decide) Ih4 f6 (show 0 ≤ (0 : Int) by omega) (ENL.mono e7 (by omega) (by omega) (by omega)) (by omega)
abbrev Q_X11_differentTags_vb (h : Hp) : Option V → Hp → Nat → Nat → Prop := RIa (fun x H mc ms => Inv H ∧ Fr [160, 24, 368] h H ∧ (ENL h H mc ms (0) (0) (0)))
set_option maxRecDepth 100000 in
theorem ct_X11_differentTags_vb (l : Launch) (h : Hp) (hI : Inv h) (g0 : Bks h) : Ct l D_X11_differentTags 3 64 [.inr (.inr 1)] h (Q_X11_differentTags_vb h) := by
  refine ct_of pn_X11_differentTags (Nat.le_of_ble_eq_true rfl) ?_
  show To l E_X11_differentTags (0, [(0, .inr (.inr 1))], [], h, 0, 0) _
  have e00 : ENL h h 0 0 0 0 0 := ENL.rf g0 (by decide) (by decide) (by decide)
  refine to_iconst (dat dk_X11_differentTags 0 rfl) (to_istore_n (L' := [(0, .inr (.inr 1)), (1, .inl 0)]) (dat dk_X11_differentTags 1 rfl) (by decide) rfl (to_aload_n (dat dk_X11_differentTags 2 rfl) rfl (to_getR 20 g_c0_34 (dat dk_X11_differentTags 3 rfl) (hI.atS rfl) (hI.atE rfl) ?_)))
  have q1 := (id e00).2
  have q2 := Bks.each hI e00.1
  refine to_cVa ca_c0_261 (dat dk_X11_differentTags 4 rfl) (ct_X0_startRound_v20 l h hI g0) rfl ⟨_, _, rfl, (hI.atS rfl)⟩ rfl (fun h4 mcx3 msx3 p5 => ?_)
  obtain ⟨Ih4, fh4, p5_0⟩ := p5
  have f6 : Fr [160, 24, 368] h h4 := Fr.sub (Fr.rf _ _) fh4 rfl
  have e7 : ENL h h4 (0 + mcx3) (0 + msx3) (0 + 0) (0 + 0) (0 + 0) := ENL.tr e00 p5_0 rfl rfl (by omega) (by omega) (by omega)
  refine to_iconst (dat dk_X11_differentTags 5 rfl) (to_istore_n (L' := [(0, .inr (.inr 1)), (1, .inl 0), (2, .inl 0)]) (dat dk_X11_differentTags 6 rfl) (by decide) rfl ?_)
  have lp11_n13 : ∀ (n13 : Nat) (y8 : Int) (y9 : Int) (h10 : Hp), (I32 y8) → (I32 y9) → (Inv h10) → (Fr [160, 24, 368] h h10) → (0 ≤ y9) → (ENL h h10 (0 + mcx3) (0 + msx3) (0) (0) (0)) → (61 - y9 ≤ (n13 : Int)) → To l E_X11_differentTags (11, [(0, .inr (.inr 1)), (1, .inl y8), (2, .inl y9)], [], h10, (0 + mcx3), (0 + msx3)) (Q_X11_differentTags_vb h) := by
    intro n13
    induction n13 using Nat.strongRecOn with
    | _ n13 ihn13 =>
    intro y8 y9 h10 ry8 ry9 Ih10 fh10 c11 c12 c14
    refine to_iload_n (dat dk_X11_differentTags 7 rfl) rfl (to_aload_n (dat dk_X11_differentTags 8 rfl) rfl (to_getR 26 g_c0_40 (dat dk_X11_differentTags 9 rfl) (Ih10.atS rfl) (Ih10.atE rfl) ?_))
    obtain ⟨x15, ex15⟩ : ∃ y : Int, h10.2.2 26 2 = y := ⟨_, rfl⟩
    have rx15 := Ih10.atR (a := 26) (j := 2) rfl
    rw [ex15] at rx15
    refine to_cI ca_c0_93 (dat dk_X11_differentTags 10 rfl) (ct_Jx4a65c_size_8abf5 l h10 Ih10 ) rfl ⟨_, _, rfl, (Ih10.atS rfl)⟩ rfl (fun x16 h17 rx16 p18 => ?_)
    obtain ⟨rfl, p18_0, p18_1⟩ := p18
    refine to_ige 82 (dat dk_X11_differentTags 11 rfl) rfl ry9 rx16 (fun c19 => ?_) (fun c19 => ?_)
    · skip
      refine to_iload_n (dat dk_X11_differentTags 41 rfl) rfl ?_
      exact to_iret rfl (dat dk_X11_differentTags 42 rfl) (ri_mka ry8 ⟨Ih10, fh10, (ENL.mono c12 (by omega) (by omega) (by omega))⟩)
    · skip
      refine to_aload_n (dat dk_X11_differentTags 12 rfl) rfl (to_getR 26 g_c0_40 (dat dk_X11_differentTags 13 rfl) (Ih10.atS rfl) (Ih10.atE rfl) (to_iload_n (dat dk_X11_differentTags 14 rfl) rfl ?_))
      refine to_cR ca_c0_144 (dat dk_X11_differentTags 15 rfl) (ct_Jx4a65c_get_915e3 l h10 Ih10 y9 ry9 (show 0 ≤ y9 ∧ y9 < h10.2.2 26 2 by omega)) rfl ⟨_, _, rfl, (Ih10.atS rfl)⟩ rfl (fun x20 h21 p22 => ?_)
      obtain ⟨rfl, p22_0⟩ := p22
      refine to_castM (C := RX6) (T := TX6) (N := 8) (ci := 5) rfl (tin 2 235 (by decide +kernel) rfl) (dat dk_X11_differentTags 16 rfl) p22_0.1 (to_astore_n (L' := [(0, .inr (.inr 1)), (1, .inl y8), (2, .inl y9), (3, .inr (.inr x20))]) (dat dk_X11_differentTags 17 rfl) (by have := full.big Ih10 p22_0; omega) (by decide) rfl (to_iconst (dat dk_X11_differentTags 18 rfl) (to_istore (L' := [(0, .inr (.inr 1)), (1, .inl y8), (2, .inl y9), (3, .inr (.inr x20)), (4, .inl 0)]) (dat dk_X11_differentTags 19 rfl) (by decide) rfl ?_)))
      have lp37_n29 : ∀ (n29 : Nat) (y23 : Int) (y24 : Int) (h25 : Hp), (I32 y23) → (I32 y24) → (Inv h25) → (Fr [160, 24, 368] h h25) → (full h25 x20) → (0 ≤ y24) → (ENL h h25 (0 + mcx3) (0 + msx3) (0) (0) (0)) → (9 - y24 ≤ (n29 : Int)) → To l E_X11_differentTags (37, [(0, .inr (.inr 1)), (1, .inl y23), (2, .inl y9), (3, .inr (.inr x20)), (4, .inl y24)], [], h25, (0 + mcx3), (0 + msx3)) (Q_X11_differentTags_vb h) := by
        intro n29
        induction n29 using Nat.strongRecOn with
        | _ n29 ihn29 =>
        intro y23 y24 h25 ry23 ry24 Ih25 fh25 d26 c27 c28 c30
        refine to_iload (dat dk_X11_differentTags 20 rfl) rfl (to_aload_np (dat dk_X11_differentTags 21 rfl) (by have := full.big Ih25 d26; omega) rfl ?_)
        obtain ⟨x31, ex31⟩ : ∃ y : Int, h25.2.2 x20 7 = y := ⟨_, rfl⟩
        have rx31 := full.f7 Ih25 d26
        rw [ex31] at rx31
        refine to_getIv (y := x31) ex31 g_c0_160 (dat dk_X11_differentTags 22 rfl) d26.1 ?_
        refine to_ige 76 (dat dk_X11_differentTags 23 rfl) rfl ry24 (by omega) (fun c32 => ?_) (fun c32 => ?_)
        · skip
          refine to_iinc (L' := [(0, .inr (.inr 1)), (1, .inl y23), (2, .inl (y9 + 1)), (3, .inr (.inr x20)), (4, .inl y24)]) (dat dk_X11_differentTags 39 rfl) rfl (by decide) rfl (to_goto (dat dk_X11_differentTags 40 rfl) rfl ?_)
          refine to_pick [0, 1, 2] rfl ?_
          exact ihn13 (n13 - 1) (by omega) y23 (y9 + 1) h25 ry23 (by omega) Ih25 fh25 (show 0 ≤ (y9 + 1) by omega) (ENL.mono c28 (by omega) (by omega) (by omega)) (show 61 - (y9 + 1) ≤ ((n13 - 1 : Nat) : Int) by omega)
        · skip
          refine to_iload_n (dat dk_X11_differentTags 24 rfl) rfl (to_aload_n (dat dk_X11_differentTags 25 rfl) rfl (to_getR 20 g_c0_34 (dat dk_X11_differentTags 26 rfl) (Ih25.atS rfl) (Ih25.atE rfl) (to_aload_np (dat dk_X11_differentTags 27 rfl) (by have := full.big Ih25 d26; omega) rfl (to_iload (dat dk_X11_differentTags 28 rfl) rfl ?_))))
          refine to_cI ca_c0_231 (dat dk_X11_differentTags 29 rfl) (ct_X6_tagAt l h25 Ih25 x20 d26 y24 ry24) rfl ⟨_, _, rfl, d26.1⟩ rfl (fun x33 h34 rx33 p35 => ?_)
          subst p35
          refine to_cI ca_c0_266 (dat dk_X11_differentTags 30 rfl) (ct_X0_isNewInRound_v20 l h25 Ih25 x33 rx33) rfl ⟨_, _, rfl, (Ih25.atS rfl)⟩ rfl (fun x36 h37 rx36 p38 => ?_)
          obtain ⟨Ih37, fh37, zx36⟩ := p38
          have f39 : Fr [160, 24, 368] h h37 := Fr.sub fh25 fh37 rfl
          have d40 := full.fr fh37 rfl Ih25 d26
          have e41 : ENL h h37 (0 + mcx3) (0 + msx3) (0) (0) (0) := ENL.fr c28 fh37 Ih25 rfl
          have rzx36 := z_lin zx36
          clear zx36
          clear rx36
          have rx36 := rzx36
          clear rzx36
          refine to_ifeq 67 (dat dk_X11_differentTags 31 rfl) rfl (z_i32 rx36) (fun c42 => ?_) (fun c42 => ?_)
          · skip
            refine to_iconst (dat dk_X11_differentTags 34 rfl) ?_
            refine to_iaddA (dat dk_X11_differentTags 35 rfl) (fun x43 rx43 => ?_)
            refine to_istore_n (L' := [(0, .inr (.inr 1)), (1, .inl x43), (2, .inl y9), (3, .inr (.inr x20)), (4, .inl y24)]) (dat dk_X11_differentTags 36 rfl) (by decide) rfl (to_iinc (L' := [(0, .inr (.inr 1)), (1, .inl x43), (2, .inl y9), (3, .inr (.inr x20)), (4, .inl (y24 + 1))]) (dat dk_X11_differentTags 37 rfl) rfl (by decide) rfl (to_goto (dat dk_X11_differentTags 38 rfl) rfl ?_))
            exact ihn29 (n29 - 1) (by omega) x43 (y24 + 1) h37 rx43 (by omega) Ih37 f39 d40 (show 0 ≤ (y24 + 1) by omega) (ENL.mono e41 (by omega) (by omega) (by omega)) (show 9 - (y24 + 1) ≤ ((n29 - 1 : Nat) : Int) by omega)
          · skip
            replace c42 := z_one rx36 c42
            refine to_iconst (dat dk_X11_differentTags 32 rfl) (to_goto (dat dk_X11_differentTags 33 rfl) rfl ?_)
            refine to_iaddA (dat dk_X11_differentTags 35 rfl) (fun x44 rx44 => ?_)
            refine to_istore_n (L' := [(0, .inr (.inr 1)), (1, .inl x44), (2, .inl y9), (3, .inr (.inr x20)), (4, .inl y24)]) (dat dk_X11_differentTags 36 rfl) (by decide) rfl (to_iinc (L' := [(0, .inr (.inr 1)), (1, .inl x44), (2, .inl y9), (3, .inr (.inr x20)), (4, .inl (y24 + 1))]) (dat dk_X11_differentTags 37 rfl) rfl (by decide) rfl (to_goto (dat dk_X11_differentTags 38 rfl) rfl ?_))
            exact ihn29 (n29 - 1) (by omega) x44 (y24 + 1) h37 rx44 (by omega) Ih37 f39 d40 (show 0 ≤ (y24 + 1) by omega) (ENL.mono e41 (by omega) (by omega) (by omega)) (show 9 - (y24 + 1) ≤ ((n29 - 1 : Nat) : Int) by omega)
      exact lp37_n29 (9 - (0 : Int)).toNat y8 0 h10 ry8 (by decide) Ih10 fh10 p22_0 (show 0 ≤ (0 : Int) by omega) (ENL.mono c12 (by omega) (by omega) (by omega)) (by omega)
  exact lp11_n13 (61 - (0 : Int)).toNat 0 0 h4 (by decide) (by decide) Ih4 f6 (show 0 ≤ (0 : Int) by omega) (ENL.mono e7 (by omega) (by omega) (by omega)) (by omega)
abbrev Q_X11_count_vb (h : Hp) (n : Int) : Option V → Hp → Nat → Nat → Prop := RIa (fun x H mc ms => Inv H ∧ Fr [148, 160, 12, 24, 366, 368] h H ∧ (ENL h H mc ms (0) (0) (0)) ∧ (H.2.2 4 1 = h.2.2 4 1))
set_option maxRecDepth 100000 in
theorem ct_X11_count_vb (l : Launch) (h : Hp) (hI : Inv h) (n : Int) (hn : I32 n) (g0 : Bks h) : Ct l D_X11_count 4 88 [.inr (.inr 1), .inl n] h (Q_X11_count_vb h n) := by
  refine ct_of pn_X11_count (Nat.le_of_ble_eq_true rfl) ?_
  show To l E_X11_count (0, [(0, .inr (.inr 1)), (1, .inl n)], [], h, 0, 0) _
  have e00 : ENL h h 0 0 0 0 0 := ENL.rf g0 (by decide) (by decide) (by decide)
  obtain ⟨x1, ex1⟩ : ∃ y : Int, h.2.2 4 1 = y := ⟨_, rfl⟩
  have rx1 := hI.atR (a := 4) (j := 1) rfl
  rw [ex1] at rx1
  refine to_iload_n (dat dk_X11_count 0 rfl) rfl ?_
  refine to_table (d := 76) (ts := [40, 48, 53, 58, 63, 68]) (dat dk_X11_count 1 rfl) rfl rfl rfl hn (fun c2 => ?_) ⟨fun c2 => ?_, fun c2 => ?_, fun c2 => ?_, fun c2 => ?_, fun c2 => ?_, fun c2 => ?_, trivial⟩
  · skip
    refine to_iconst (dat dk_X11_count 22 rfl) ?_
    exact to_iret rfl (dat dk_X11_count 23 rfl) (ri_mka (by decide) ⟨hI, (Fr.rf _ _), (ENL.mono e00 (by omega) (by omega) (by omega)), (show h.2.2 4 1 = h.2.2 4 1 by omega)⟩)
  · skip
    refine to_aload_n (dat dk_X11_count 2 rfl) rfl (to_getR 26 g_c0_40 (dat dk_X11_count 3 rfl) (hI.atS rfl) (hI.atE rfl) ?_)
    obtain ⟨x3, ex3⟩ : ∃ y : Int, h.2.2 26 2 = y := ⟨_, rfl⟩
    have rx3 := hI.atR (a := 26) (j := 2) rfl
    rw [ex3] at rx3
    refine to_cI ca_c0_93 (dat dk_X11_count 4 rfl) (ct_Jx4a65c_size_8abf5 l h hI ) rfl ⟨_, _, rfl, (hI.atS rfl)⟩ rfl (fun x4 h5 rx4 p6 => ?_)
    obtain ⟨rfl, p6_0, p6_1⟩ := p6
    exact to_iret rfl (dat dk_X11_count 5 rfl) (ri_mka rx4 ⟨hI, (Fr.rf _ _), (ENL.mono e00 (by omega) (by omega) (by omega)), (show h.2.2 4 1 = h.2.2 4 1 by omega)⟩)
  · skip
    refine to_aload_n (dat dk_X11_count 6 rfl) rfl ?_
    obtain ⟨x7, ex7⟩ : ∃ y : Int, h.2.2 1 15 = y := ⟨_, rfl⟩
    have rx7 := hI.atR (a := 1) (j := 15) rfl
    rw [ex7] at rx7
    refine to_getIv (y := x7) ex7 g_c0_94 (dat dk_X11_count 7 rfl) (hI.atS rfl) ?_
    exact to_iret rfl (dat dk_X11_count 8 rfl) (ri_mka (by omega) ⟨hI, (Fr.rf _ _), (ENL.mono e00 (by omega) (by omega) (by omega)), (show h.2.2 4 1 = h.2.2 4 1 by omega)⟩)
  · skip
    refine to_aload_n (dat dk_X11_count 9 rfl) rfl ?_
    obtain ⟨x8, ex8⟩ : ∃ y : Int, h.2.2 1 13 = y := ⟨_, rfl⟩
    have rx8 := hI.atR (a := 1) (j := 13) rfl
    rw [ex8] at rx8
    refine to_getIv (y := x8) ex8 g_c0_188 (dat dk_X11_count 10 rfl) (hI.atS rfl) ?_
    exact to_iret rfl (dat dk_X11_count 11 rfl) (ri_mka (by omega) ⟨hI, (Fr.rf _ _), (ENL.mono e00 (by omega) (by omega) (by omega)), (show h.2.2 4 1 = h.2.2 4 1 by omega)⟩)
  · skip
    refine to_aload_n (dat dk_X11_count 12 rfl) rfl ?_
    have q9 := (id e00).2
    have q10 := Bks.each hI e00.1
    refine to_cIa ca_c0_237 (dat dk_X11_count 13 rfl) (ct_X11_differentWords_vb l h hI g0) rfl ⟨_, _, rfl, (hI.atS rfl)⟩ rfl (fun x11 h12 mcx11 msx11 rx11 p13 => ?_)
    obtain ⟨Ih12, fh12, p13_0⟩ := p13
    have f14 : Fr [148, 160, 12, 24, 366, 368] h h12 := Fr.sub (Fr.rf _ _) fh12 rfl
    have e15 : ENL h h12 (0 + mcx11) (0 + msx11) (0 + 0) (0 + 0) (0 + 0) := ENL.tr e00 p13_0 rfl rfl (by omega) (by omega) (by omega)
    have e16 : h12.2.2 4 1 = x1 := ((Fr.get fh12 (by have := hI.1.1; omega) rfl).trans ex1)
    exact to_iret rfl (dat dk_X11_count 14 rfl) (ri_mka rx11 ⟨Ih12, f14, (ENL.mono e15 (by omega) (by omega) (by omega)), (show h12.2.2 4 1 = h.2.2 4 1 by omega)⟩)
  · skip
    refine to_aload_n (dat dk_X11_count 15 rfl) rfl ?_
    have q17 := (id e00).2
    have q18 := Bks.each hI e00.1
    refine to_cIa ca_c0_240 (dat dk_X11_count 16 rfl) (ct_X11_differentTags_vb l h hI g0) rfl ⟨_, _, rfl, (hI.atS rfl)⟩ rfl (fun x19 h20 mcx19 msx19 rx19 p21 => ?_)
    obtain ⟨Ih20, fh20, p21_0⟩ := p21
    have f22 : Fr [148, 160, 12, 24, 366, 368] h h20 := Fr.sub (Fr.rf _ _) fh20 rfl
    have e23 : ENL h h20 (0 + mcx19) (0 + msx19) (0 + 0) (0 + 0) (0 + 0) := ENL.tr e00 p21_0 rfl rfl (by omega) (by omega) (by omega)
    have e24 : h20.2.2 4 1 = x1 := ((Fr.get fh20 (by have := hI.1.1; omega) rfl).trans ex1)
    exact to_iret rfl (dat dk_X11_count 17 rfl) (ri_mka rx19 ⟨Ih20, f22, (ENL.mono e23 (by omega) (by omega) (by omega)), (show h20.2.2 4 1 = h.2.2 4 1 by omega)⟩)
  · skip
    refine to_aload_n (dat dk_X11_count 18 rfl) rfl (to_getR 4 g_c0_18 (dat dk_X11_count 19 rfl) (hI.atS rfl) (hI.atE rfl) ?_)
    refine to_cI ca_c0_85 (dat dk_X11_count 20 rfl) (ct_X1_size l h hI 4 rfl) rfl ⟨_, _, rfl, (hI.atS rfl)⟩ rfl (fun x25 h26 rx25 p27 => ?_)
    obtain ⟨rfl, p27_0⟩ := p27
    exact to_iret rfl (dat dk_X11_count 21 rfl) (ri_mka rx25 ⟨hI, (Fr.rf _ _), (ENL.mono e00 (by omega) (by omega) (by omega)), (show h.2.2 4 1 = h.2.2 4 1 by omega)⟩)
