/-! The law's helpers: what they tell of the messages, of the tags. -/
set_option maxRecDepth 100000 in
theorem hl_add6 (l : Launch) (hst0 : l.stackTraces = false) (h : Hp) (hI : Inv h) (g0 : Bks h) (g1 : WT h ≤ 9000000) (g2 : ET h ≤ 3000000) (g3 : h.1 ≤ 800000) :
    ∃ (H : Hp) (mc ms : Nat), (Inv H ∧ Fr SADD h H ∧ ENL h H mc ms 1417 5820 1507 ∧ ((H.2.2 4 1 = 0 ∧ H.2.2 26 2 = h.2.2 26 2 + 1 ∧ (h.2.2 26 2 ≤ 59 ∧ h.2.2 1 15 ≤ 199 ∧ H.2.2 1 15 = h.2.2 1 15 + 1) ∧ nums H = nums h ++ [h.2.2 1 15] ∧ NMM h H) ∨ (H.2.2 4 1 = h.2.2 4 1 ∧ H.2.2 26 2 = h.2.2 26 2 ∧ (60 ≤ h.2.2 26 2 ∨ 200 ≤ h.2.2 1 15) ∧ H.2.2 1 15 = h.2.2 1 15 ∧ nums H = nums h ∧ H.2.2 5 = h.2.2 5 ∧ Fr [999] h H))) ∧ EvH l yL_add cL_add 3 [(0, 8, 11, 13)] 12 300 [.inr (.inr 1), .inr (.inr 105)] h H mc ms := by
  have tv := hI.atS (a := 105) rfl
  have t1 := hI.atS (a := 1) rfl
  rcases tx_X11_add_vz l hst0 h hI g0 g1 g2 g3 with hc | ⟨E9, h1, k1, z1, ⟨p1, p2, p3, rfl, rfl, p4, p5, p6, p7, p8, p9, p10⟩, hE⟩
  · have w : To l E_L_add (0, [(0, .inr (.inr 1)), (1, .inr (.inr 105))], [], h, 0, 0) (RIa (fun x H mc ms => Inv H ∧ Fr SADD h H ∧ ENL h H mc ms 1417 5820 1507 ∧ (H.2.2 4 1 = 0 ∧ H.2.2 26 2 = h.2.2 26 2 + 1 ∧ (h.2.2 26 2 ≤ 59 ∧ h.2.2 1 15 ≤ 199 ∧ H.2.2 1 15 = h.2.2 1 15 + 1) ∧ nums H = nums h ++ [h.2.2 1 15] ∧ NMM h H))) := by
      refine to_aload_np (dat dk_L_add 0 rfl) (by omega) rfl (to_iconst (dat dk_L_add 1 rfl) (to_aload_n (dat dk_L_add 2 rfl) rfl ?_))
      refine to_cIa ca_c12_7 (dat dk_L_add 3 rfl) hc rfl ⟨_, _, rfl, t1⟩ rfl (fun x H mc ms rx p => ?_)
      obtain ⟨q1, q2, q3, q4, q5, q6, q7⟩ := p
      have tv1 := (q2.1.2 _ (hI.ltN tv)).trans tv
      refine to_i2l (dat dk_L_add 4 rfl) (fun w9 => to_lastw (dat dk_L_add 5 rfl) tv1 rfl (by decide) (by decide) (fun H2 e2 => ?_))
      obtain ⟨r1, r2, r3⟩ := row105 (S := SADD) (x := w9) q1 (Fr.sub (Fr.rf _ _) q2 rfl) q3 (by decide +kernel)
      have e2 : H2 = wr H 105 0 w9 := e2
      refine to_goto (t := 14) (dat dk_L_add 6 rfl) rfl (to_iconst (dat dk_L_add 10 rfl) ?_)
      rw [Nat.zero_add, Nat.zero_add]
      exact to_iret rfl (dat dk_L_add 11 rfl) (ri_mka (by decide) ⟨by rw [e2]; exact r1, by rw [e2]; exact r2, by rw [e2]; exact ENL.mono r3 (by omega) (by omega) (by omega), by rw [e2, wr_ne (by omega)]; exact q4, by rw [e2, wr_ne (by omega)]; exact q5, ⟨q6.1, q6.2.1, by rw [e2, wr_ne (by omega)]; exact q6.2.2⟩, (nums_fr (S := [105]) (by rw [e2]; exact fr_wr [105] rfl) q1 rfl).trans q7.1, q7.2.fr (S := [105]) q1 (by rw [e2]; exact fr_wr [105] rfl) rfl rfl⟩)
    obtain ⟨r, H, mc, ms, ⟨x, -, -, q1, q2, q3, q4⟩, hE⟩ := evh_of (y := yL_add) (cy := cL_add) (ml := 3) (fr := 12) (lo := 300) (av := [.inr (.inr 1), .inr (.inr 105)]) (h := h) (hh := [(0, 8, 11, 13)]) pn_L_add (Nat.le_of_ble_eq_true rfl) w (fun r h' k z q => by obtain ⟨x, q, -⟩ := q; exact ⟨x, q⟩)
    exact ⟨H, mc, ms, ⟨q1, q2, q3, Or.inl q4⟩, hE⟩
  · have hs : Sx_ l E_L_add (0, [(0, .inr (.inr 1)), (1, .inr (.inr 105))], [], h, 0, 0) (3, [(0, .inr (.inr 1)), (1, .inr (.inr 105))], [.inr (.inr 1), .inl 0, .inr (.inr 105)], h, 0, 0) := by
      refine pre_sx ?_
      refine tg_aload_np Tx.gn (dat dk_L_add 0 rfl) (by omega) rfl (tg_iconst Tx.gn (dat dk_L_add 1 rfl) (tg_aload_n Tx.gn (dat dk_L_add 2 rfl) rfl ?_))
      exact Or.inr ⟨_, rfl, sx_rfl _⟩
    have h9 := p2.1.2.1
    have e := p4.2.2.1
    have k := evh_thr (y := yL_add) (cy := cL_add) (ml := 3) (fr := 12) (lo := 300) (av := [.inr (.inr 1), .inr (.inr 105)]) (h := h) (st2 := [.inr (.inr 1), .inl 0, .inr (.inr 105)]) (as := []) (r := [.inl 0, .inr (.inr 105)]) (hh := [(0, 8, 11, 13)]) (npx := 0) pn_L_add rfl (Nat.le_of_ble_eq_true rfl) hs mok_X11_add rfl (tin 3 78 (by decide +kernel) rfl) (tin 3 79 (by decide +kernel) rfl) (tin 3 80 (by decide +kernel) rfl) (tin 1 1 (by decide +kernel) rfl) (dat dk_L_add 3 rfl) rfl t1 (Nat.le_of_ble_eq_true rfl) (by decide) (by decide) hE (hent_add l) ⟨_, List.mem_singleton.mpr rfl, p1.symm⟩
    exact ⟨_, _, _, ⟨p2.xh (by omega), Fr.xh (Fr.sub (Fr.rf _ _) p3 rfl) rfl, ENL.mono (p4.xh (by decide)) (by omega) (by omega) (by omega), Or.inr ⟨p5, p6, p7, p8, p9, by rw [p10]; rfl, by rw [p10]; exact Fr.xh (Fr.rf [999] h) rfl⟩⟩, k⟩
set_option maxRecDepth 100000 in
theorem hl_remove6 (l : Launch) (hst0 : l.stackTraces = false) (h : Hp) (hI : Inv h) (g0 : Bks h) (g3 : h.1 ≤ 800000) (n : Int) (hn : I32 n) :
    ∃ (H : Hp) (mc ms : Nat), (Inv H ∧ Fr SREM h H ∧ ENL h H mc ms 0 0 7 ∧ H.2.2 4 1 = h.2.2 4 1 ∧ ((H.2.2 26 2 = h.2.2 26 2 - 1 ∧ RMM h H n) ∨ (H.2.2 26 2 = h.2.2 26 2 ∧ n ∉ nums h ∧ nums H = nums h ∧ Fr [999] h H))) ∧ EvH l yL_remove cL_remove 3 [(0, 5, 8, 19)] 8 300 [.inr (.inr 1), .inl n] h H mc ms := by
  have t1 := hI.atS (a := 1) rfl
  have e00 : ENL h h 0 0 0 0 0 := ENL.rf g0 (by decide) (by decide) (by decide)
  rcases tx_X11_remove_vz l hst0 h hI n hn with hc | ⟨E9, h1, k1, z1, ⟨p1, p2, p3, rfl, rfl, p5, p6, p7, p8, p9⟩, hE⟩
  · have w : To l E_L_remove (0, [(0, .inr (.inr 1)), (1, .inl n)], [], h, 0, 0) (RIa (fun x H mc ms => Inv H ∧ Fr SREM h H ∧ ENL h H mc ms 0 0 7 ∧ H.2.2 4 1 = h.2.2 4 1 ∧ ((H.2.2 26 2 = h.2.2 26 2 - 1 ∧ RMM h H n) ∨ (H.2.2 26 2 = h.2.2 26 2 ∧ n ∉ nums h ∧ nums H = nums h ∧ Fr [999] h H)))) := by
      refine to_aload_n (dat dk_L_remove 0 rfl) rfl (to_iload_n (dat dk_L_remove 1 rfl) rfl ?_)
      refine to_cV ca_c12_15 (dat dk_L_remove 2 rfl) hc rfl ⟨_, _, rfl, t1⟩ rfl (fun H p => ?_)
      obtain ⟨q1, q2, q3, q4, q5⟩ := p
      have e1 := ENL.fr e00 q2 hI rfl
      refine to_goto (t := 11) (dat dk_L_remove 3 rfl) rfl (to_iconst (dat dk_L_remove 7 rfl) ?_)
      exact to_iret rfl (dat dk_L_remove 8 rfl) (ri_mka (by decide) ⟨q1, Fr.sub (Fr.rf _ _) q2 rfl, ENL.mono e1 (by decide) (by decide) (by decide), q3, Or.inl ⟨q4, q5⟩⟩)
    obtain ⟨r, H, mc, ms, ⟨x, -, -, q⟩, hE⟩ := evh_of (y := yL_remove) (cy := cL_remove) (ml := 3) (fr := 8) (lo := 300) (av := [.inr (.inr 1), .inl n]) (h := h) (hh := [(0, 5, 8, 19)]) pn_L_remove (Nat.le_of_ble_eq_true rfl) w (fun r h' k z q => by obtain ⟨x, q, -⟩ := q; exact ⟨x, q⟩)
    exact ⟨H, mc, ms, q, hE⟩
  · have hs : Sx_ l E_L_remove (0, [(0, .inr (.inr 1)), (1, .inl n)], [], h, 0, 0) (2, [(0, .inr (.inr 1)), (1, .inl n)], [.inl n, .inr (.inr 1)], h, 0, 0) := by
      refine pre_sx ?_
      refine tg_aload_n Tx.gn (dat dk_L_remove 0 rfl) rfl (tg_iload_n Tx.gn (dat dk_L_remove 1 rfl) rfl ?_)
      exact Or.inr ⟨_, rfl, sx_rfl _⟩
    have h9 := p2.1.2.1
    have e1 := ENL.fr e00 p3 hI rfl
    have k := evh_thr (y := yL_remove) (cy := cL_remove) (ml := 3) (fr := 8) (lo := 300) (av := [.inr (.inr 1), .inl n]) (h := h) (st2 := [.inl n, .inr (.inr 1)]) (as := [.inl n]) (r := []) (hh := [(0, 5, 8, 19)]) (npx := 1) pn_L_remove rfl (Nat.le_of_ble_eq_true rfl) hs mok_X11_remove rfl (tin 5 148 (by decide +kernel) rfl) (tin 5 149 (by decide +kernel) rfl) (tin 5 150 (by decide +kernel) rfl) (tin 1 1 (by decide +kernel) rfl) (dat dk_L_remove 2 rfl) rfl t1 (Nat.le_of_ble_eq_true rfl) (by decide) (by decide) hE (hent_remove l) ⟨_, List.mem_singleton.mpr rfl, p1.symm⟩
    have e9 := e1.2.2.1
    exact ⟨_, _, _, ⟨p2.xh (by omega), Fr.xh (Fr.sub (Fr.rf _ _) p3 rfl) rfl, ENL.mono (e1.xh (by decide)) (by decide) (by decide) (by decide), p5, Or.inr ⟨p6, p7, p8, by rw [p9]; exact Fr.xh (Fr.rf [999] h) rfl⟩⟩, k⟩
theorem hentv_tag1 (l : Launch) : ∀ z ∈ tableOf [((0 : Nat), (17 : Nat), (20 : Nat), (19 : Nat))], hentv l cL_tag 5 5 1 z := by
  intro z hz
  cases List.mem_singleton.mp hz
  exact ⟨rfl, by decide, tin 5 147 (by decide +kernel) rfl, tinN 5 154 (by decide +kernel) rfl, fun p e R s m args below meth c H locs cells slots Q ls lv q hx hb hl kk => lv_astore hx hb (i := 4) (dat dk_L_tag 12 rfl) hl (by decide) rfl (fun ls' _ => lv_iconst hx hb (dat dk_L_tag 13 rfl) rfl (kk _ ls' (dat dk_L_tag 14 rfl)))⟩
theorem hentv_tag2 (l : Launch) : ∀ z ∈ tableOf [((0 : Nat), (17 : Nat), (24 : Nat), (25 : Nat))], hentv l cL_tag 5 5 2 z := by
  intro z hz
  cases List.mem_singleton.mp hz
  exact ⟨rfl, by decide, tin 5 180 (by decide +kernel) rfl, tinN 5 196 (by decide +kernel) rfl, fun p e R s m args below meth c H locs cells slots Q ls lv q hx hb hl kk => lv_astore hx hb (i := 4) (dat dk_L_tag 15 rfl) hl (by decide) rfl (fun ls' _ => lv_iconst hx hb (dat dk_L_tag 16 rfl) rfl (kk _ ls' (dat dk_L_tag 17 rfl)))⟩
theorem hentv_tag3 (l : Launch) : ∀ z ∈ tableOf [((0 : Nat), (17 : Nat), (28 : Nat), (13 : Nat))], hentv l cL_tag 5 5 3 z := by
  intro z hz
  cases List.mem_singleton.mp hz
  exact ⟨rfl, by decide, tin 3 77 (by decide +kernel) rfl, tinN 3 84 (by decide +kernel) rfl, fun p e R s m args below meth c H locs cells slots Q ls lv q hx hb hl kk => lv_astore hx hb (i := 4) (dat dk_L_tag 18 rfl) hl (by decide) rfl (fun ls' _ => lv_iconst hx hb (dat dk_L_tag 19 rfl) rfl (kk _ ls' (dat dk_L_tag 20 rfl)))⟩
set_option maxRecDepth 100000 in
theorem hlx_tag (l : Launch) (hst0 : l.stackTraces = false) (h : Hp) (hI : Inv h) (g0 : Bks h) (g1 : WT h ≤ 9000000) (g2 : ET h ≤ 3000000) (g3 : h.1 ≤ 800000) (bi : BI h) (tgp : TGP h) (n : Int) (hn : I32 n) (b : Int) (hb : b = 0 ∨ b = 1) :
    ∃ (n0 : Int) (H : Hp) (mc ms : Nat), (Inv H ∧ Fr STAG h H ∧ ENL h H mc ms 1 60 7 ∧ H.2.2 4 1 = 0 ∧ H.2.2 26 2 = h.2.2 26 2 ∧ (0 ≤ n0 ∧ n0 ≤ 3) ∧ COUT h H n b n0) ∧ EvN l yL_tag cL_tag 5 [(0, 17, 20, 19), (0, 17, 24, 25), (0, 17, 28, 13)] 8 300 [.inr (.inr 1), .inl n, .inl b, .inr (.inr 105)] h n0 H mc ms := by
  have tv := hI.atS (a := 105) rfl
  have t1 := hI.atS (a := 1) rfl
  rcases tx_X11_tag_vx l hst0 h hI n hn b hb g0 g1 g2 g3 bi tgp with hc | ⟨E9, h1, k1, z1, ⟨p1, p2, p3, rfl, rfl, p4, p5, p6, p7⟩, hE⟩
  · have w : To l E_L_tag (0, [(0, .inr (.inr 1)), (1, .inl n), (2, .inl b), (3, .inr (.inr 105))], [], h, 0, 0) (RIa (fun x H mc ms => x = 0 ∧ Inv H ∧ Fr STAG h H ∧ ENL h H mc ms 1 60 7 ∧ H.2.2 4 1 = 0 ∧ H.2.2 26 2 = h.2.2 26 2 ∧ COUT h H n b 0)) := by
      refine to_aload_np (dat dk_L_tag 0 rfl) (by omega) rfl (to_iconst (dat dk_L_tag 1 rfl) (to_aload_n (dat dk_L_tag 2 rfl) rfl (to_iload_n (dat dk_L_tag 3 rfl) rfl (to_iload_n (dat dk_L_tag 4 rfl) rfl ?_))))
      refine to_cIa ca_c12_21 (dat dk_L_tag 5 rfl) hc rfl ⟨_, _, rfl, t1⟩ rfl (fun x H mc ms rx p => ?_)
      obtain ⟨q1, q2, zx, q3, q4, q5, q6⟩ := p
      have tv1 := (q2.1.2 _ (hI.ltN tv)).trans tv
      have at16 : ∀ w9 : Int, w9 = x → To l E_L_tag (16, [(0, .inr (.inr 1)), (1, .inl n), (2, .inl b), (3, .inr (.inr 105))], [.inr (.inl w9), .inl 0, .inr (.inr 105)], H, 0 + mc, 0 + ms) (RIa (fun x H mc ms => x = 0 ∧ Inv H ∧ Fr STAG h H ∧ ENL h H mc ms 1 60 7 ∧ H.2.2 4 1 = 0 ∧ H.2.2 26 2 = h.2.2 26 2 ∧ COUT h H n b 0)) := by
        intro w9 ew9
        refine to_lastw (dat dk_L_tag 10 rfl) tv1 rfl (by decide) (by decide) (fun H2 e2 => ?_)
        obtain ⟨r1, r2, r3⟩ := row105 (S := STAG) (x := w9) q1 (Fr.sub (Fr.rf _ _) q2 rfl) q3 (by decide +kernel)
        have e2 : H2 = wr H 105 0 w9 := e2
        refine to_goto (t := 32) (dat dk_L_tag 11 rfl) rfl (to_iconst (dat dk_L_tag 21 rfl) ?_)
        rw [Nat.zero_add, Nat.zero_add]
        exact to_iret rfl (dat dk_L_tag 22 rfl) (ri_mka (by decide) ⟨rfl, by rw [e2]; exact r1, by rw [e2]; exact r2, by rw [e2]; exact ENL.mono r3 (by decide) (by decide) (by decide), by rw [e2, wr_ne (by omega)]; exact q4, by rw [e2, wr_ne (by omega)]; exact q5, ⟨H, q1, by rw [e2]; exact fr_wr [105, 999] rfl, Or.inl ⟨rfl, x, by rw [e2, wr_eq]; exact ew9, q6⟩⟩⟩)
      refine to_ifeq 15 (dat dk_L_tag 6 rfl) rfl rx (fun c1 => ?_) (fun c1 => ?_)
      · exact to_lconst (v := 0) (dat dk_L_tag 9 rfl) rfl (at16 0 (by omega))
      · exact to_lconst (v := 1) (dat dk_L_tag 7 rfl) rfl (to_goto (t := 16) (dat dk_L_tag 8 rfl) rfl (at16 1 (by omega)))
    obtain ⟨r, H, mc, ms, ⟨x, -, -, q0, q⟩, hE⟩ := evn_of (n0 := 0) (y := yL_tag) (cy := cL_tag) (ml := 5) (fr := 8) (lo := 300) (av := [.inr (.inr 1), .inl n, .inl b, .inr (.inr 105)]) (h := h) (hh := [(0, 17, 20, 19), (0, 17, 24, 25), (0, 17, 28, 13)]) pn_L_tag (Nat.le_of_ble_eq_true rfl) w (fun r h' k z q => by obtain ⟨x, q, -, q0, -⟩ := q; rw [q, q0])
    exact ⟨0, H, mc, ms, ⟨q.1, q.2.1, q.2.2.1, q.2.2.2.1, q.2.2.2.2.1, ⟨by decide, by decide⟩, q.2.2.2.2.2⟩, hE⟩
  · have hs : Sx_ l E_L_tag (0, [(0, .inr (.inr 1)), (1, .inl n), (2, .inl b), (3, .inr (.inr 105))], [], h, 0, 0) (5, [(0, .inr (.inr 1)), (1, .inl n), (2, .inl b), (3, .inr (.inr 105))], [.inl b, .inl n, .inr (.inr 1), .inl 0, .inr (.inr 105)], h, 0, 0) := by
      refine pre_sx ?_
      refine tg_aload_np Tx.gn (dat dk_L_tag 0 rfl) (by omega) rfl (tg_iconst Tx.gn (dat dk_L_tag 1 rfl) (tg_aload_n Tx.gn (dat dk_L_tag 2 rfl) rfl (tg_iload_n Tx.gn (dat dk_L_tag 3 rfl) rfl (tg_iload_n Tx.gn (dat dk_L_tag 4 rfl) rfl ?_))))
      exact Or.inr ⟨_, rfl, sx_rfl _⟩
    have h9 := p2.1.2.1
    have e9 := p4.2.2.1
    rcases p1 with rfl | rfl | rfl
    · have k := evn_thr (n0 := 1) (pre := tableOf []) (suf := tableOf [((0 : Nat), (17 : Nat), (24 : Nat), (25 : Nat)), ((0 : Nat), (17 : Nat), (28 : Nat), (13 : Nat))]) (y := yL_tag) (cy := cL_tag) (ml := 5) (fr := 8) (lo := 300) (av := [.inr (.inr 1), .inl n, .inl b, .inr (.inr 105)]) (h := h) (st2 := [.inl b, .inl n, .inr (.inr 1), .inl 0, .inr (.inr 105)]) (as := [.inl n, .inl b]) (r := [.inl 0, .inr (.inr 105)]) (hh := [(0, 17, 20, 19), (0, 17, 24, 25), (0, 17, 28, 13)]) (npx := 2) pn_L_tag rfl (Nat.le_of_ble_eq_true rfl) hs mok_X11_tag rfl (tin 5 181 (by decide +kernel) rfl) (tin 5 182 (by decide +kernel) rfl) (tin 5 183 (by decide +kernel) rfl) (tin 1 1 (by decide +kernel) rfl) (dat dk_L_tag 5 rfl) rfl t1 (Nat.le_of_ble_eq_true rfl) (by decide) (by decide) hE rfl (fun z hz => by cases hz) (hentv_tag1 l _ (List.mem_singleton.mpr rfl)) rfl
      exact ⟨1, _, _, _, ⟨p2.xh (by omega), Fr.xh (Fr.sub (Fr.rf _ _) p3 rfl) rfl, ENL.mono (p4.xh (by decide)) (by decide) (by decide) (by decide), p5, p6, ⟨by decide, by decide⟩, ⟨h1, p2, Fr.xh (Fr.rf [105, 999] h1) rfl, Or.inr (Or.inl ⟨rfl, p7⟩)⟩⟩, k⟩
    · have k := evn_thr (n0 := 2) (pre := tableOf [((0 : Nat), (17 : Nat), (20 : Nat), (19 : Nat))]) (suf := tableOf [((0 : Nat), (17 : Nat), (28 : Nat), (13 : Nat))]) (y := yL_tag) (cy := cL_tag) (ml := 5) (fr := 8) (lo := 300) (av := [.inr (.inr 1), .inl n, .inl b, .inr (.inr 105)]) (h := h) (st2 := [.inl b, .inl n, .inr (.inr 1), .inl 0, .inr (.inr 105)]) (as := [.inl n, .inl b]) (r := [.inl 0, .inr (.inr 105)]) (hh := [(0, 17, 20, 19), (0, 17, 24, 25), (0, 17, 28, 13)]) (npx := 2) pn_L_tag rfl (Nat.le_of_ble_eq_true rfl) hs mok_X11_tag rfl (tin 5 181 (by decide +kernel) rfl) (tin 5 182 (by decide +kernel) rfl) (tin 5 183 (by decide +kernel) rfl) (tin 1 1 (by decide +kernel) rfl) (dat dk_L_tag 5 rfl) rfl t1 (Nat.le_of_ble_eq_true rfl) (by decide) (by decide) hE rfl (fun z hz => by cases List.mem_singleton.mp hz; exact ⟨by decide, tin 5 147 (by decide +kernel) rfl, fun U hU => hU.1⟩) (hentv_tag2 l _ (List.mem_singleton.mpr rfl)) rfl
      exact ⟨2, _, _, _, ⟨p2.xh (by omega), Fr.xh (Fr.sub (Fr.rf _ _) p3 rfl) rfl, ENL.mono (p4.xh (by decide)) (by decide) (by decide) (by decide), p5, p6, ⟨by decide, by decide⟩, ⟨h1, p2, Fr.xh (Fr.rf [105, 999] h1) rfl, Or.inr (Or.inr (Or.inl ⟨rfl, p7⟩))⟩⟩, k⟩
    · have k := evn_thr (n0 := 3) (pre := tableOf [((0 : Nat), (17 : Nat), (20 : Nat), (19 : Nat)), ((0 : Nat), (17 : Nat), (24 : Nat), (25 : Nat))]) (suf := tableOf []) (y := yL_tag) (cy := cL_tag) (ml := 5) (fr := 8) (lo := 300) (av := [.inr (.inr 1), .inl n, .inl b, .inr (.inr 105)]) (h := h) (st2 := [.inl b, .inl n, .inr (.inr 1), .inl 0, .inr (.inr 105)]) (as := [.inl n, .inl b]) (r := [.inl 0, .inr (.inr 105)]) (hh := [(0, 17, 20, 19), (0, 17, 24, 25), (0, 17, 28, 13)]) (npx := 2) pn_L_tag rfl (Nat.le_of_ble_eq_true rfl) hs mok_X11_tag rfl (tin 5 181 (by decide +kernel) rfl) (tin 5 182 (by decide +kernel) rfl) (tin 5 183 (by decide +kernel) rfl) (tin 1 1 (by decide +kernel) rfl) (dat dk_L_tag 5 rfl) rfl t1 (Nat.le_of_ble_eq_true rfl) (by decide) (by decide) hE rfl (fun z hz => by
        rcases List.mem_cons.mp hz with rfl | hz
        · exact ⟨by decide, tin 5 147 (by decide +kernel) rfl, fun U hU => hU.2.1⟩
        · cases List.mem_singleton.mp hz
          exact ⟨by decide, tin 5 180 (by decide +kernel) rfl, fun U hU => hU.2.2⟩) (hentv_tag3 l _ (List.mem_singleton.mpr rfl)) rfl
      exact ⟨3, _, _, _, ⟨p2.xh (by omega), Fr.xh (Fr.sub (Fr.rf _ _) p3 rfl) rfl, ENL.mono (p4.xh (by decide)) (by decide) (by decide) (by decide), p5, p6, ⟨by decide, by decide⟩, ⟨h1, p2, Fr.xh (Fr.rf [105, 999] h1) rfl, Or.inr (Or.inr (Or.inr ⟨rfl, p7⟩))⟩⟩, k⟩
