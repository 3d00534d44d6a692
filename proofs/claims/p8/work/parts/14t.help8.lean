/-! Helpers that tell more. -/
set_option maxRecDepth 100000 in
theorem hl_add8 (l : Launch) (hst0 : l.stackTraces = false) (h : Hp) (hI : Inv h) (g0 : Bks h) (g1 : WT h ≤ 9000000) (g2 : ET h ≤ 3000000) (g3 : h.1 ≤ 800000) :
    ∃ (H : Hp) (mc ms : Nat), (Inv H ∧ Fr SADD h H ∧ ENL h H mc ms 1417 5820 1507 ∧ ((H.2.2 4 1 = 0 ∧ H.2.2 26 2 = h.2.2 26 2 + 1 ∧ (h.2.2 26 2 ≤ 59 ∧ h.2.2 1 15 ≤ 199 ∧ H.2.2 1 15 = h.2.2 1 15 + 1) ∧ nums H = nums h ++ [h.2.2 1 15]) ∨ (H.2.2 4 1 = h.2.2 4 1 ∧ H.2.2 26 2 = h.2.2 26 2 ∧ (60 ≤ h.2.2 26 2 ∨ 200 ≤ h.2.2 1 15) ∧ H.2.2 1 15 = h.2.2 1 15 ∧ nums H = nums h ∧ H.2.2 5 = h.2.2 5))) ∧ EvH l yL_add cL_add 3 [(0, 8, 11, 13)] 12 300 [.inr (.inr 1), .inr (.inr 105)] h H mc ms := by
  have tv := hI.atS (a := 105) rfl
  have t1 := hI.atS (a := 1) rfl
  rcases tx_X11_add_vy l hst0 h hI g0 g1 g2 g3 with hc | ⟨E9, h1, k1, z1, ⟨p1, p2, p3, rfl, rfl, p4, p5, p6, p7, p8, p9, p10⟩, hE⟩
  · have w : To l E_L_add (0, [(0, .inr (.inr 1)), (1, .inr (.inr 105))], [], h, 0, 0) (RIa (fun x H mc ms => Inv H ∧ Fr SADD h H ∧ ENL h H mc ms 1417 5820 1507 ∧ (H.2.2 4 1 = 0 ∧ H.2.2 26 2 = h.2.2 26 2 + 1 ∧ (h.2.2 26 2 ≤ 59 ∧ h.2.2 1 15 ≤ 199 ∧ H.2.2 1 15 = h.2.2 1 15 + 1) ∧ nums H = nums h ++ [h.2.2 1 15]))) := by
      refine to_aload_np (dat dk_L_add 0 rfl) (by omega) rfl (to_iconst (dat dk_L_add 1 rfl) (to_aload_n (dat dk_L_add 2 rfl) rfl ?_))
      refine to_cIa ca_c12_7 (dat dk_L_add 3 rfl) hc rfl ⟨_, _, rfl, t1⟩ rfl (fun x H mc ms rx p => ?_)
      obtain ⟨q1, q2, q3, q4, q5, q6, q7⟩ := p
      have tv1 := (q2.1.2 _ (hI.ltN tv)).trans tv
      refine to_i2l (dat dk_L_add 4 rfl) (fun w9 => to_lastw (dat dk_L_add 5 rfl) tv1 rfl (by decide) (by decide) (fun H2 e2 => ?_))
      obtain ⟨r1, r2, r3⟩ := row105 (S := SADD) (x := w9) q1 (Fr.sub (Fr.rf _ _) q2 rfl) q3 (by decide +kernel)
      have e2 : H2 = wr H 105 0 w9 := e2
      refine to_goto (t := 14) (dat dk_L_add 6 rfl) rfl (to_iconst (dat dk_L_add 10 rfl) ?_)
      rw [Nat.zero_add, Nat.zero_add]
      exact to_iret rfl (dat dk_L_add 11 rfl) (ri_mka (by decide) ⟨by rw [e2]; exact r1, by rw [e2]; exact r2, by rw [e2]; exact ENL.mono r3 (by omega) (by omega) (by omega), by rw [e2, wr_ne (by omega)]; exact q4, by rw [e2, wr_ne (by omega)]; exact q5, ⟨q6.1, q6.2.1, by rw [e2, wr_ne (by omega)]; exact q6.2.2⟩, (nums_fr (S := [105]) (by rw [e2]; exact fr_wr [105] rfl) q1 rfl).trans q7⟩)
    obtain ⟨r, H, mc, ms, ⟨x, -, -, q1, q2, q3, q4⟩, hE⟩ := evh_of (y := yL_add) (cy := cL_add) (ml := 3) (fr := 12) (lo := 300) (av := [.inr (.inr 1), .inr (.inr 105)]) (h := h) (hh := [(0, 8, 11, 13)]) pn_L_add (Nat.le_of_ble_eq_true rfl) w (fun r h' k z q => by obtain ⟨x, q, -⟩ := q; exact ⟨x, q⟩)
    exact ⟨H, mc, ms, ⟨q1, q2, q3, Or.inl q4⟩, hE⟩
  · have hs : Sx_ l E_L_add (0, [(0, .inr (.inr 1)), (1, .inr (.inr 105))], [], h, 0, 0) (3, [(0, .inr (.inr 1)), (1, .inr (.inr 105))], [.inr (.inr 1), .inl 0, .inr (.inr 105)], h, 0, 0) := by
      refine pre_sx ?_
      refine tg_aload_np Tx.gn (dat dk_L_add 0 rfl) (by omega) rfl (tg_iconst Tx.gn (dat dk_L_add 1 rfl) (tg_aload_n Tx.gn (dat dk_L_add 2 rfl) rfl ?_))
      exact Or.inr ⟨_, rfl, sx_rfl _⟩
    have h9 := p2.1.2.1
    have e := p4.2.2.1
    have k := evh_thr (y := yL_add) (cy := cL_add) (ml := 3) (fr := 12) (lo := 300) (av := [.inr (.inr 1), .inr (.inr 105)]) (h := h) (st2 := [.inr (.inr 1), .inl 0, .inr (.inr 105)]) (as := []) (r := [.inl 0, .inr (.inr 105)]) (hh := [(0, 8, 11, 13)]) (npx := 0) pn_L_add rfl (Nat.le_of_ble_eq_true rfl) hs mok_X11_add rfl (tin 3 78 (by decide +kernel) rfl) (tin 3 79 (by decide +kernel) rfl) (tin 3 80 (by decide +kernel) rfl) (tin 1 1 (by decide +kernel) rfl) (dat dk_L_add 3 rfl) rfl t1 (Nat.le_of_ble_eq_true rfl) (by decide) (by decide) hE (hent_add l) ⟨_, List.mem_singleton.mpr rfl, p1.symm⟩
    exact ⟨_, _, _, ⟨p2.xh (by omega), Fr.xh (Fr.sub (Fr.rf _ _) p3 rfl) rfl, ENL.mono (p4.xh (by decide)) (by omega) (by omega) (by omega), Or.inr ⟨p5, p6, p7, p8, p9, p10⟩⟩, k⟩

set_option maxRecDepth 100000 in
theorem hl_search8 (l : Launch) (hst0 : l.stackTraces = false) (h : Hp) (hI : Inv h) (g0 : Bks h) (g3 : h.1 ≤ 800000) :
    ∃ (H : Hp) (mc ms : Nat), (Inv H ∧ Fr SSEA h H ∧ ENL h H mc ms 0 0 7 ∧ H.2.2 4 1 = 0 ∧ H.2.2 26 2 = h.2.2 26 2 ∧ H.2.2 1 16 = pqS (h.2.2 5) (Int.toNat (h.2.2 4 1)) + 1) ∧ EvH l yL_search cL_search 3 [(0, 8, 11, 25)] 12 300 [.inr (.inr 1), .inr (.inr 105)] h H mc ms := by
  have tv := hI.atS (a := 105) rfl
  have t1 := hI.atS (a := 1) rfl
  have e00 : ENL h h 0 0 0 0 0 := ENL.rf g0 (by decide) (by decide) (by decide)
  rcases tx_X11_search_vx l hst0 h hI with hc | ⟨E9, h1, k1, z1, ⟨p1, p2, p3, rfl, rfl, p5, p6, p7⟩, hE⟩
  · have w : To l E_L_search (0, [(0, .inr (.inr 1)), (1, .inr (.inr 105))], [], h, 0, 0) (RIa (fun x H mc ms => Inv H ∧ Fr SSEA h H ∧ ENL h H mc ms 0 0 7 ∧ H.2.2 4 1 = 0 ∧ H.2.2 26 2 = h.2.2 26 2 ∧ H.2.2 1 16 = pqS (h.2.2 5) (Int.toNat (h.2.2 4 1)) + 1)) := by
      refine to_aload_np (dat dk_L_search 0 rfl) (by omega) rfl (to_iconst (dat dk_L_search 1 rfl) (to_aload_n (dat dk_L_search 2 rfl) rfl ?_))
      refine to_cI ca_c12_27 (dat dk_L_search 3 rfl) hc rfl ⟨_, _, rfl, t1⟩ rfl (fun x H rx p => ?_)
      obtain ⟨q1, q2, q3, q4, q5⟩ := p
      have e1 := ENL.fr e00 q2 hI rfl
      have tv1 := (q2.1.2 _ (hI.ltN tv)).trans tv
      refine to_i2l (dat dk_L_search 4 rfl) (fun w9 => to_lastw (dat dk_L_search 5 rfl) tv1 rfl (by decide) (by decide) (fun H2 e2 => ?_))
      obtain ⟨r1, r2, r3⟩ := row105 (S := SSEA) (x := w9) q1 (Fr.sub (Fr.rf _ _) q2 rfl) e1 (by decide +kernel)
      have e2 : H2 = wr H 105 0 w9 := e2
      refine to_goto (t := 14) (dat dk_L_search 6 rfl) rfl (to_iconst (dat dk_L_search 10 rfl) ?_)
      exact to_iret rfl (dat dk_L_search 11 rfl) (ri_mka (by decide) ⟨by rw [e2]; exact r1, by rw [e2]; exact r2, by rw [e2]; exact ENL.mono r3 (by decide) (by decide) (by decide), by rw [e2, wr_ne (by omega)]; exact q3, by rw [e2, wr_ne (by omega)]; exact q4, by rw [e2, wr_ne (by omega)]; exact q5⟩)
    obtain ⟨r, H, mc, ms, ⟨x, -, -, q⟩, hE⟩ := evh_of (y := yL_search) (cy := cL_search) (ml := 3) (fr := 12) (lo := 300) (av := [.inr (.inr 1), .inr (.inr 105)]) (h := h) (hh := [(0, 8, 11, 25)]) pn_L_search (Nat.le_of_ble_eq_true rfl) w (fun r h' k z q => by obtain ⟨x, q, -⟩ := q; exact ⟨x, q⟩)
    exact ⟨H, mc, ms, q, hE⟩
  · have hs : Sx_ l E_L_search (0, [(0, .inr (.inr 1)), (1, .inr (.inr 105))], [], h, 0, 0) (3, [(0, .inr (.inr 1)), (1, .inr (.inr 105))], [.inr (.inr 1), .inl 0, .inr (.inr 105)], h, 0, 0) := by
      refine pre_sx ?_
      refine tg_aload_np Tx.gn (dat dk_L_search 0 rfl) (by omega) rfl (tg_iconst Tx.gn (dat dk_L_search 1 rfl) (tg_aload_n Tx.gn (dat dk_L_search 2 rfl) rfl ?_))
      exact Or.inr ⟨_, rfl, sx_rfl _⟩
    have h9 := p2.1.2.1
    have e1 := ENL.fr e00 p3 hI rfl
    have k := evh_thr (y := yL_search) (cy := cL_search) (ml := 3) (fr := 12) (lo := 300) (av := [.inr (.inr 1), .inr (.inr 105)]) (h := h) (st2 := [.inr (.inr 1), .inl 0, .inr (.inr 105)]) (as := []) (r := [.inl 0, .inr (.inr 105)]) (hh := [(0, 8, 11, 25)]) (npx := 0) pn_L_search rfl (Nat.le_of_ble_eq_true rfl) hs mok_X11_search rfl (tin 5 238 (by decide +kernel) rfl) (tin 5 239 (by decide +kernel) rfl) (tin 6 0 (by decide +kernel) rfl) (tin 1 1 (by decide +kernel) rfl) (dat dk_L_search 3 rfl) rfl t1 (Nat.le_of_ble_eq_true rfl) (by decide) (by decide) hE (hent_search l) ⟨_, List.mem_singleton.mpr rfl, p1.symm⟩
    have e9 := e1.2.2.1
    exact ⟨_, _, _, ⟨p2.xh (by omega), Fr.xh (Fr.sub (Fr.rf _ _) p3 rfl) rfl, ENL.mono (e1.xh (by decide)) (by decide) (by decide) (by decide), p5, p6, p7⟩, k⟩
