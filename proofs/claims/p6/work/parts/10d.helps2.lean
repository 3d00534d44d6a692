/-! The other helpers. -/
set_option maxRecDepth 100000 in
theorem hl_remove (l : Launch) (hst0 : l.stackTraces = false) (h : Hp) (hI : Inv h) (g0 : Bks h) (g3 : h.1 ≤ 800000) (n : Int) (hn : I32 n) :
    ∃ (H : Hp) (mc ms : Nat), (Inv H ∧ Fr SREM h H ∧ ENL h H mc ms 0 0 7 ∧ H.2.2 4 1 = h.2.2 4 1 ∧ ((H.2.2 26 2 = h.2.2 26 2 - 1 ∧ ∃ i : Nat, (nums h)[i]? = some n ∧ nums H = (nums h).eraseIdx i) ∨ (H.2.2 26 2 = h.2.2 26 2 ∧ n ∉ nums h ∧ nums H = nums h))) ∧ EvH l yL_remove cL_remove 3 [(0, 5, 8, 19)] 8 300 [.inr (.inr 1), .inl n] h H mc ms := by
  have t1 := hI.atS (a := 1) rfl
  have e00 : ENL h h 0 0 0 0 0 := ENL.rf g0 (by decide) (by decide) (by decide)
  rcases tx_X11_remove l hst0 h hI n hn with hc | ⟨E9, h1, k1, z1, ⟨p1, p2, p3, rfl, rfl, p5, p6, p7, p8⟩, hE⟩
  · have w : To l E_L_remove (0, [(0, .inr (.inr 1)), (1, .inl n)], [], h, 0, 0) (RIa (fun x H mc ms => Inv H ∧ Fr SREM h H ∧ ENL h H mc ms 0 0 7 ∧ H.2.2 4 1 = h.2.2 4 1 ∧ ((H.2.2 26 2 = h.2.2 26 2 - 1 ∧ ∃ i : Nat, (nums h)[i]? = some n ∧ nums H = (nums h).eraseIdx i) ∨ (H.2.2 26 2 = h.2.2 26 2 ∧ n ∉ nums h ∧ nums H = nums h)))) := by
      refine to_aload_n (dat dk_L_remove 0 rfl) rfl (to_iload_n (dat dk_L_remove 1 rfl) rfl ?_)
      refine to_cV ca_c12_15 (dat dk_L_remove 2 rfl) hc rfl ⟨_, _, rfl, t1⟩ rfl (fun H p => ?_)
      obtain ⟨q1, q2, q3, q4, q5⟩ := p
      have e1 := ENL.fr e00 q2 hI rfl
      refine to_goto (t := 11) (dat dk_L_remove 3 rfl) rfl (to_iconst (dat dk_L_remove 7 rfl) ?_)
      exact to_iret rfl (dat dk_L_remove 8 rfl) (ri_mka (by decide) ⟨q1, Fr.sub (Fr.rf _ _) q2 rfl, ENL.mono e1 (by decide) (by decide) (by decide), q3, Or.inl ⟨q4, q5⟩⟩)
    obtain ⟨r, H, mc, ms, ⟨x, -, -, q⟩, hE⟩ := evh_of (y := yL_remove) (cy := cL_remove) (ml := 3) (fr := 8) (lo := 300) (av := [.inr (.inr 1), .inl n]) (h := h) (hh := [(0, 5, 8, 19)]) pn_L_remove (Nat.le_of_ble_eq_true rfl) w (fun r h' k z q => by obtain ⟨x, q, -⟩ := q; exact ⟨x, q⟩)
    exact ⟨H, mc, ms, q, hE⟩
  · have hs : Sx_ l E_L_remove (0, [(0, .inr (.inr 1)), (1, .inl n)], [], h, 0, 0) (2, [(0, .inr (.inr 1)), (1, .inl n)], [.inl n, .inr (.inr 1)], h, 0, 0) := by
      refine pre_sx ?_
      refine tg_aload_n Tx.gn (dat dk_L_remove 0 rfl) rfl (tg_iload_n Tx.gn (dat dk_L_remove 1 rfl) rfl ?_)
      exact Or.inr ⟨_, rfl, sx_rfl _⟩
    have h9 := p2.1.2.1
    have e1 := ENL.fr e00 p3 hI rfl
    have k := evh_thr (y := yL_remove) (cy := cL_remove) (ml := 3) (fr := 8) (lo := 300) (av := [.inr (.inr 1), .inl n]) (h := h) (st2 := [.inl n, .inr (.inr 1)]) (as := [.inl n]) (r := []) (hh := [(0, 5, 8, 19)]) (npx := 1) pn_L_remove rfl (Nat.le_of_ble_eq_true rfl) hs mok_X11_remove rfl (tin 5 148 (by decide +kernel) rfl) (tin 5 149 (by decide +kernel) rfl) (tin 5 150 (by decide +kernel) rfl) (tin 1 1 (by decide +kernel) rfl) (dat dk_L_remove 2 rfl) rfl t1 (Nat.le_of_ble_eq_true rfl) (by decide) (by decide) hE (hent_remove l) ⟨_, List.mem_singleton.mpr rfl, p1.symm⟩
    have e9 := e1.2.2.1
    exact ⟨_, _, _, ⟨p2.xh (by omega), Fr.xh (Fr.sub (Fr.rf _ _) p3 rfl) rfl, ENL.mono (e1.xh (by decide)) (by decide) (by decide) (by decide), p5, Or.inr ⟨p6, p7, p8⟩⟩, k⟩
set_option maxRecDepth 100000 in
theorem hl_search (l : Launch) (hst0 : l.stackTraces = false) (h : Hp) (hI : Inv h) (g0 : Bks h) (g3 : h.1 ≤ 800000) :
    ∃ (H : Hp) (mc ms : Nat), (Inv H ∧ Fr SSEA h H ∧ ENL h H mc ms 0 0 7 ∧ H.2.2 4 1 = 0 ∧ H.2.2 26 2 = h.2.2 26 2) ∧ EvH l yL_search cL_search 3 [(0, 8, 11, 25)] 12 300 [.inr (.inr 1), .inr (.inr 105)] h H mc ms := by
  have tv := hI.atS (a := 105) rfl
  have t1 := hI.atS (a := 1) rfl
  have e00 : ENL h h 0 0 0 0 0 := ENL.rf g0 (by decide) (by decide) (by decide)
  rcases tx_X11_search l hst0 h hI with hc | ⟨E9, h1, k1, z1, ⟨p1, p2, p3, rfl, rfl, p5, p6⟩, hE⟩
  · have w : To l E_L_search (0, [(0, .inr (.inr 1)), (1, .inr (.inr 105))], [], h, 0, 0) (RIa (fun x H mc ms => Inv H ∧ Fr SSEA h H ∧ ENL h H mc ms 0 0 7 ∧ H.2.2 4 1 = 0 ∧ H.2.2 26 2 = h.2.2 26 2)) := by
      refine to_aload_np (dat dk_L_search 0 rfl) (by omega) rfl (to_iconst (dat dk_L_search 1 rfl) (to_aload_n (dat dk_L_search 2 rfl) rfl ?_))
      refine to_cI ca_c12_27 (dat dk_L_search 3 rfl) hc rfl ⟨_, _, rfl, t1⟩ rfl (fun x H rx p => ?_)
      obtain ⟨q1, q2, q3, q4⟩ := p
      have e1 := ENL.fr e00 q2 hI rfl
      have tv1 := (q2.1.2 _ (hI.ltN tv)).trans tv
      refine to_i2l (dat dk_L_search 4 rfl) (fun w9 => to_lastw (dat dk_L_search 5 rfl) tv1 rfl (by decide) (by decide) (fun H2 e2 => ?_))
      obtain ⟨r1, r2, r3⟩ := row105 (S := SSEA) (x := w9) q1 (Fr.sub (Fr.rf _ _) q2 rfl) e1 (by decide +kernel)
      have e2 : H2 = wr H 105 0 w9 := e2
      refine to_goto (t := 14) (dat dk_L_search 6 rfl) rfl (to_iconst (dat dk_L_search 10 rfl) ?_)
      exact to_iret rfl (dat dk_L_search 11 rfl) (ri_mka (by decide) ⟨by rw [e2]; exact r1, by rw [e2]; exact r2, by rw [e2]; exact ENL.mono r3 (by decide) (by decide) (by decide), by rw [e2, wr_ne (by omega)]; exact q3, by rw [e2, wr_ne (by omega)]; exact q4⟩)
    obtain ⟨r, H, mc, ms, ⟨x, -, -, q⟩, hE⟩ := evh_of (y := yL_search) (cy := cL_search) (ml := 3) (fr := 12) (lo := 300) (av := [.inr (.inr 1), .inr (.inr 105)]) (h := h) (hh := [(0, 8, 11, 25)]) pn_L_search (Nat.le_of_ble_eq_true rfl) w (fun r h' k z q => by obtain ⟨x, q, -⟩ := q; exact ⟨x, q⟩)
    exact ⟨H, mc, ms, q, hE⟩
  · have hs : Sx_ l E_L_search (0, [(0, .inr (.inr 1)), (1, .inr (.inr 105))], [], h, 0, 0) (3, [(0, .inr (.inr 1)), (1, .inr (.inr 105))], [.inr (.inr 1), .inl 0, .inr (.inr 105)], h, 0, 0) := by
      refine pre_sx ?_
      refine tg_aload_np Tx.gn (dat dk_L_search 0 rfl) (by omega) rfl (tg_iconst Tx.gn (dat dk_L_search 1 rfl) (tg_aload_n Tx.gn (dat dk_L_search 2 rfl) rfl ?_))
      exact Or.inr ⟨_, rfl, sx_rfl _⟩
    have h9 := p2.1.2.1
    have e1 := ENL.fr e00 p3 hI rfl
    have k := evh_thr (y := yL_search) (cy := cL_search) (ml := 3) (fr := 12) (lo := 300) (av := [.inr (.inr 1), .inr (.inr 105)]) (h := h) (st2 := [.inr (.inr 1), .inl 0, .inr (.inr 105)]) (as := []) (r := [.inl 0, .inr (.inr 105)]) (hh := [(0, 8, 11, 25)]) (npx := 0) pn_L_search rfl (Nat.le_of_ble_eq_true rfl) hs mok_X11_search rfl (tin 5 238 (by decide +kernel) rfl) (tin 5 239 (by decide +kernel) rfl) (tin 6 0 (by decide +kernel) rfl) (tin 1 1 (by decide +kernel) rfl) (dat dk_L_search 3 rfl) rfl t1 (Nat.le_of_ble_eq_true rfl) (by decide) (by decide) hE (hent_search l) ⟨_, List.mem_singleton.mpr rfl, p1.symm⟩
    have e9 := e1.2.2.1
    exact ⟨_, _, _, ⟨p2.xh (by omega), Fr.xh (Fr.sub (Fr.rf _ _) p3 rfl) rfl, ENL.mono (e1.xh (by decide)) (by decide) (by decide) (by decide), p5, p6⟩, k⟩
set_option maxRecDepth 100000 in
theorem hl_tag (l : Launch) (hst0 : l.stackTraces = false) (h : Hp) (hI : Inv h) (g0 : Bks h) (g1 : WT h ≤ 9000000) (g2 : ET h ≤ 3000000) (g3 : h.1 ≤ 800000) (n : Int) (hn : I32 n) (b : Int) (hb : b = 0 ∨ b = 1) :
    ∃ (H : Hp) (mc ms : Nat), (Inv H ∧ Fr STAG h H ∧ ENL h H mc ms 1 60 7 ∧ H.2.2 4 1 = 0 ∧ H.2.2 26 2 = h.2.2 26 2) ∧ EvH l yL_tag cL_tag 5 [(0, 17, 20, 19), (0, 17, 24, 25), (0, 17, 28, 13)] 8 300 [.inr (.inr 1), .inl n, .inl b, .inr (.inr 105)] h H mc ms := by
  have tv := hI.atS (a := 105) rfl
  have t1 := hI.atS (a := 1) rfl
  rcases tx_X11_tag l hst0 h hI n hn b hb g0 g1 g2 g3 with hc | ⟨E9, h1, k1, z1, ⟨p1, p2, p3, rfl, rfl, p4, p5, p6⟩, hE⟩
  · have w : To l E_L_tag (0, [(0, .inr (.inr 1)), (1, .inl n), (2, .inl b), (3, .inr (.inr 105))], [], h, 0, 0) (RIa (fun x H mc ms => Inv H ∧ Fr STAG h H ∧ ENL h H mc ms 1 60 7 ∧ H.2.2 4 1 = 0 ∧ H.2.2 26 2 = h.2.2 26 2)) := by
      refine to_aload_np (dat dk_L_tag 0 rfl) (by omega) rfl (to_iconst (dat dk_L_tag 1 rfl) (to_aload_n (dat dk_L_tag 2 rfl) rfl (to_iload_n (dat dk_L_tag 3 rfl) rfl (to_iload_n (dat dk_L_tag 4 rfl) rfl ?_))))
      refine to_cIa ca_c12_21 (dat dk_L_tag 5 rfl) hc rfl ⟨_, _, rfl, t1⟩ rfl (fun x H mc ms rx p => ?_)
      obtain ⟨q1, q2, zx, q3, q4, q5⟩ := p
      have tv1 := (q2.1.2 _ (hI.ltN tv)).trans tv
      have at16 : ∀ w9 : Int, To l E_L_tag (16, [(0, .inr (.inr 1)), (1, .inl n), (2, .inl b), (3, .inr (.inr 105))], [.inr (.inl w9), .inl 0, .inr (.inr 105)], H, 0 + mc, 0 + ms) (RIa (fun x H mc ms => Inv H ∧ Fr STAG h H ∧ ENL h H mc ms 1 60 7 ∧ H.2.2 4 1 = 0 ∧ H.2.2 26 2 = h.2.2 26 2)) := by
        intro w9
        refine to_lastw (dat dk_L_tag 10 rfl) tv1 rfl (by decide) (by decide) (fun H2 e2 => ?_)
        obtain ⟨r1, r2, r3⟩ := row105 (S := STAG) (x := w9) q1 (Fr.sub (Fr.rf _ _) q2 rfl) q3 (by decide +kernel)
        have e2 : H2 = wr H 105 0 w9 := e2
        refine to_goto (t := 32) (dat dk_L_tag 11 rfl) rfl (to_iconst (dat dk_L_tag 21 rfl) ?_)
        rw [Nat.zero_add, Nat.zero_add]
        exact to_iret rfl (dat dk_L_tag 22 rfl) (ri_mka (by decide) ⟨by rw [e2]; exact r1, by rw [e2]; exact r2, by rw [e2]; exact ENL.mono r3 (by decide) (by decide) (by decide), by rw [e2, wr_ne (by omega)]; exact q4, by rw [e2, wr_ne (by omega)]; exact q5⟩)
      refine to_ifeq 15 (dat dk_L_tag 6 rfl) rfl rx (fun c1 => ?_) (fun c1 => ?_)
      · exact to_lconst (v := 0) (dat dk_L_tag 9 rfl) rfl (at16 0)
      · exact to_lconst (v := 1) (dat dk_L_tag 7 rfl) rfl (to_goto (t := 16) (dat dk_L_tag 8 rfl) rfl (at16 1))
    obtain ⟨r, H, mc, ms, ⟨x, -, -, q⟩, hE⟩ := evh_of (y := yL_tag) (cy := cL_tag) (ml := 5) (fr := 8) (lo := 300) (av := [.inr (.inr 1), .inl n, .inl b, .inr (.inr 105)]) (h := h) (hh := [(0, 17, 20, 19), (0, 17, 24, 25), (0, 17, 28, 13)]) pn_L_tag (Nat.le_of_ble_eq_true rfl) w (fun r h' k z q => by obtain ⟨x, q, -⟩ := q; exact ⟨x, q⟩)
    exact ⟨H, mc, ms, q, hE⟩
  · have hs : Sx_ l E_L_tag (0, [(0, .inr (.inr 1)), (1, .inl n), (2, .inl b), (3, .inr (.inr 105))], [], h, 0, 0) (5, [(0, .inr (.inr 1)), (1, .inl n), (2, .inl b), (3, .inr (.inr 105))], [.inl b, .inl n, .inr (.inr 1), .inl 0, .inr (.inr 105)], h, 0, 0) := by
      refine pre_sx ?_
      refine tg_aload_np Tx.gn (dat dk_L_tag 0 rfl) (by omega) rfl (tg_iconst Tx.gn (dat dk_L_tag 1 rfl) (tg_aload_n Tx.gn (dat dk_L_tag 2 rfl) rfl (tg_iload_n Tx.gn (dat dk_L_tag 3 rfl) rfl (tg_iload_n Tx.gn (dat dk_L_tag 4 rfl) rfl ?_))))
      exact Or.inr ⟨_, rfl, sx_rfl _⟩
    have h9 := p2.1.2.1
    have k := evh_thr (y := yL_tag) (cy := cL_tag) (ml := 5) (fr := 8) (lo := 300) (av := [.inr (.inr 1), .inl n, .inl b, .inr (.inr 105)]) (h := h) (st2 := [.inl b, .inl n, .inr (.inr 1), .inl 0, .inr (.inr 105)]) (as := [.inl n, .inl b]) (r := [.inl 0, .inr (.inr 105)]) (hh := [(0, 17, 20, 19), (0, 17, 24, 25), (0, 17, 28, 13)]) (npx := 2) pn_L_tag rfl (Nat.le_of_ble_eq_true rfl) hs mok_X11_tag rfl (tin 5 181 (by decide +kernel) rfl) (tin 5 182 (by decide +kernel) rfl) (tin 5 183 (by decide +kernel) rfl) (tin 1 1 (by decide +kernel) rfl) (dat dk_L_tag 5 rfl) rfl t1 (Nat.le_of_ble_eq_true rfl) (by decide) (by decide) hE (hent_tag l) (by
      rcases p1 with rfl | rfl | rfl
      · exact ⟨_, List.mem_cons_self, rfl⟩
      · exact ⟨_, List.mem_cons_of_mem _ List.mem_cons_self, rfl⟩
      · exact ⟨_, List.mem_cons_of_mem _ (List.mem_cons_of_mem _ List.mem_cons_self), rfl⟩)
    have e9 := p4.2.2.1
    exact ⟨_, _, _, ⟨p2.xh (by omega), Fr.xh (Fr.sub (Fr.rf _ _) p3 rfl) rfl, ENL.mono (p4.xh (by decide)) (by decide) (by decide) (by decide), p5, p6⟩, k⟩
