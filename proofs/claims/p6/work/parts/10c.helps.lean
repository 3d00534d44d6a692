/-! Each of the law's helpers comes back. -/
theorem pre_sx {l : Launch} {E : ME} {x y : Cfg} (k : Tx l E (fun _ _ _ _ => False) (fun w => w = y) x) : Sx_ l E x y := by
  rcases k with ⟨r, h', k', z', hF, -⟩ | ⟨w, rfl, hs⟩
  · exact hF.elim
  · exact hs
abbrev SADD : List Nat := [999, 8, 9, 10, 11, 13, 356, 316, 376, 14, 15, 16, 17, 19, 357, 317, 377, 30, 32, 33, 35, 37, 39, 41, 42, 43, 44, 45, 46, 47, 48, 312, 26, 313, 4, 27, 125, 105]
abbrev STAG : List Nat := [999, 20, 21, 22, 23, 25, 358, 318, 378, 4, 6, 311, 337, 105]
abbrev SREM : List Nat := [26, 313, 27, 999]
abbrev SSEA : List Nat := [4, 6, 27, 28, 29, 30, 31, 49, 50, 51, 52, 53, 54, 56, 57, 58, 123, 126, 105, 999]
/-- the law's row of one long (name 105): what is written to it -/
theorem row105 {S : List Nat} {h H : Hp} {k z : Nat} {N D X : Int} {x : Int} (hI : Inv H) (f : Fr S h H) (e : ENL h H k z N D X) (hc : S.contains 105 = true) : Inv (wr H 105 0 x) ∧ Fr S h (wr H 105 0 x) ∧ ENL h (wr H 105 0 x) k z N D X :=
  ⟨hI.putL rfl, Fr.putF f hc, ENL.fr (S := [105]) e (fr_wr [105] rfl) hI rfl⟩
/-- a throw takes a name -/
theorem ENL.xh {h H : Hp} {N D X : Int} (e : ENL h H 0 0 N D X) (hX : 0 ≤ X) : ENL h (xh H) 1 6 N D (X + 7) := by
  obtain ⟨e1, ⟨e2, e3, e4, e5⟩, e6, e7, e8⟩ := e
  exact ⟨e1, ⟨e2, e3, by show (6 : Int) + _ ≤ PT H + _; omega, by omega⟩, by show H.1 + 1 = _; omega, e7, e8⟩
theorem hent_add (l : Launch) : ∀ z ∈ tableOf [((0 : Nat), (8 : Nat), (11 : Nat), (13 : Nat))], hent l cL_add 3 3 z := by
  intro z hz
  cases List.mem_singleton.mp hz
  exact ⟨rfl, by decide, tin 3 77 (by decide +kernel) rfl, tinN 3 84 (by decide +kernel) rfl, fun p e R s m args below meth c H locs cells slots Q ls lv q hx hb hl kk => lv_astore_n hx hb (i := 2) (dat dk_L_add 7 rfl) rfl hl (by decide) rfl (fun ls' _ => lv_iconst hx hb (dat dk_L_add 8 rfl) rfl (kk _ _ ls' (dat dk_L_add 9 rfl)))⟩
theorem hent_remove (l : Launch) : ∀ z ∈ tableOf [((0 : Nat), (5 : Nat), (8 : Nat), (19 : Nat))], hent l cL_remove 3 2 z := by
  intro z hz
  cases List.mem_singleton.mp hz
  exact ⟨rfl, by decide, tin 5 147 (by decide +kernel) rfl, tinN 5 154 (by decide +kernel) rfl, fun p e R s m args below meth c H locs cells slots Q ls lv q hx hb hl kk => lv_astore_n hx hb (i := 2) (dat dk_L_remove 4 rfl) rfl hl (by decide) rfl (fun ls' _ => lv_iconst hx hb (dat dk_L_remove 5 rfl) rfl (kk _ _ ls' (dat dk_L_remove 6 rfl)))⟩
theorem hent_search (l : Launch) : ∀ z ∈ tableOf [((0 : Nat), (8 : Nat), (11 : Nat), (25 : Nat))], hent l cL_search 3 3 z := by
  intro z hz
  cases List.mem_singleton.mp hz
  exact ⟨rfl, by decide, tin 5 180 (by decide +kernel) rfl, tinN 5 196 (by decide +kernel) rfl, fun p e R s m args below meth c H locs cells slots Q ls lv q hx hb hl kk => lv_astore_n hx hb (i := 2) (dat dk_L_search 7 rfl) rfl hl (by decide) rfl (fun ls' _ => lv_iconst hx hb (dat dk_L_search 8 rfl) rfl (kk _ _ ls' (dat dk_L_search 9 rfl)))⟩
theorem hent_tag (l : Launch) : ∀ z ∈ tableOf [((0 : Nat), (17 : Nat), (20 : Nat), (19 : Nat)), ((0 : Nat), (17 : Nat), (24 : Nat), (25 : Nat)), ((0 : Nat), (17 : Nat), (28 : Nat), (13 : Nat))], hent l cL_tag 5 5 z := by
  intro z hz
  rcases List.mem_cons.mp hz with rfl | hz
  · exact ⟨rfl, by decide, tin 5 147 (by decide +kernel) rfl, tinN 5 154 (by decide +kernel) rfl, fun p e R s m args below meth c H locs cells slots Q ls lv q hx hb hl kk => lv_astore hx hb (i := 4) (dat dk_L_tag 12 rfl) hl (by decide) rfl (fun ls' _ => lv_iconst hx hb (dat dk_L_tag 13 rfl) rfl (kk _ _ ls' (dat dk_L_tag 14 rfl)))⟩
  rcases List.mem_cons.mp hz with rfl | hz
  · exact ⟨rfl, by decide, tin 5 180 (by decide +kernel) rfl, tinN 5 196 (by decide +kernel) rfl, fun p e R s m args below meth c H locs cells slots Q ls lv q hx hb hl kk => lv_astore hx hb (i := 4) (dat dk_L_tag 15 rfl) hl (by decide) rfl (fun ls' _ => lv_iconst hx hb (dat dk_L_tag 16 rfl) rfl (kk _ _ ls' (dat dk_L_tag 17 rfl)))⟩
  cases List.mem_singleton.mp hz
  exact ⟨rfl, by decide, tin 3 77 (by decide +kernel) rfl, tinN 3 84 (by decide +kernel) rfl, fun p e R s m args below meth c H locs cells slots Q ls lv q hx hb hl kk => lv_astore hx hb (i := 4) (dat dk_L_tag 18 rfl) hl (by decide) rfl (fun ls' _ => lv_iconst hx hb (dat dk_L_tag 19 rfl) rfl (kk _ _ ls' (dat dk_L_tag 20 rfl)))⟩
set_option maxRecDepth 100000 in
theorem hl_add (l : Launch) (hst0 : l.stackTraces = false) (h : Hp) (hI : Inv h) (g0 : Bks h) (g1 : WT h ≤ 9000000) (g2 : ET h ≤ 3000000) (g3 : h.1 ≤ 800000) :
    ∃ (H : Hp) (mc ms : Nat), (Inv H ∧ Fr SADD h H ∧ ENL h H mc ms 1417 5820 1507 ∧ ((H.2.2 4 1 = 0 ∧ H.2.2 26 2 = h.2.2 26 2 + 1 ∧ (h.2.2 26 2 ≤ 59 ∧ h.2.2 1 15 ≤ 199 ∧ H.2.2 1 15 = h.2.2 1 15 + 1) ∧ nums H = nums h ++ [h.2.2 1 15]) ∨ (H.2.2 4 1 = h.2.2 4 1 ∧ H.2.2 26 2 = h.2.2 26 2 ∧ (60 ≤ h.2.2 26 2 ∨ 200 ≤ h.2.2 1 15) ∧ H.2.2 1 15 = h.2.2 1 15 ∧ nums H = nums h))) ∧ EvH l yL_add cL_add 3 [(0, 8, 11, 13)] 12 300 [.inr (.inr 1), .inr (.inr 105)] h H mc ms := by
  have tv := hI.atS (a := 105) rfl
  have t1 := hI.atS (a := 1) rfl
  rcases tx_X11_add l hst0 h hI g0 g1 g2 g3 with hc | ⟨E9, h1, k1, z1, ⟨p1, p2, p3, rfl, rfl, p4, p5, p6, p7, p8, p9⟩, hE⟩
  · have w : To l E_L_add (0, [(0, .inr (.inr 1)), (1, .inr (.inr 105))], [], h, 0, 0) (RIa (fun x H mc ms => Inv H ∧ Fr SADD h H ∧ ENL h H mc ms 1417 5820 1507 ∧ (H.2.2 4 1 = 0 ∧ H.2.2 26 2 = h.2.2 26 2 + 1 ∧ (h.2.2 26 2 ≤ 59 ∧ h.2.2 1 15 ≤ 199 ∧ H.2.2 1 15 = h.2.2 1 15 + 1) ∧ nums H = nums h ++ [h.2.2 1 15]))) := by
      refine to_aload_np (dat dk_L_add 0 rfl) (by omega) rfl (to_iconst (dat dk_L_add 1 rfl) (to_aload_n (dat dk_L_add 2 rfl) rfl ?_))
      refine to_cIa ca_c12_7 (dat dk_L_add 3 rfl) hc rfl ⟨_, _, rfl, t1⟩ rfl (fun x H mc ms rx p => ?_)
      obtain ⟨q1, q2, q3, q4, q5, q6, q7⟩ := p
      have tv1 := (q2.1.2 _ (hI.ltN tv)).trans tv
      refine to_i2l (dat dk_L_add 4 rfl) (fun w9 => to_lastw (dat dk_L_add 5 rfl) tv1 rfl (by decide) (by decide) (fun H2 e2 => ?_))
      obtain ⟨r1, r2, r3⟩ := row105 (S := SADD) (x := w9) q1 (Fr.sub (Fr.rf _ _) q2 rfl) q3 (by decide +kernel)
      have e2 : H2 = wr H 105 0 w9 := e2
      refine to_goto (t := 14) (dat dk_L_add 6 rfl) rfl (to_iconst (dat dk_L_add 10 rfl) ?_)
      rw [Nat.zero_add, Nat.zero_add]
      exact to_iret rfl (dat dk_L_add 11 rfl) (ri_mka (by decide) ⟨by rw [e2]; exact r1, by rw [e2]; exact r2, by rw [e2]; exact ENL.mono r3 (by omega) (by omega) (by omega), by rw [e2, wr_ne (by omega)]; exact q4, by rw [e2, wr_ne (by omega)]; exact q5, ⟨q6.1, q6.2.1, by rw [e2, wr_ne (by omega)]; exact q6.2.2⟩, (nums_fr (S := [105]) (by rw [e2]; exact fr_wr [105] rfl) q1 rfl).trans q7⟩)
    obtain ⟨r, H, mc, ms, ⟨x, -, -, q1, q2, q3, q4⟩, hE⟩ := evh_of (y := yL_add) (cy := cL_add) (ml := 3) (fr := 12) (lo := 300) (av := [.inr (.inr 1), .inr (.inr 105)]) (h := h) (hh := [(0, 8, 11, 13)]) pn_L_add (Nat.le_of_ble_eq_true rfl) w (fun r h' k z q => by obtain ⟨x, q, -⟩ := q; exact ⟨x, q⟩)
    exact ⟨H, mc, ms, ⟨q1, q2, q3, Or.inl q4⟩, hE⟩
  · have hs : Sx_ l E_L_add (0, [(0, .inr (.inr 1)), (1, .inr (.inr 105))], [], h, 0, 0) (3, [(0, .inr (.inr 1)), (1, .inr (.inr 105))], [.inr (.inr 1), .inl 0, .inr (.inr 105)], h, 0, 0) := by
      refine pre_sx ?_
      refine tg_aload_np Tx.gn (dat dk_L_add 0 rfl) (by omega) rfl (tg_iconst Tx.gn (dat dk_L_add 1 rfl) (tg_aload_n Tx.gn (dat dk_L_add 2 rfl) rfl ?_))
      exact Or.inr ⟨_, rfl, sx_rfl _⟩
    have h9 := p2.1.2.1
    have e := p4.2.2.1
    have k := evh_thr (y := yL_add) (cy := cL_add) (ml := 3) (fr := 12) (lo := 300) (av := [.inr (.inr 1), .inr (.inr 105)]) (h := h) (st2 := [.inr (.inr 1), .inl 0, .inr (.inr 105)]) (as := []) (r := [.inl 0, .inr (.inr 105)]) (hh := [(0, 8, 11, 13)]) (npx := 0) pn_L_add rfl (Nat.le_of_ble_eq_true rfl) hs mok_X11_add rfl (tin 3 78 (by decide +kernel) rfl) (tin 3 79 (by decide +kernel) rfl) (tin 3 80 (by decide +kernel) rfl) (tin 1 1 (by decide +kernel) rfl) (dat dk_L_add 3 rfl) rfl t1 (Nat.le_of_ble_eq_true rfl) (by decide) (by decide) hE (hent_add l) ⟨_, List.mem_singleton.mpr rfl, p1.symm⟩
    exact ⟨_, _, _, ⟨p2.xh (by omega), Fr.xh (Fr.sub (Fr.rf _ _) p3 rfl) rfl, ENL.mono (p4.xh (by decide)) (by omega) (by omega) (by omega), Or.inr ⟨p5, p6, p7, p8, p9⟩⟩, k⟩
