/-! A book makes room: what its rows hold stays. -/
def rwv (h : Hp) (b j i : Nat) : Int := h.2.2 (h.2.2 b j).toNat i
def CPb (h H : Hp) (b : Nat) : Prop := ∀ j : Nat, (j = 1 ∨ j = 2 ∨ j = 4) → len h (h.2.2 b j).toNat ≤ len H (H.2.2 b j).toNat ∧ ∀ i : Nat, (i : Int) < len h (h.2.2 b j).toNat → rwv H b j i = rwv h b j i
theorem CPb.rf {h : Hp} {b : Nat} : CPb h h b := fun _ _ => ⟨Int.le_refl _, fun _ _ => rfl⟩
theorem CPb.tr {h h1 H : Hp} {b : Nat} (x : CPb h h1 b) (y : CPb h1 H b) : CPb h H b := fun j hj => ⟨Int.le_trans (x j hj).1 (y j hj).1, fun i hi => ((y j hj).2 i (Int.lt_of_lt_of_le hi (x j hj).1)).trans ((x j hj).2 i hi)⟩
theorem CPb.grow {h h2 : Hp} {b w j0 a len0 n k k' : Nat} (hI : Inv h) (hb : isK b w = true) (ea : h.2.2 b j0 = (a : Int)) (ta : h.2.1 a = some (.inl (k', len0))) (hn : len0 ≤ n) (o2 : ∀ c t, h.2.1 c = some t → h2.2.1 c = some t) (tn2 : h2.2.1 h.1 = some (.inl (k, n))) (vb2 : h2.2.2 b j0 = (h.1 : Int)) (ov2 : ∀ c i, c < h.1 → (c ≠ b ∨ i ≠ j0) → h2.2.2 c i = h.2.2 c i) (cn2 : ∀ i, i < n → i < len0 → h2.2.2 h.1 i = h.2.2 a i) : CPb h h2 b := by
  obtain ⟨nx, st, rd, rw_, nn, ns, nr, nw, e1, e2, e3, e4, t1, t2, t3, t4, p1, p2, p3, p4⟩ := hI.kbk hb
  have tb := hI.kty hb
  have one : ∀ (j r k9 n9 : Nat), h.2.2 b j = (r : Int) → h.2.1 r = some (.inl (k9, n9)) → len h (h.2.2 b j).toNat ≤ len h2 (h2.2.2 b j).toNat ∧ ∀ i : Nat, (i : Int) < len h (h.2.2 b j).toNat → rwv h2 b j i = rwv h b j i := by
    intro j r k9 n9 er tr
    by_cases c : j = j0
    · subst c
      have ra : r = a := by have := er.symm.trans ea; omega
      subst ra
      cases tr.symm.trans ta
      unfold rwv
      rw [vb2, er, Int.toNat_natCast, Int.toNat_natCast, len_of ta, len_of tn2]
      exact ⟨by omega, fun i hi => cn2 i (by omega) (by omega)⟩
    · have eb : h2.2.2 b j = h.2.2 b j := ov2 b j (hI.ltN tb) (Or.inr c)
      have rb : r ≠ b := fun e => by
        subst e
        cases tb.symm.trans tr
      unfold rwv
      rw [eb, er, Int.toNat_natCast, len_of tr, len_of (o2 _ _ tr)]
      exact ⟨Int.le_refl _, fun i _ => ov2 r i (hI.ltN tr) (Or.inl rb)⟩
  intro j hj
  rcases hj with rfl | rfl | rfl
  · exact one 1 nx _ _ e1 t1
  · exact one 2 st _ _ e2 t2
  · exact one 4 rw_ _ _ e4 t4
def MRX (h H : Hp) (b w mc ms : Nat) (d : Int) : Prop := MR h H b w mc ms ∧ CPb h H b ∧ WB H b + d ≤ len H (H.2.2 b 4).toNat
def MRF (h H : Hp) (b w mc ms : Nat) (d : Int) : Prop := MRX h H b w mc ms d ∧ H.2.2 b 5 < len H (H.2.2 b 1).toNat
set_option maxRecDepth 100000 in
theorem ct_X0_makeRoom_vx (l : Launch) (h : Hp) (hI : Inv h) (b w : Nat) (hb : isK b w = true) (f : Int) (hf : I32 f) (g : Int) (hg : I32 g) (g0 : 0 ≤ f ∧ f ≤ g ∧ g - f ≤ 60 ∧ g ≤ 1300) (kb : BkW h b w) (gB : WB h b ≤ 10000000) (gE : h.2.2 b 5 ≤ 4000000) (hlt : h.1 + 4 ≤ 900000) (hfg : f < g) (hW : WB h b ≤ len h (h.2.2 b 4).toNat) : Ct l D_X0_makeRoom 2 102 [.inr (.inr b), .inl f, .inl g] h (RVa (fun H mc ms => Inv H ∧ Fr [b, 999] h H ∧ MRF h H b w mc ms (g - f) ∧ mc ≤ 4)) := by
  refine ct_of pn_X0_makeRoom (Nat.le_of_ble_eq_true rfl) ?_
  show To l E_X0_makeRoom (0, [(0, .inr (.inr b)), (1, .inl f), (2, .inl g)], [], h, 0, 0) _
  have tb := hI.kty hb
  have bpos := hI.posN tb
  have hw10 := isK_w hb
  have hw20 := isK_20 hb
  have hblt := isK_lt hb
  have h106 := hI.1.1
  obtain ⟨nx, st, rd, rw_, nn, ns, nr, nw, r, kn⟩ := id kb
  have v := r.vals
  obtain ⟨⟨e1, e2, e3, e4⟩, ⟨t1, t2, t3, t4⟩, p1, p2, p3, p4⟩ := id r
  obtain ⟨n1, n2, n3, n4, n5, n6, n7⟩ := id kn
  obtain ⟨x5, ex5⟩ : ∃ y : Int, h.2.2 b 5 = y := ⟨_, rfl⟩
  have rx5 := hI.k5 hb
  rw [ex5] at rx5
  have l4 := hI.lenM t4
  have jn58 : ∀ (h1 : Hp) (mc ms : Nat), Inv h1 → Fr [b, 999] h h1 → MRX h h1 b w mc ms (g - f) → mc ≤ 1 → To l E_X0_makeRoom (58, [(0, .inr (.inr b)), (1, .inl f), (2, .inl g), (3, .inl (nw : Int))], [], h1, mc, ms) (RVa (fun H mc ms => Inv H ∧ Fr [b, 999] h H ∧ MRF h H b w mc ms (g - f) ∧ mc ≤ 4)) := by
    intro h1 mc ms I1 f1 mX hmc
    obtain ⟨m1, cp1, rwx1⟩ := id mX
    obtain ⟨kb1, q1, q2, q3, q4⟩ := id m1
    obtain ⟨nx1, st1, rd1, rw1, nn1, ns1, nr1, nw1, r1, kn1⟩ := id kb1
    have v1 := r1.vals
    obtain ⟨⟨a1, a2, a3, a4⟩, ⟨u1, u2, u3, u4⟩, w1, w2, w3, w4⟩ := id r1
    obtain ⟨m1_, m2, m3, m4, m5, m6, m7⟩ := id kn1
    have tb1 := I1.kty hb
    have y5 : h1.2.2 b 5 = x5 := by omega
    have lM1 := I1.lenM u1
    have lM2 := I1.lenM u2
    have lM3 := I1.lenM u3
    refine to_aload_np (dat dk_X0_makeRoom 36 rfl) bpos rfl (to_getIv (y := x5) y5 g_c1_28 (dat dk_X0_makeRoom 37 rfl) tb1 (to_aload_np (dat dk_X0_makeRoom 38 rfl) bpos rfl (to_getR nx1 g_c1_15 (dat dk_X0_makeRoom 39 rfl) tb1 a1 (to_alen (dat dk_X0_makeRoom 40 rfl) u1 (by have := isK_n hb; omega) ?_))))
    refine to_ilt 120 (dat dk_X0_makeRoom 41 rfl) rfl (by omega) (by omega) (fun c1 => ?_) (fun c1 => ?_)
    · skip
      exact to_vret rfl (dat dk_X0_makeRoom 68 rfl) (rv_mka ⟨I1, f1, ⟨mX, by rw [a1, Int.toNat_natCast, len_of u1]; omega⟩, by omega⟩)
    · skip
      refine to_aload_np (dat dk_X0_makeRoom 42 rfl) bpos rfl (to_getR nx1 g_c1_15 (dat dk_X0_makeRoom 43 rfl) tb1 a1 (to_alen (dat dk_X0_makeRoom 44 rfl) u1 (by have := isK_n hb; omega) (to_iconst (dat dk_X0_makeRoom 45 rfl) (to_imul (dat dk_X0_makeRoom 46 rfl) ?_))))
      obtain ⟨N, eN⟩ : ∃ N : Nat, ((nn1 : Int) * 2) = (N : Int) := ⟨2 * nn1, by omega⟩
      rw [eN]
      refine to_istore (L' := [(0, .inr (.inr b)), (1, .inl f), (2, .inl g), (3, .inl (nw : Int)), (4, .inl (N : Int))]) (dat dk_X0_makeRoom 47 rfl) (by decide) rfl ?_
      refine to_aload_np (dat dk_X0_makeRoom 48 rfl) bpos rfl (to_aload_np (dat dk_X0_makeRoom 49 rfl) bpos rfl (to_getR nx1 g_c1_15 (dat dk_X0_makeRoom 50 rfl) tb1 a1 (to_iload (dat dk_X0_makeRoom 51 rfl) rfl ?_)))
      refine to_cRa ca_c1_74 (dat dk_X0_makeRoom 52 rfl) (ct_J7_copyOf_59c91 l h1 I1 nx1 (w + 400) nn1 u1 (isK_n hb) (w + 400) (isK_n hb) N (by omega) (by omega)) rfl trivial rfl (fun x2 H2 mc2 ms2 c2 => ?_)
      refine to_putRw p_c1_15 (dat dk_X0_makeRoom 53 rfl) (by obtain ⟨-, -, -, f9, rfl, -, -⟩ := c2; exact newA_old I1 tb1) (fun h2 e2' => ?_)
      obtain ⟨hx2, hm2, hs2, I2, z2, o2, tn2, vb2, ov2, cn2, fr2⟩ := grow (j := 1) (w2 := w + 400) (n := N) I1 hb (by decide) rfl (by omega) (by omega) (Or.inl (isK_n hb)) (by omega) c2 (fun i => (I1.2.2.1 _ _ _ u1).2 i) e2'
      have tb2 := o2 _ _ tb1
      have a32 : h2.2.2 b 3 = (rd1 : Int) := (ov2 b 3 (by omega) (Or.inr (by decide))).trans a3
      have u32 := o2 _ _ u3
      refine to_aload_np (dat dk_X0_makeRoom 54 rfl) bpos rfl (to_aload_np (dat dk_X0_makeRoom 55 rfl) bpos rfl (to_getR rd1 g_c1_21 (dat dk_X0_makeRoom 56 rfl) tb2 a32 (to_iload (dat dk_X0_makeRoom 57 rfl) rfl ?_)))
      refine to_cRa ca_c1_74 (dat dk_X0_makeRoom 58 rfl) (ct_J7_copyOf_59c91 l h2 I2 rd1 (w + 500) nr1 u32 (isK_d hb) (w + 500) (isK_d hb) N (by omega) (by omega)) rfl trivial rfl (fun x3 H3 mc3 ms3 c3 => ?_)
      refine to_putRw p_c1_21 (dat dk_X0_makeRoom 59 rfl) (by obtain ⟨-, -, -, f9, rfl, -, -⟩ := c3; exact newA_old I2 tb2) (fun h3 e3' => ?_)
      obtain ⟨hx3, hm3, hs3, I3, z3, o3, tn3, vb3, ov3, cn3, fr3⟩ := grow (j := 3) (w2 := w + 500) (n := N) I2 hb (by decide) rfl (by omega) (by omega) (Or.inl (isK_d hb)) (by omega) c3 (fun i => (I2.2.2.1 _ _ _ u32).2 i) e3'
      have tb3 := o3 _ _ tb2
      have a23 : h3.2.2 b 2 = (st1 : Int) := (ov3 b 2 (by omega) (Or.inr (by decide))).trans ((ov2 b 2 (by omega) (Or.inr (by decide))).trans a2)
      have u23 := o3 _ _ (o2 _ _ u2)
      refine to_aload_np (dat dk_X0_makeRoom 60 rfl) bpos rfl (to_aload_np (dat dk_X0_makeRoom 61 rfl) bpos rfl (to_getR st1 g_c1_18 (dat dk_X0_makeRoom 62 rfl) tb3 a23 (to_iload (dat dk_X0_makeRoom 63 rfl) rfl (to_iconst (dat dk_X0_makeRoom 64 rfl) (to_iadd (dat dk_X0_makeRoom 65 rfl) ?_)))))
      obtain ⟨M, eM⟩ : ∃ M : Nat, ((N : Int) + 1) = (M : Int) := ⟨N + 1, by omega⟩
      rw [eM]
      refine to_cRa ca_c1_74 (dat dk_X0_makeRoom 66 rfl) (ct_J7_copyOf_59c91 l h3 I3 st1 w ns1 u23 hw10 w hw10 M (by omega) (by omega)) rfl trivial rfl (fun x4 H4 mc4 ms4 c4 => ?_)
      refine to_putRw p_c1_18 (dat dk_X0_makeRoom 67 rfl) (by obtain ⟨-, -, -, f9, rfl, -, -⟩ := c4; exact newA_old I3 tb3) (fun h4 e4' => ?_)
      obtain ⟨hx4, hm4, hs4, I4, z4, o4, tn4, vb4, ov4, cn4, fr4⟩ := grow (j := 2) (w2 := w) (n := M) I3 hb (by decide) rfl (by omega) (by omega) (Or.inl hw10) hw20 c4 (fun i => (I3.2.2.1 _ _ _ u23).2 i) e4'
      have b1 : h4.2.2 b 1 = (h1.1 : Int) := (ov4 b 1 (by omega) (Or.inr (by decide))).trans ((ov3 b 1 (by omega) (Or.inr (by decide))).trans vb2)
      have b3 : h4.2.2 b 3 = (h2.1 : Int) := (ov4 b 3 (by omega) (Or.inr (by decide))).trans vb3
      have b4 : h4.2.2 b 4 = (rw1 : Int) := (ov4 b 4 (by omega) (Or.inr (by decide))).trans ((ov3 b 4 (by omega) (Or.inr (by decide))).trans ((ov2 b 4 (by omega) (Or.inr (by decide))).trans a4))
      have b5 : h4.2.2 b 5 = x5 := (ov4 b 5 (by omega) (Or.inr (by decide))).trans ((ov3 b 5 (by omega) (Or.inr (by decide))).trans ((ov2 b 5 (by omega) (Or.inr (by decide))).trans y5))
      have R4 : BkR h4 b w h1.1 h3.1 h2.1 rw1 N M N nw1 := ⟨⟨b1, vb4, b3, b4⟩, ⟨o4 _ _ (o3 _ _ tn2), tn4, o4 _ _ tn3, o4 _ _ (o3 _ _ (o2 _ _ u4))⟩, by omega, by omega, by omega, w4⟩
      have s5 := I1.ltN u2
      have es : h4.2.2 h3.1 (x5.toNat) = h1.2.2 st1 (x5.toNat) := (cn4 _ (by omega) (by omega)).trans ((ov3 st1 _ (by omega) (Or.inl (fun e => by subst e; cases tb1.symm.trans u2))).trans (ov2 st1 _ (by omega) (Or.inl (fun e => by subst e; cases tb1.symm.trans u2))))
      have V4 := R4.vals
      rw [y5] at m4 m5 m6 m7 v1
      rw [b5, es] at V4
      exact to_vret rfl (dat dk_X0_makeRoom 68 rfl) (rv_mka ⟨I4, ((f1.sub (fr2 [b, 999] (by simp) (by simp)) (sub_self _)).sub (fr3 [b, 999] (by simp) (by simp)) (sub_self _)).sub (fr4 [b, 999] (by simp) (by simp)) (sub_self _), ⟨⟨⟨⟨_, _, _, _, _, _, _, _, R4, by omega, by omega, by omega, by rw [b5]; omega, by rw [b5, es]; exact m5, by rw [b5, es]; exact m6, by rw [b5]; omega⟩, by omega, by omega, by omega, by omega⟩, ((cp1.tr (CPb.grow I1 hb (j0 := 1) a1 u1 (by omega) o2 tn2 vb2 ov2 cn2)).tr (CPb.grow I2 hb (j0 := 3) a32 u32 (by omega) o3 tn3 vb3 ov3 cn3)).tr (CPb.grow I3 hb (j0 := 2) a23 u23 (by omega) o4 tn4 vb4 ov4 cn4), (by rw [b4, Int.toNat_natCast, len_of (o4 _ _ (o3 _ _ (o2 _ _ u4)))]; rw [a4, Int.toNat_natCast, len_of u4] at rwx1; omega)⟩, (by rw [b1, Int.toNat_natCast, len_of (o4 _ _ (o3 _ _ tn2))]; omega)⟩, by omega⟩)
  have m0 : MR h h b w 0 0 := ⟨kb, rfl, rfl, by omega, rfl⟩
  refine to_aload_np (dat dk_X0_makeRoom 0 rfl) bpos rfl (to_getR rw_ g_c1_24 (dat dk_X0_makeRoom 1 rfl) tb e4 (to_alen (dat dk_X0_makeRoom 2 rfl) t4 (by have := isK_r hb; omega) (to_istore_n (L' := [(0, .inr (.inr b)), (1, .inl f), (2, .inl g), (3, .inl (nw : Int))]) (dat dk_X0_makeRoom 3 rfl) (by decide) rfl (to_iload_n (dat dk_X0_makeRoom 4 rfl) rfl (to_iload_n (dat dk_X0_makeRoom 5 rfl) rfl ?_)))))
  refine to_ile 58 (dat dk_X0_makeRoom 6 rfl) rfl hg hf (fun c1 => ?_) (fun c1 => ?_)
  · skip
    exfalso; omega
  · skip
    refine to_aload_np (dat dk_X0_makeRoom 7 rfl) bpos rfl (to_getIv (y := x5) ex5 g_c1_28 (dat dk_X0_makeRoom 8 rfl) tb (to_aload_np (dat dk_X0_makeRoom 9 rfl) bpos rfl (to_getR st g_c1_18 (dat dk_X0_makeRoom 10 rfl) tb e2 (to_alen (dat dk_X0_makeRoom 11 rfl) t2 (by omega) ?_))))
    refine to_ige 58 (dat dk_X0_makeRoom 12 rfl) rfl (by omega) (by have := hI.lenM t2; omega) (fun c2 => ?_) (fun c2 => ?_)
    · skip
      exfalso; omega
    · skip
      rw [ex5] at n5 n6 v
      refine to_aload_np (dat dk_X0_makeRoom 13 rfl) bpos rfl (to_getR st g_c1_18 (dat dk_X0_makeRoom 14 rfl) tb e2 (to_aload_np (dat dk_X0_makeRoom 15 rfl) bpos rfl (to_getIv (y := x5) ex5 g_c1_28 (dat dk_X0_makeRoom 16 rfl) tb ?_)))
      obtain ⟨x6, ex6⟩ : ∃ y : Int, h.2.2 st (Int.toNat x5) = y := ⟨_, rfl⟩
      refine to_ialdv ex6 (dat dk_X0_makeRoom 17 rfl) t2 hw10 (hI.lenN t2) (by omega) (to_iload_n (dat dk_X0_makeRoom 18 rfl) rfl (to_iadd (dat dk_X0_makeRoom 19 rfl) (to_iload_n (dat dk_X0_makeRoom 20 rfl) rfl (to_isub (dat dk_X0_makeRoom 21 rfl) (to_iload_n (dat dk_X0_makeRoom 22 rfl) rfl ?_)))))
      rw [ex6] at n5 n6 v
      refine to_ile 58 (dat dk_X0_makeRoom 23 rfl) rfl (by omega) (by omega) (fun c3 => ?_) (fun c3 => ?_)
      · skip
        exact jn58 h 0 0 hI (Fr.rf _ _) ⟨m0, CPb.rf, (by rw [e4, Int.toNat_natCast, len_of t4]; omega)⟩ (by omega)
      · skip
        refine to_aload_np (dat dk_X0_makeRoom 24 rfl) bpos rfl (to_aload_np (dat dk_X0_makeRoom 25 rfl) bpos rfl (to_getR rw_ g_c1_24 (dat dk_X0_makeRoom 26 rfl) tb e4 (to_iload_n (dat dk_X0_makeRoom 27 rfl) rfl (to_iconst (dat dk_X0_makeRoom 28 rfl) (to_imul (dat dk_X0_makeRoom 29 rfl) (to_iload_n (dat dk_X0_makeRoom 30 rfl) rfl (to_iadd (dat dk_X0_makeRoom 31 rfl) (to_iload_n (dat dk_X0_makeRoom 32 rfl) rfl (to_isub (dat dk_X0_makeRoom 33 rfl) ?_)))))))))
        obtain ⟨N, eN⟩ : ∃ N : Nat, ((((nw : Int) * 2) + g) - f) = (N : Int) := ⟨((((nw : Int) * 2) + g) - f).toNat, by omega⟩
        rw [eN]
        refine to_cRa ca_c1_68 (dat dk_X0_makeRoom 34 rfl) (ct_J7_copyOf_9075b l h hI rw_ (w + 601) nw t4 (isK_r hb) (w + 601) (isK_r hb) N (by omega) (by omega) (by omega)) rfl trivial rfl (fun x2 H2 mc2 ms2 cc => ?_)
        refine to_putRw p_c1_24 (dat dk_X0_makeRoom 35 rfl) (by obtain ⟨-, -, -, f9, rfl, -, -⟩ := cc; exact newA_old hI tb) (fun h2 e2' => ?_)
        obtain ⟨hx2, hm2, hs2, I2, z2, o2, tn2, vb2, ov2, cn2, fr2⟩ := grow (j := 4) (w2 := w + 601) (n := N) hI hb (by decide) rfl (by omega) (by omega) (Or.inr (isK_r hb)) (by omega) cc (fun i => (hI.2.2.1 _ _ _ t4).2 i) e2'
        have b1 := (ov2 b 1 (by omega) (Or.inr (by decide))).trans e1
        have b2 := (ov2 b 2 (by omega) (Or.inr (by decide))).trans e2
        have b3 := (ov2 b 3 (by omega) (Or.inr (by decide))).trans e3
        have b5 := (ov2 b 5 (by omega) (Or.inr (by decide))).trans ex5
        have s5 := hI.ltN t2
        have es : h2.2.2 st (x5.toNat) = x6 := (ov2 st _ (by omega) (Or.inl (fun e => by subst e; cases tb.symm.trans t2))).trans ex6
        have R2 : BkR h2 b w nx st rd h.1 nn ns nr N := ⟨⟨b1, b2, b3, vb2⟩, ⟨o2 _ _ t1, o2 _ _ t2, o2 _ _ t3, tn2⟩, p1, p2, p3, by omega⟩
        have V2 := R2.vals
        rw [b5, es] at V2
        subst hm2 hs2
        refine jn58 h2 _ _ I2 (fr2 [b, 999] (by simp) (by simp)) ⟨⟨⟨_, _, _, _, _, _, _, _, R2, n1, n2, n3, by rw [b5]; omega, by rw [b5, es]; omega, by rw [b5, es]; omega, by rw [b5]; omega⟩, by omega, by omega, by omega, by omega⟩, CPb.grow hI hb (j0 := 4) e4 t4 (by omega) o2 tn2 vb2 ov2 cn2, (by rw [e4, Int.toNat_natCast, len_of t4] at hW; rw [vb2, Int.toNat_natCast, len_of tn2]; omega)⟩ (by omega)
