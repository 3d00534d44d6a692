/-! A message is made. -/
/-- all but a message stays as it was -/
theorem Inv.upd {h H : Hp} {m : Nat} (hI : Inv h) (hf : h.2.1 m = some (.inr 5)) (e1 : H.1 = h.1) (e2 : H.2.1 = h.2.1) (e3 : ∀ b, b ≠ m → H.2.2 b = h.2.2 b) (hM' : MsgAt H m) (hfull : full h m → full H m) : Inv H := by
  have hbig : 106 ≤ m := (hI.2.2.2.1 m hf).1
  obtain ⟨hS, hR, hG, hM, hF, hL, hb1, hb2, hb3⟩ := hI
  have bk : ∀ b w, b < 106 → Bk h b w → Bk H b w := fun b w hb k => by
    unfold Bk
    rw [e3 b (by omega), e2]
    exact k
  refine ⟨?_, fun b i lo hi e => ?_, fun b k' n' hb => ?_, fun b hb => ?_, fun b n' hb => ?_, ?_, bk 8 60 (by decide) hb1, bk 14 70 (by decide) hb2, bk 20 80 (by decide) hb3⟩
  · unfold Sh
    rw [e1, e2]
    exact hS
  · have hab : b ≠ m := fun q => by
      subst q
      rw [rg_none hbig] at e
      cases e
    rw [e3 b hab]
    exact hR b i lo hi e
  · rw [e2] at hb
    have hab : b ≠ m := fun q => by
      subst q
      cases hf.symm.trans hb
    rw [e3 b hab]
    exact hG b k' n' hb
  · rw [e2] at hb
    by_cases hab : b = m
    · subst hab; exact hM'
    · have h1 := hM b hb
      unfold MsgAt mref at h1 ⊢
      rw [e3 b hab, e2]
      exact h1
  · rw [e2] at hb
    have hab : b ≠ m := fun q => by
      subst q
      cases hf.symm.trans hb
    rw [e3 b hab]
    exact hF b n' hb
  · obtain ⟨s, h1, h2, h3⟩ := hL
    refine ⟨s, by rw [e3 26 (by omega)]; exact h1, h2, ?_⟩
    rw [e3 26 (by omega)]
    rcases h3 with h3 | ⟨ed, n', g1, g2, g3, g4, g5⟩
    · exact Or.inl h3
    · refine Or.inr ⟨ed, n', g1, g2, by rw [e2]; exact g3, g4, fun i hi => ?_⟩
      have hed : ed ≠ m := fun e => by
        subst e
        cases hf.symm.trans g3
      obtain ⟨m', m1, m2⟩ := g5 i hi
      refine ⟨m', by rw [e3 ed hed]; exact m1, ?_⟩
      by_cases hmm : m' = m
      · subst hmm; exact hfull m2
      · unfold full
        rw [e3 m' hmm, e2]
        exact m2
set_option maxRecDepth 100000 in
theorem ct_X6_init (l : Launch) (h : Hp) (hI : Inv h) (m : Nat) (tm : h.2.1 m = some (.inr 5)) (nu : Int) (hnu : I32 nu) (w nw : Nat) (tw : h.2.1 w = some (.inl (0, nw))) (w6 : 106 ≤ w) (fs : Nat) (tf : h.2.1 fs = some (.inl (20, 5))) (f6 : 106 ≤ fs) (dt : Int) (hdt : I32 dt) (id_ : Int) (hid : I32 id_) (rf nr : Nat) (tr : h.2.1 rf = some (.inl (0, nr))) (r6 : 106 ≤ rf) (hlt : h.1 + 1 ≤ 900000) : Ct l D_X6_init 1 20 [.inr (.inr m), .inl nu, .inr (.inr w), .inr (.inr fs), .inl dt, .inl id_, .inr (.inr rf)] h (RVa (fun H mc ms => Inv H ∧ Fr [999, 330, 331, 332, 333, 334, 335, 336, 337] h H ∧ full H m ∧ mc = 1 ∧ ms = 8 ∧ H.1 = h.1 + 1 ∧ (∀ b, b ≠ m → b < h.1 → H.2.2 b = h.2.2 b) ∧ H.2.2 m 0 = nu)) := by
  refine ct_of pn_X6_init (Nat.le_of_ble_eq_true rfl) ?_
  show To l E_X6_init (0, [(0, .inr (.inr m)), (1, .inl nu), (2, .inr (.inr w)), (3, .inr (.inr fs)), (4, .inl dt), (5, .inl id_), (6, .inr (.inr rf))], [], h, 0, 0) _
  have m6 := (hI.2.2.2.1 m tm).1
  have hml := hI.ltN tm
  have hwl := hI.ltN tw
  have hfl := hI.ltN tf
  have hrl := hI.ltN tr
  refine to_aload_np (dat dk_X6_init 0 rfl) (by omega) rfl (to_obj (tin 5 48 (by decide +kernel) rfl) (tin 1 38 (by decide +kernel) rfl) (tin 1 39 (by decide +kernel) rfl) (dat dk_X6_init 1 rfl) tm rfl ?_)
  refine to_aload_np (dat dk_X6_init 2 rfl) (by omega) rfl (to_bipush (dat dk_X6_init 3 rfl) (by decide) ?_)
  refine to_newarrayZ 10 rfl (by decide) rfl (tin 1 82 (by decide +kernel) rfl) (dat dk_X6_init 4 rfl) (by decide) (by omega) ?_
  obtain ⟨h1, e1⟩ : ∃ y : Hp, y = row (al h (.inl (10, 8))) h.1 (fun _ => 0) := ⟨_, rfl⟩
  have e1' : row (al h (Sum.inl (10, Int.toNat 8))) h.1 (fun _ => 0) = h1 := e1.symm
  rw [e1']
  have I1 : Inv h1 := by rw [e1]; exact Inv.newA hI hlt (by decide) (fun j => by show I32 0; unfold I32; omega) (by decide)
  have F1 : Fr [999, 330, 331, 332, 333, 334, 335, 336, 337] h h1 := by rw [e1]; exact fr_new (Fr.rf _ h) rfl
  have tn : h1.2.1 h.1 = some (.inl (10, 8)) := by rw [e1]; exact al_new h _
  have old : ∀ b t, h.2.1 b = some t → h1.2.1 b = some t := fun b t ht => by rw [e1]; exact newA_old hI ht
  have val : ∀ b t, h.2.1 b = some t → h1.2.2 b = h.2.2 b := fun b t ht => by rw [e1]; exact newA_val hI ht
  have z1 : h1.1 = h.1 + 1 := by rw [e1]; rfl
  have tm1 := old _ _ tm
  have hp1 := hI.1.1
  refine to_putRw p_c7_9 (dat dk_X6_init 5 rfl) tm1 (fun h2 e2 => ?_)
  refine to_aload_np (dat dk_X6_init 6 rfl) (by omega) rfl (to_iload_n (dat dk_X6_init 7 rfl) rfl (to_putIw p_c7_15 (dat dk_X6_init 8 rfl) (by rw [e2]; exact tm1) (fun h3 e3 => ?_)))
  refine to_aload_np (dat dk_X6_init 9 rfl) (by omega) rfl (to_aload_np (dat dk_X6_init 10 rfl) (by omega) rfl (to_putRw p_c7_19 (dat dk_X6_init 11 rfl) (by rw [e3, e2]; exact tm1) (fun h4 e4 => ?_)))
  refine to_aload_np (dat dk_X6_init 12 rfl) (by omega) rfl (to_aload_np (dat dk_X6_init 13 rfl) (by omega) rfl (to_putRw p_c7_22 (dat dk_X6_init 14 rfl) (by rw [e4, e3, e2]; exact tm1) (fun h5 e5 => ?_)))
  refine to_aload_np (dat dk_X6_init 15 rfl) (by omega) rfl (to_iload (dat dk_X6_init 16 rfl) rfl (to_putIw p_c7_25 (dat dk_X6_init 17 rfl) (by rw [e5, e4, e3, e2]; exact tm1) (fun h6 e6 => ?_)))
  refine to_aload_np (dat dk_X6_init 18 rfl) (by omega) rfl (to_iload (dat dk_X6_init 19 rfl) rfl (to_putIw p_c7_28 (dat dk_X6_init 20 rfl) (by rw [e6, e5, e4, e3, e2]; exact tm1) (fun h7 e7 => ?_)))
  refine to_aload_np (dat dk_X6_init 21 rfl) (by omega) rfl (to_aload_p (dat dk_X6_init 22 rfl) (by omega) rfl (to_putRw p_c7_31 (dat dk_X6_init 23 rfl) (by rw [e7, e6, e5, e4, e3, e2]; exact tm1) (fun h8 e8 => ?_)))
  have e81 : h8.1 = h1.1 := by rw [e8, e7, e6, e5, e4, e3, e2]; rfl
  have e82 : h8.2.1 = h1.2.1 := by rw [e8, e7, e6, e5, e4, e3, e2]; rfl
  have e83 : ∀ b, b ≠ m → h8.2.2 b = h1.2.2 b := fun b hb => funext fun i => by rw [e8, e7, e6, e5, e4, e3, e2, wr_ne hb, wr_ne hb, wr_ne hb, wr_ne hb, wr_ne hb, wr_ne hb, wr_ne hb]
  have v : ∀ j, h8.2.2 m j = if j = 5 then (rf : Int) else if j = 4 then id_ else if j = 3 then dt else if j = 2 then (fs : Int) else if j = 1 then (w : Int) else if j = 0 then nu else if j = 6 then (h.1 : Int) else h1.2.2 m j := fun j => by
    rw [e8, e7, e6, e5, e4, e3, e2]
    simp only [wr_if, true_and]
  have q0 := v 0
  have q1 := v 1
  have q2 := v 2
  have q3 := v 3
  have q4 := v 4
  have q5 := v 5
  have q6 := v 6
  have q7 := v 7
  simp at q0 q1 q2 q3 q4 q5 q6 q7
  have M1 := I1.2.2.2.1 m tm1
  have ful : full h8 m := ⟨by rw [e82]; exact tm1, by rw [q1]; omega, by rw [q2]; omega, by rw [q5]; omega, by rw [q6]; omega⟩
  have I8 : Inv h8 := I1.upd tm1 e81 e82 e83 ⟨m6, by rw [q0]; exact hnu, by rw [q3]; exact hdt, by rw [q4]; exact hid, by rw [q7]; exact M1.2.2.2.2.1, Or.inr ⟨w, nw, q1, w6, by rw [e82]; exact old _ _ tw⟩, Or.inr ⟨fs, 5, q2, f6, by rw [e82]; exact old _ _ tf⟩, Or.inr ⟨rf, nr, q5, r6, by rw [e82]; exact old _ _ tr⟩, Or.inr ⟨h.1, 8, q6, by omega, by rw [e82]; exact tn⟩⟩ (fun _ => ful)
  have F8 : Fr [999, 330, 331, 332, 333, 334, 335, 336, 337] h h8 := by
    have cc : ∀ j, j < 8 → m < h.1 → ([999, 330, 331, 332, 333, 334, 335, 336, 337] : List Nat).contains (col (h.2.1 m) m j) = true := fun j hj _ => by
      rw [tm, col_msg m6]
      rcases (show j = 0 ∨ j = 1 ∨ j = 2 ∨ j = 3 ∨ j = 4 ∨ j = 5 ∨ j = 6 ∨ j = 7 by omega) with rfl | rfl | rfl | rfl | rfl | rfl | rfl | rfl <;> rfl
    rw [e8, e7, e6, e5, e4, e3, e2]
    exact ((((((F1.put (cc 6 (by decide))).put (cc 0 (by decide))).put (cc 1 (by decide))).put (cc 2 (by decide))).put (cc 3 (by decide))).put (cc 4 (by decide))).put (cc 5 (by decide))
  exact to_vret rfl (dat dk_X6_init 24 rfl) (rv_mka ⟨I8, F8, ful, rfl, rfl, by rw [e81]; exact z1, fun b hb hl => by rw [e83 b hb, e1]; exact row_ne (by omega), q0⟩)
def FO (h H : Hp) (x mc ms len0 : Nat) : Prop := x = h.1 ∧ mc = 1 ∧ ms ≤ len0 ∧ H.2.1 x = some (.inl (0, ms)) ∧ H.1 = h.1 + 1
set_option maxRecDepth 100000 in
theorem ct_X7_firstOf (l : Launch) (h : Hp) (hI : Inv h) (a w len0 : Nat) (ta : h.2.1 a = some (.inl (w, len0))) (hw : w % 10 = 0) (n : Int) (hn : I32 n) (hlt : h.1 + 1 ≤ 900000) : Ct l D_X7_firstOf 2 102 [.inr (.inr a), .inl n] h (RRa (fun x H mc ms => Inv H ∧ Fr [999] h H ∧ FO h H x mc ms len0)) := by
  refine ct_of pn_X7_firstOf (Nat.le_of_ble_eq_true rfl) ?_
  show To l E_X7_firstOf (0, [(0, .inr (.inr a)), (1, .inl n)], [], h, 0, 0) _
  have apos := hI.posN ta
  have hlen := hI.lenM ta
  have j16 : ∀ N : Nat, N ≤ len0 → To l E_X7_firstOf (16, [(0, .inr (.inr a)), (1, .inl n)], [.inl (N : Int), .inr (.inr a)], h, 0, 0) (RRa (fun x H mc ms => Inv H ∧ Fr [999] h H ∧ FO h H x mc ms len0)) := by
    intro N hN
    refine to_cRa ca_c8_230 (dat dk_X7_firstOf 10 rfl) (ct_J7_copyOf_59c91 l h hI a w len0 ta hw 0 rfl N (by omega) hlt) rfl trivial rfl (fun x2 H2 mc2 ms2 c2 => ?_)
    obtain ⟨hx, hmc, hms, f, hH, f1, f2⟩ := c2
    have g0 : ∀ i, gk 0 (f i) := fun i => by
      rcases f1 i with h9 | h9
      · rw [h9]; exact hI.con0 ta hw i
      · rw [h9]; show I32 0; unfold I32; omega
    exact to_aret rfl (Or.inr ⟨_, rfl⟩) (dat dk_X7_firstOf 11 rfl) (rr_mka ⟨by rw [hH]; exact Inv.newA hI hlt (by omega) g0 (by decide), by rw [hH]; exact fr_new (Fr.rf _ h) rfl, hx, by omega, by omega, by rw [hH, hx, hms]; simp only [Nat.zero_add]; exact al_new h _, by rw [hH]; rfl⟩)
  refine to_aload_np (dat dk_X7_firstOf 0 rfl) apos rfl (to_iload_n (dat dk_X7_firstOf 1 rfl) rfl ?_)
  refine to_iflt 15 (dat dk_X7_firstOf 2 rfl) rfl hn (fun c1 => ?_) (fun c1 => ?_)
  · skip
    refine to_iconst (dat dk_X7_firstOf 9 rfl) ?_
    exact j16 0 (by omega)
  · skip
    refine to_iload_n (dat dk_X7_firstOf 3 rfl) rfl (to_aload_np (dat dk_X7_firstOf 4 rfl) apos rfl (to_alen (dat dk_X7_firstOf 5 rfl) ta (by omega) ?_))
    refine to_igt 15 (dat dk_X7_firstOf 6 rfl) rfl hn (by omega) (fun c2 => ?_) (fun c2 => ?_)
    · skip
      refine to_iconst (dat dk_X7_firstOf 9 rfl) ?_
      exact j16 0 (by omega)
    · skip
      refine to_iload_n (dat dk_X7_firstOf 7 rfl) rfl (to_goto (dat dk_X7_firstOf 8 rfl) rfl ?_)
      obtain ⟨N, rfl⟩ : ∃ N : Nat, n = (N : Int) := ⟨n.toNat, by omega⟩
      exact j16 N (by omega)
