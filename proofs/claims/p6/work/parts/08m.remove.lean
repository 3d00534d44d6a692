/-! A message is removed from the list. -/
theorem Inv.row34 {h : Hp} (hI : Inv h) {a n : Nat} {f : Nat → Int} (ht : h.2.1 a = some (.inl (34, n))) (hL' : Lst (row h a f)) : Inv (row h a f) := by
  have hbig := noK_big hI (by decide +kernel) ht
  obtain ⟨hS, hR, hG, hM, hF, hL, hb1, hb2, hb3⟩ := hI
  have bk : ∀ b w, b < 106 → Bk h b w → Bk (row h a f) b w := fun b w hb k => by
    unfold Bk
    rw [row_ne (show b ≠ a by omega)]
    exact k
  refine ⟨hS, fun b i lo hi e => ?_, fun b k' n' hb => ⟨(hG b k' n' hb).1, fun i => ?_⟩, fun b hb => ?_, fun b n' hb => ?_, hL', bk 8 60 (by decide) hb1, bk 14 70 (by decide) hb2, bk 20 80 (by decide) hb3⟩
  · have hab : b ≠ a := fun q => by
      subst q
      rw [rg_none hbig] at e
      cases e
    rw [row_ne hab]
    exact hR b i lo hi e
  · by_cases hab : b = a
    · subst hab
      cases ht.symm.trans hb
      trivial
    · rw [row_ne hab]
      exact (hG b k' n' hb).2 i
  · have hab : b ≠ a := fun q => by
      subst q
      cases ht.symm.trans hb
    exact MsgAt.mono (h := h) (H := row h a f) (fun _ _ h9 => h9) (row_ne hab) (hM b hb)
  · have hab : b ≠ a := fun q => by
      subst q
      cases ht.symm.trans hb
    rw [row_ne hab]
    exact hF b n' hb
theorem Fr.row34 {S : List Nat} {h h1 : Hp} (f : Fr S h h1) (hI : Inv h1) {a n : Nat} {g : Nat → Int} (ht : h1.2.1 a = some (.inl (34, n))) (hc : S.contains 313 = true) : Fr S h (row h1 a g) := by
  have hbig := noK_big hI (by decide +kernel) ht
  refine ⟨f.1, fun b j hb hn => ?_, f.2.2⟩
  by_cases hab : b = a
  · subst hab
    have e : h.2.1 b = some (.inl (34, n)) := (f.1.2 b hb).symm.trans ht
    rw [e, col_arr hbig] at hn
    exact absurd hc (by rw [hn]; decide)
  · rw [row_ne hab]
    exact f.2.1 b j hb hn
theorem LiS.fr {h H : Hp} {s e n : Nat} (q : LiS h s e n) (e26 : H.2.2 26 = h.2.2 26) (ee : H.2.2 e = h.2.2 e) (ty : H.2.1 = h.2.1) (fl : ∀ m, full h m → full H m) : LiS H s e n := by
  obtain ⟨q1, q2, q3, q4, q5, q6, q7, q8⟩ := q
  refine ⟨by rw [e26]; exact q1, q2, by rw [e26]; exact q3, q4, by rw [ty]; exact q5, q6, q7, fun j hj => ?_⟩
  obtain ⟨m, m1, m2⟩ := q8 j hj
  exact ⟨m, by rw [ee]; exact m1, fl m m2⟩
set_option maxRecDepth 100000 in
theorem ct_Jx4a65c_fastRemove_b59b0 (l : Launch) (h : Hp) (hI : Inv h) (ed n s : Nat) (q : LiS h (s + 1) ed n) (i : Nat) (hi : i < s + 1) : Ct l D_Jx4a65c_fastRemove_b59b0 1 80 [.inr (.inr 26), .inr (.inr ed), .inl (i : Int)] h (RV (fun H => Inv H ∧ Fr [26, 313] h H ∧ H.2.2 26 2 = (s : Int) ∧ ∀ j, j < s → elS H j = elS h (if j < i then j else j + 1))) := by
  refine ct_of pn_Jx4a65c_fastRemove_b59b0 (Nat.le_of_ble_eq_true rfl) ?_
  show To l E_Jx4a65c_fastRemove_b59b0 (0, [(0, .inr (.inr 26)), (1, .inr (.inr ed)), (2, .inl (i : Int))], [], h, 0, 0) _
  have t26 := hI.atS (a := 26) rfl
  obtain ⟨q1, q2, q3, q4, q5, q6, q7, q8⟩ := id q
  obtain ⟨x1, ex1⟩ : ∃ y : Int, h.2.2 26 0 = y := ⟨_, rfl⟩
  refine to_aload_n (dat dk_Jx4a65c_fastRemove_b59b0 0 rfl) rfl (to_dup (dat dk_Jx4a65c_fastRemove_b59b0 1 rfl) rfl (to_getIv (y := x1) ex1 g_c28_63 (dat dk_Jx4a65c_fastRemove_b59b0 2 rfl) t26 (to_iconst (dat dk_Jx4a65c_fastRemove_b59b0 3 rfl) (to_iaddA (dat dk_Jx4a65c_fastRemove_b59b0 4 rfl) (fun y ry => ?_)))))
  refine to_putIw p_c28_63 (dat dk_Jx4a65c_fastRemove_b59b0 5 rfl) t26 (fun h1 e1 => ?_)
  have I1 : Inv h1 := by rw [e1]; exact hI.put (a := 26) (j := 0) (-2147483648) (2147483647) rfl rfl (by unfold I32 at ry; omega)
  have F1 : Fr [26, 313] h h1 := by rw [e1]; exact Fr.putF (a := 26) (j := 0) (Fr.rf _ _) rfl
  have L1 : LiS h1 (s + 1) ed n := ⟨by rw [e1, wr_ne2 (by decide)]; exact q1, q2, by rw [e1, wr_ne2 (by decide)]; exact q3, q4, by rw [e1]; exact q5, q6, q7, fun j hj => by
    obtain ⟨m, m1, m2⟩ := q8 j hj
    exact ⟨m, by rw [e1, wr_ne (by omega)]; exact m1, by rw [e1]; exact full.putF hI (by decide) m2⟩⟩
  have t261 := I1.atS (a := 26) rfl
  have at34 : ∀ H : Hp, Inv H → Fr [26, 313] h H → LiS H (s + 1) ed n → (∀ j, j < s → elS H j = elS h (if j < i then j else j + 1)) → To l E_Jx4a65c_fastRemove_b59b0 (34, [(0, .inr (.inr 26)), (1, .inr (.inr ed)), (2, .inl (i : Int)), (3, .inl (s : Int))], [], H, 0, 0) (RV (fun H => Inv H ∧ Fr [26, 313] h H ∧ H.2.2 26 2 = (s : Int) ∧ ∀ j, j < s → elS H j = elS h (if j < i then j else j + 1))) := by
    intro H I F L hE
    have t := I.atS (a := 26) rfl
    refine to_aload_np (dat dk_Jx4a65c_fastRemove_b59b0 24 rfl) (by omega) rfl (to_aload_n (dat dk_Jx4a65c_fastRemove_b59b0 25 rfl) rfl (to_iload_n (dat dk_Jx4a65c_fastRemove_b59b0 26 rfl) rfl (to_dup_x1 (dat dk_Jx4a65c_fastRemove_b59b0 27 rfl) rfl rfl (to_putIw p_c28_48 (dat dk_Jx4a65c_fastRemove_b59b0 28 rfl) t (fun h2 e2 => ?_)))))
    have L2 : LiS h2 s ed n := by
      rw [e2]
      exact L.sz I (by omega) (by omega) (fun j j1 j2 => by omega)
    have I2 : Inv h2 := by rw [e2]; exact I.put26 (fun lo hi e => rg26_2 (by unfold I32; omega) e) (by rw [← e2]; exact L2.lst)
    have F2 : Fr [26, 313] h h2 := by rw [e2]; exact Fr.putF (a := 26) (j := 2) F rfl
    refine to_null (dat dk_Jx4a65c_fastRemove_b59b0 29 rfl) (to_aastN (dat dk_Jx4a65c_fastRemove_b59b0 30 rfl) L2.2.2.2.2.1 rfl (by omega) (by omega) ?_)
    rw [Int.toNat_natCast]
    have L3 : LiS (wr h2 ed s 0) s ed n := L2.st (fun hj => absurd hj (Nat.lt_irrefl s))
    have I3 : Inv (wr h2 ed s 0) := I2.put34 L2.2.2.2.2.1 L3.lst
    exact to_vret rfl (dat dk_Jx4a65c_fastRemove_b59b0 31 rfl) (rv_mk ⟨I3, Fr.putA F2 I2 L2.2.2.2.2.1 (by decide +kernel), L3.1, fun j hj => by rw [← hE j hj, elS_of L3, elS_of L, wr_ne2 (by omega), e2, wr_ne (by omega)]⟩)
  refine to_aload_n (dat dk_Jx4a65c_fastRemove_b59b0 6 rfl) rfl (to_getIv (y := ((s + 1 : Nat) : Int)) L1.1 g_c28_48 (dat dk_Jx4a65c_fastRemove_b59b0 7 rfl) t261 (to_iconst (dat dk_Jx4a65c_fastRemove_b59b0 8 rfl) (to_isub (dat dk_Jx4a65c_fastRemove_b59b0 9 rfl) ?_)))
  rw [show ((s + 1 : Nat) : Int) - 1 = (s : Int) by omega]
  refine to_dup (dat dk_Jx4a65c_fastRemove_b59b0 10 rfl) rfl (to_istore_n (L' := [(0, .inr (.inr 26)), (1, .inr (.inr ed)), (2, .inl (i : Int)), (3, .inl (s : Int))]) (dat dk_Jx4a65c_fastRemove_b59b0 11 rfl) (by decide) rfl (to_iload_n (dat dk_Jx4a65c_fastRemove_b59b0 12 rfl) rfl ?_))
  refine to_ile 34 (dat dk_Jx4a65c_fastRemove_b59b0 13 rfl) rfl (by omega) (by omega) (fun c1 => at34 h1 I1 F1 L1 fun j hj => by rw [if_pos (by omega), elS_of L1, elS_of q, e1, wr_ne (by omega)]) (fun c1 => ?_)
  refine to_aload_np (dat dk_Jx4a65c_fastRemove_b59b0 14 rfl) (by omega) rfl (to_iload_n (dat dk_Jx4a65c_fastRemove_b59b0 15 rfl) rfl (to_iconst (dat dk_Jx4a65c_fastRemove_b59b0 16 rfl) (to_iadd (dat dk_Jx4a65c_fastRemove_b59b0 17 rfl) (to_aload_np (dat dk_Jx4a65c_fastRemove_b59b0 18 rfl) (by omega) rfl (to_iload_n (dat dk_Jx4a65c_fastRemove_b59b0 19 rfl) rfl (to_iload_n (dat dk_Jx4a65c_fastRemove_b59b0 20 rfl) rfl (to_iload_n (dat dk_Jx4a65c_fastRemove_b59b0 21 rfl) rfl (to_isub (dat dk_Jx4a65c_fastRemove_b59b0 22 rfl) ?_))))))))
  have sp : ((i : Int) + 1).toNat = i + 1 := by omega
  have sc : ((s : Int) - i).toNat = s - i := by omega
  refine to_copyR (a := ed) (b := ed) (tin 5 176 (by decide +kernel) rfl) (tin 4 149 (by decide +kernel) rfl) (tin 4 148 (by decide +kernel) rfl) (tin 1 25 (by decide +kernel) rfl) (dat dk_Jx4a65c_fastRemove_b59b0 23 rfl) L1.2.2.2.2.1 rfl L1.2.2.2.2.1 rfl q7 q7 (by omega) (by omega) (by omega) (by omega) (by omega) (tinN 9 47 (by decide +kernel) rfl) (fun j hj => by
    obtain ⟨m, m1, m2⟩ := L1.2.2.2.2.2.2.2 (i + 1 + j) (by omega)
    exact Or.inr ⟨m, by rw [sp]; exact m1, m2.1⟩) rfl (fun h2 e2 => ?_)
  have e2 : h2 = row h1 ed (cpyF h1 ed ed (i + 1) i (s - i)) := by rw [e2, sp, sc, Int.toNat_natCast]
  have L2 : LiS h2 (s + 1) ed n := by
    obtain ⟨w1, w2, w3, w4, w5, w6, w7, w8⟩ := id L1
    rw [e2]
    refine ⟨by rw [row_ne (by omega)]; exact w1, w2, by rw [row_ne (by omega)]; exact w3, w4, w5, w6, w7, fun j hj => ?_⟩
    obtain ⟨j', hj', ej⟩ : ∃ j', j' < s + 1 ∧ cpyF h1 ed ed (i + 1) i (s - i) j = h1.2.2 ed j' := by
      by_cases hjj : i ≤ j ∧ j < i + (s - i)
      · refine ⟨i + 1 + (j - i), by omega, ?_⟩
        unfold cpyF va_cpy
        rw [if_pos (by omega)]
      · refine ⟨j, hj, ?_⟩
        unfold cpyF va_cpy
        rw [if_neg (by omega)]
    obtain ⟨m, m1, m2⟩ := w8 j' hj'
    refine ⟨m, by rw [row_eq, ej]; exact m1, full.mono (h := h1) (H := row h1 ed (cpyF h1 ed ed (i + 1) i (s - i))) (fun _ _ h9 => h9) (row_ne fun e9 => ?_) m2⟩
    subst e9
    cases w5.symm.trans m2.1
  have I2 : Inv h2 := by rw [e2]; exact I1.row34 L1.2.2.2.2.1 (by rw [← e2]; exact L2.lst)
  have F2 : Fr [26, 313] h h2 := by rw [e2]; exact F1.row34 I1 L1.2.2.2.2.1 rfl
  refine at34 h2 I2 F2 L2 fun j hj => ?_
  rw [elS_of L2, elS_of q, e2, row_eq]
  have e9 : ∀ k, h.2.2 ed k = h1.2.2 ed k := fun k => by rw [e1, wr_ne (by omega)]
  rw [e9]
  unfold cpyF va_cpy
  by_cases hji : j < i
  · rw [if_pos hji, if_neg (by omega)]
  · rw [if_neg hji, if_pos (by omega)]
    exact congrArg _ (by omega)
set_option maxRecDepth 100000 in
theorem ct_Jx4a65c_remove_915e3 (l : Launch) (h : Hp) (hI : Inv h) (s : Nat) (hs : h.2.2 26 2 = ((s + 1 : Nat) : Int)) (i : Nat) (hi : i < s + 1) : Ct l D_Jx4a65c_remove_915e3 2 103 [.inr (.inr 26), .inl (i : Int)] h (RR (fun x H => Inv H ∧ Fr [26, 313] h H ∧ H.2.2 26 2 = (s : Int) ∧ ∀ j, j < s → elS H j = elS h (if j < i then j else j + 1))) := by
  refine ct_of pn_Jx4a65c_remove_915e3 (Nat.le_of_ble_eq_true rfl) ?_
  show To l E_Jx4a65c_remove_915e3 (0, [(0, .inr (.inr 26)), (1, .inl (i : Int))], [], h, 0, 0) _
  have t26 := hI.atS (a := 26) rfl
  have h60 := hI.lsz
  rcases hI.lis hs with ⟨g1, g2⟩ | ⟨e, n, q⟩
  · omega
  · obtain ⟨q1, q2, q3, q4, q5, q6, q7, q8⟩ := id q
    obtain ⟨m, m1, m2⟩ := q8 i hi
    have m6 := m2.big hI
    refine to_iload_n (dat dk_Jx4a65c_remove_915e3 0 rfl) rfl (to_aload_n (dat dk_Jx4a65c_remove_915e3 1 rfl) rfl (to_getIv (y := ((s + 1 : Nat) : Int)) hs g_c28_48 (dat dk_Jx4a65c_remove_915e3 2 rfl) t26 ?_))
    refine to_cI ca_c28_118 (dat dk_Jx4a65c_remove_915e3 3 rfl) (ct_J15_checkIndex_7cf53 l h hI (i : Int) (by omega) ((s + 1 : Nat) : Int) (by omega) (by omega)) rfl trivial rfl (fun r h9 rr p => ?_)
    obtain ⟨rfl, p1⟩ := p
    refine to_pop (dat dk_Jx4a65c_remove_915e3 4 rfl) rfl (to_aload_n (dat dk_Jx4a65c_remove_915e3 5 rfl) rfl (to_getR e g_c28_9 (dat dk_Jx4a65c_remove_915e3 6 rfl) t26 q3 ?_))
    refine to_astore_n (L' := [(0, .inr (.inr 26)), (1, .inl (i : Int)), (2, .inr (.inr e))]) (dat dk_Jx4a65c_remove_915e3 7 rfl) (by omega) (by decide) rfl ?_
    refine to_aload_np (dat dk_Jx4a65c_remove_915e3 8 rfl) (by omega) rfl (to_iload_n (dat dk_Jx4a65c_remove_915e3 9 rfl) rfl ?_)
    refine to_aaldv m (dat dk_Jx4a65c_remove_915e3 10 rfl) q5 rfl (by omega) (by omega) (by rw [Int.toNat_natCast]; exact m1) ?_
    refine to_astore_n (L' := [(0, .inr (.inr 26)), (1, .inl (i : Int)), (2, .inr (.inr e)), (3, .inr (.inr m))]) (dat dk_Jx4a65c_remove_915e3 11 rfl) (by omega) (by decide) rfl ?_
    refine to_aload_n (dat dk_Jx4a65c_remove_915e3 12 rfl) rfl (to_aload_np (dat dk_Jx4a65c_remove_915e3 13 rfl) (by omega) rfl (to_iload_n (dat dk_Jx4a65c_remove_915e3 14 rfl) rfl ?_))
    refine to_cV ca_c28_144 (dat dk_Jx4a65c_remove_915e3 15 rfl) (ct_Jx4a65c_fastRemove_b59b0 l h hI e n s q i hi) rfl ⟨_, _, rfl, t26⟩ rfl (fun H p => ?_)
    refine to_aload_np (dat dk_Jx4a65c_remove_915e3 16 rfl) (by omega) rfl ?_
    exact to_aret rfl (Or.inl ⟨_, rfl⟩) (dat dk_Jx4a65c_remove_915e3 17 rfl) (rr_mk p)
