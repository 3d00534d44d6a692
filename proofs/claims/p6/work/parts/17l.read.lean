/-! A new message's row of tags; what the list of messages holds after a message came or went. -/
def NT (h H : Hp) (M : Nat) : Prop := (∃ T : Nat, h.1 ≤ T ∧ H.2.2 M 6 = (T : Int) ∧ H.2.1 T = some (.inl (10, 8))) ∧ H.2.2 M 7 = 0
def NMM (h H : Hp) : Prop := (H.2.2 26 2).toNat = (h.2.2 26 2).toNat + 1 ∧ (∀ j : Nat, j < (h.2.2 26 2).toNat → elS H j = elS h j) ∧ ∃ M : Nat, elS H (h.2.2 26 2).toNat = (M : Int) ∧ full H M ∧ NT h H M
def nmOK (S : List Nat) : Bool := (!S.contains 26 && !S.contains 313) && (!S.contains 336 && !S.contains 337)
theorem nt_fr {S : List Nat} {h H H' : Hp} {M : Nat} (f : Fr S H H') (hI : Inv H) (fm : full H M) (nt : NT h H M) (s1 : S.contains 336 = false) (s2 : S.contains 337 = false) : NT h H' M := by
  obtain ⟨⟨T, t1, t2, t3⟩, t4⟩ := nt
  have hb := fm.big hI
  have hl := hI.ltN fm.1
  exact ⟨⟨T, t1, (f.2.1 M 6 hl (by rw [fm.1, col_msg hb]; exact s1)).trans t2, (f.1.2 _ (hI.ltN t3)).trans t3⟩, (f.2.1 M 7 hl (by rw [fm.1, col_msg hb]; exact s2)).trans t4⟩
theorem NMM.fr {S : List Nat} {h H H' : Hp} (n : NMM h H) (hI : Inv H) (f : Fr S H H') (hs : nmOK S = true) (hm : mcol S = true) : NMM h H' := by
  obtain ⟨n1, n2, M, m1, m2, m3⟩ := n
  unfold nmOK at hs
  simp only [Bool.and_eq_true, Bool.not_eq_true'] at hs
  have f26 : H'.2.2 26 2 = H.2.2 26 2 := f.2.1 26 2 (hI.ltN (hI.atS (a := 26) rfl)) hs.1.1
  have e : ∀ j : Nat, j ≤ (h.2.2 26 2).toNat → elS H' j = elS H j := fun j hj => elS_fr f hI (by simp only [Bool.and_eq_true, Bool.not_eq_true']; exact hs.1) (by omega)
  exact ⟨by rw [f26]; exact n1, fun j hj => (e j (by omega)).trans (n2 j hj), M, (e _ (Nat.le_refl _)).trans m1, full.fr f hm hI m2, nt_fr f hI m2 m3 hs.2.1 hs.2.2⟩
theorem NMM.mk {S : List Nat} {h hr ha : Hp} {M : Nat} (hI : Inv h) (f1 : Fr S h hr) (s1 : (!S.contains 26 && !S.contains 313) = true) (Ir : Inv hr) (fM : full hr M) (nt : NT h hr M) (fa : Fr [26, 313, 999] hr ha) (e : ha.2.2 26 2 = hr.2.2 26 2 + 1) (el1 : ∀ j : Nat, j < (hr.2.2 26 2).toNat → elS ha j = elS hr j) (el2 : elS ha (hr.2.2 26 2).toNat = (M : Int)) : NMM h ha := by
  have s1' := s1
  simp only [Bool.and_eq_true, Bool.not_eq_true'] at s1'
  have f26 : hr.2.2 26 2 = h.2.2 26 2 := f1.2.1 26 2 (hI.ltN (hI.atS (a := 26) rfl)) s1'.1
  have p := hI.lsz
  rw [f26] at e el1 el2
  exact ⟨by omega, fun j hj => (el1 j hj).trans (elS_fr f1 hI s1 hj), M, el2, full.fr fa rfl Ir fM, nt_fr fa Ir fM nt rfl rfl⟩
def RMM (h H : Hp) (n : Int) : Prop := ∃ i : Nat, (nums h)[i]? = some n ∧ nums H = (nums h).eraseIdx i ∧ ∀ j : Nat, (j : Int) < h.2.2 26 2 - 1 → elS H j = elS h (if j < i then j else j + 1)
set_option maxRecDepth 100000 in
theorem ct_X6_init_vx (l : Launch) (h : Hp) (hI : Inv h) (m : Nat) (tm : h.2.1 m = some (.inr 5)) (nu : Int) (hnu : I32 nu) (w nw : Nat) (tw : h.2.1 w = some (.inl (0, nw))) (w6 : 106 ≤ w) (fs : Nat) (tf : h.2.1 fs = some (.inl (20, 5))) (f6 : 106 ≤ fs) (dt : Int) (hdt : I32 dt) (id_ : Int) (hid : I32 id_) (rf nr : Nat) (tr : h.2.1 rf = some (.inl (0, nr))) (r6 : 106 ≤ rf) (hlt : h.1 + 1 ≤ 900000) : Ct l D_X6_init 1 20 [.inr (.inr m), .inl nu, .inr (.inr w), .inr (.inr fs), .inl dt, .inl id_, .inr (.inr rf)] h (RVa (fun H mc ms => Inv H ∧ Fr [999, 330, 331, 332, 333, 334, 335, 336, 337] h H ∧ full H m ∧ mc = 1 ∧ ms = 8 ∧ H.1 = h.1 + 1 ∧ (∀ b, b ≠ m → b < h.1 → H.2.2 b = h.2.2 b) ∧ H.2.2 m 0 = nu ∧ H.2.2 m 6 = (h.1 : Int) ∧ H.2.1 h.1 = some (.inl (10, 8)) ∧ H.2.2 m 7 = h.2.2 m 7)) := by
  refine ct_of pn_X6_init (Nat.le_of_ble_eq_true rfl) ?_
  show To l E_X6_init (0, [(0, .inr (.inr m)), (1, .inl nu), (2, .inr (.inr w)), (3, .inr (.inr fs)), (4, .inl dt), (5, .inl id_), (6, .inr (.inr rf))], [], h, 0, 0) _
  have m6 := (hI.2.2.2.1 m tm).1
  have hml := hI.ltN tm
  have hwl := hI.ltN tw
  have hfl := hI.ltN tf
  have hrl := hI.ltN tr
  refine to_aload_np (dat dk_X6_init 0 rfl) (by omega) rfl (to_obj (tin 5 48 (by decide +kernel) rfl) (tin 1 38 (by decide +kernel) rfl) (tin 1 39 (by decide +kernel) rfl) (dat dk_X6_init 1 rfl) tm rfl ?_)
  refine to_aload_np (dat dk_X6_init 2 rfl) (by omega) rfl (to_bipush (dat dk_X6_init 3 rfl) (by decide) ?_)
  refine to_newarrayZ 10 rfl (by decide) rfl (tin 1 82 (by decide +kernel) rfl) (dat dk_X6_init 4 rfl) (by decide) (by omega) ?_
  obtain ⟨h1, e1⟩ : ∃ y : Hp, y = row (al h (.inl (10, 8))) h.1 (fun _ => 0) := ⟨_, rfl⟩
  have e1' : row (al h (Sum.inl (10, Int.toNat 8))) h.1 (fun _ => 0) = h1 := e1.symm
  rw [e1']
  have I1 : Inv h1 := by rw [e1]; exact Inv.newA hI hlt (by decide) (fun j => by show I32 0; unfold I32; omega) (by decide)
  have F1 : Fr [999, 330, 331, 332, 333, 334, 335, 336, 337] h h1 := by rw [e1]; exact fr_new (Fr.rf _ h) rfl
  have tn : h1.2.1 h.1 = some (.inl (10, 8)) := by rw [e1]; exact al_new h _
  have old : ∀ b t, h.2.1 b = some t → h1.2.1 b = some t := fun b t ht => by rw [e1]; exact newA_old hI ht
  have val : ∀ b t, h.2.1 b = some t → h1.2.2 b = h.2.2 b := fun b t ht => by rw [e1]; exact newA_val hI ht
  have z1 : h1.1 = h.1 + 1 := by rw [e1]; rfl
  have tm1 := old _ _ tm
  have hp1 := hI.1.1
  refine to_putRw p_c7_9 (dat dk_X6_init 5 rfl) tm1 (fun h2 e2 => ?_)
  refine to_aload_np (dat dk_X6_init 6 rfl) (by omega) rfl (to_iload_n (dat dk_X6_init 7 rfl) rfl (to_putIw p_c7_15 (dat dk_X6_init 8 rfl) (by rw [e2]; exact tm1) (fun h3 e3 => ?_)))
  refine to_aload_np (dat dk_X6_init 9 rfl) (by omega) rfl (to_aload_np (dat dk_X6_init 10 rfl) (by omega) rfl (to_putRw p_c7_19 (dat dk_X6_init 11 rfl) (by rw [e3, e2]; exact tm1) (fun h4 e4 => ?_)))
  refine to_aload_np (dat dk_X6_init 12 rfl) (by omega) rfl (to_aload_np (dat dk_X6_init 13 rfl) (by omega) rfl (to_putRw p_c7_22 (dat dk_X6_init 14 rfl) (by rw [e4, e3, e2]; exact tm1) (fun h5 e5 => ?_)))
  refine to_aload_np (dat dk_X6_init 15 rfl) (by omega) rfl (to_iload (dat dk_X6_init 16 rfl) rfl (to_putIw p_c7_25 (dat dk_X6_init 17 rfl) (by rw [e5, e4, e3, e2]; exact tm1) (fun h6 e6 => ?_)))
  refine to_aload_np (dat dk_X6_init 18 rfl) (by omega) rfl (to_iload (dat dk_X6_init 19 rfl) rfl (to_putIw p_c7_28 (dat dk_X6_init 20 rfl) (by rw [e6, e5, e4, e3, e2]; exact tm1) (fun h7 e7 => ?_)))
  refine to_aload_np (dat dk_X6_init 21 rfl) (by omega) rfl (to_aload_p (dat dk_X6_init 22 rfl) (by omega) rfl (to_putRw p_c7_31 (dat dk_X6_init 23 rfl) (by rw [e7, e6, e5, e4, e3, e2]; exact tm1) (fun h8 e8 => ?_)))
  have e81 : h8.1 = h1.1 := by rw [e8, e7, e6, e5, e4, e3, e2]; rfl
  have e82 : h8.2.1 = h1.2.1 := by rw [e8, e7, e6, e5, e4, e3, e2]; rfl
  have e83 : ∀ b, b ≠ m → h8.2.2 b = h1.2.2 b := fun b hb => funext fun i => by rw [e8, e7, e6, e5, e4, e3, e2, wr_ne hb, wr_ne hb, wr_ne hb, wr_ne hb, wr_ne hb, wr_ne hb, wr_ne hb]
  have v : ∀ j, h8.2.2 m j = if j = 5 then (rf : Int) else if j = 4 then id_ else if j = 3 then dt else if j = 2 then (fs : Int) else if j = 1 then (w : Int) else if j = 0 then nu else if j = 6 then (h.1 : Int) else h1.2.2 m j := fun j => by
    rw [e8, e7, e6, e5, e4, e3, e2]
    simp only [wr_if, true_and]
  have q0 := v 0
  have q1 := v 1
  have q2 := v 2
  have q3 := v 3
  have q4 := v 4
  have q5 := v 5
  have q6 := v 6
  have q7 := v 7
  simp at q0 q1 q2 q3 q4 q5 q6 q7
  have M1 := I1.2.2.2.1 m tm1
  have ful : full h8 m := ⟨by rw [e82]; exact tm1, by rw [q1]; omega, by rw [q2]; omega, by rw [q5]; omega, by rw [q6]; omega⟩
  have I8 : Inv h8 := I1.upd tm1 e81 e82 e83 ⟨m6, by rw [q0]; exact hnu, by rw [q3]; exact hdt, by rw [q4]; exact hid, by rw [q7]; exact M1.2.2.2.2.1, Or.inr ⟨w, nw, q1, w6, by rw [e82]; exact old _ _ tw⟩, Or.inr ⟨fs, 5, q2, f6, by rw [e82]; exact old _ _ tf⟩, Or.inr ⟨rf, nr, q5, r6, by rw [e82]; exact old _ _ tr⟩, Or.inr ⟨h.1, 8, q6, by omega, by rw [e82]; exact tn⟩⟩ (fun _ => ful)
  have F8 : Fr [999, 330, 331, 332, 333, 334, 335, 336, 337] h h8 := by
    have cc : ∀ j, j < 8 → m < h.1 → ([999, 330, 331, 332, 333, 334, 335, 336, 337] : List Nat).contains (col (h.2.1 m) m j) = true := fun j hj _ => by
      rw [tm, col_msg m6]
      rcases (show j = 0 ∨ j = 1 ∨ j = 2 ∨ j = 3 ∨ j = 4 ∨ j = 5 ∨ j = 6 ∨ j = 7 by omega) with rfl | rfl | rfl | rfl | rfl | rfl | rfl | rfl <;> rfl
    rw [e8, e7, e6, e5, e4, e3, e2]
    exact ((((((F1.put (cc 6 (by decide))).put (cc 0 (by decide))).put (cc 1 (by decide))).put (cc 2 (by decide))).put (cc 3 (by decide))).put (cc 4 (by decide))).put (cc 5 (by decide))
  exact to_vret rfl (dat dk_X6_init 24 rfl) (rv_mka ⟨I8, F8, ful, rfl, rfl, by rw [e81]; exact z1, fun b hb hl => by rw [e83 b hb, e1]; exact row_ne (by omega), q0, q6, by rw [e82]; exact tn, by rw [q7, val _ _ tm]⟩)
