/-! The list of messages: what is added, what is removed. -/
theorem Inv.put26 {h : Hp} (hI : Inv h) {j : Nat} {x : Int} (hr : ∀ lo hi, rg 26 j = some (lo, hi) → lo ≤ x ∧ x ≤ hi) (hL' : Lst (wr h 26 j x)) : Inv (wr h 26 j x) := by
  have t26 := hI.atS (a := 26) rfl
  obtain ⟨hS, hR, hG, hM, hF, hL, hb1, hb2, hb3⟩ := hI
  refine ⟨hS, fun b i lo hi e => ?_, fun b k' n' hb => ⟨(hG b k' n' hb).1, fun i => ?_⟩, fun b hb => ?_, fun b n' hb => ?_, hL', hb1.put (Or.inl (by decide)), hb2.put (Or.inl (by decide)), hb3.put (Or.inl (by decide))⟩
  · by_cases hab : b = 26
    · subst hab
      by_cases hij : i = j
      · subst hij
        rw [wr_eq]
        exact hr lo hi e
      · rw [wr_ne2 hij]
        exact hR 26 i lo hi e
    · rw [wr_ne hab]
      exact hR b i lo hi e
  · have hab : b ≠ 26 := fun e => by
      subst e
      cases t26.symm.trans hb
    rw [wr_ne hab]
    exact (hG b k' n' hb).2 i
  · refine (hM b hb).put fun e => ?_
    subst e
    cases t26.symm.trans hb
  · have hab : b ≠ 26 := fun e => by
      subst e
      cases t26.symm.trans hb
    simp only [wr_ne hab]
    exact hF b n' hb
theorem Inv.put34 {h : Hp} (hI : Inv h) {a j n : Nat} {x : Int} (ht : h.2.1 a = some (.inl (34, n))) (hL' : Lst (wr h a j x)) : Inv (wr h a j x) := by
  have hbig := noK_big hI (by decide +kernel) ht
  obtain ⟨hS, hR, hG, hM, hF, hL, hb1, hb2, hb3⟩ := hI
  refine ⟨hS, fun b i lo hi e => ?_, fun b k' n' hb => ⟨(hG b k' n' hb).1, fun i => ?_⟩, fun b hb => ?_, fun b n' hb => ?_, hL', hb1.put (Or.inl (by omega)), hb2.put (Or.inl (by omega)), hb3.put (Or.inl (by omega))⟩
  · have hab : b ≠ a := fun q => by
      subst q
      rw [rg_none hbig] at e
      cases e
    rw [wr_ne hab]
    exact hR b i lo hi e
  · by_cases hab : b = a
    · subst hab
      cases ht.symm.trans hb
      by_cases hij : i = j
      · subst hij
        rw [wr_eq]
        trivial
      · rw [wr_ne2 hij]
        exact (hG b 34 n ht).2 i
    · rw [wr_ne hab]
      exact (hG b k' n' hb).2 i
  · refine (hM b hb).put fun e => ?_
    subst e
    cases ht.symm.trans hb
  · have hab : b ≠ a := fun q => by
      subst q
      cases ht.symm.trans hb
    simp only [wr_ne hab]
    exact hF b n' hb
/-- the list as it stands: s messages in the row e of n places -/
def LiS (h : Hp) (s e n : Nat) : Prop := h.2.2 26 2 = (s : Int) ∧ s ≤ 60 ∧ h.2.2 26 1 = (e : Int) ∧ 106 ≤ e ∧ h.2.1 e = some (.inl (34, n)) ∧ s ≤ n ∧ n ≤ 67108864 ∧ ∀ j, j < s → ∃ m : Nat, h.2.2 e j = (m : Int) ∧ full h m
theorem LiS.lst {h : Hp} {s e n : Nat} (q : LiS h s e n) : Lst h := ⟨s, q.1, q.2.1, Or.inr ⟨e, n, q.2.2.1, q.2.2.2.1, q.2.2.2.2.1, q.2.2.2.2.2.1, q.2.2.2.2.2.2.2⟩⟩
/-- a new row is given to the list -/
theorem LiS.ed {h : Hp} (hI : Inv h) {s e n : Nat} (hs : h.2.2 26 2 = (s : Int)) (h60 : s ≤ 60) (he : 106 ≤ e) (te : h.2.1 e = some (.inl (34, n))) (hn : s ≤ n) (hn2 : n ≤ 67108864) (hel : ∀ j, j < s → ∃ m : Nat, h.2.2 e j = (m : Int) ∧ full h m) : LiS (wr h 26 1 (e : Int)) s e n :=
  ⟨by rw [wr_ne2 (by decide)]; exact hs, h60, wr_eq, he, te, hn, hn2, fun j hj => by
    obtain ⟨m, m1, m2⟩ := hel j hj
    exact ⟨m, by rw [wr_ne (by omega)]; exact m1, full.putF hI (by decide) m2⟩⟩
/-- a message is stored -/
theorem LiS.st {h : Hp} {s e n i : Nat} {x : Int} (q : LiS h s e n) (hx : i < s → ∃ m : Nat, x = (m : Int) ∧ full h m) : LiS (wr h e i x) s e n := by
  obtain ⟨q1, q2, q3, q4, q5, q6, q7, q8⟩ := q
  refine ⟨by rw [wr_ne (by omega)]; exact q1, q2, by rw [wr_ne (by omega)]; exact q3, q4, q5, q6, q7, fun j hj => ?_⟩
  by_cases hji : j = i
  · subst hji
    obtain ⟨m, m1, m2⟩ := hx hj
    exact ⟨m, by rw [wr_eq]; exact m1, m2.putA q5⟩
  · obtain ⟨m, m1, m2⟩ := q8 j hj
    exact ⟨m, by rw [wr_ne2 hji]; exact m1, m2.putA q5⟩
/-- the count is set -/
theorem LiS.sz {h : Hp} (hI : Inv h) {s e n s' : Nat} (q : LiS h s e n) (h1 : s' ≤ 60) (h2 : s' ≤ n) (hel : ∀ j, s ≤ j → j < s' → ∃ m : Nat, h.2.2 e j = (m : Int) ∧ full h m) : LiS (wr h 26 2 (s' : Int)) s' e n := by
  obtain ⟨q1, q2, q3, q4, q5, q6, q7, q8⟩ := q
  refine ⟨wr_eq, h1, by rw [wr_ne2 (by decide)]; exact q3, q4, q5, h2, q7, fun j hj => ?_⟩
  obtain ⟨m, m1, m2⟩ : ∃ m : Nat, h.2.2 e j = (m : Int) ∧ full h m := by
    by_cases hjs : j < s
    · exact q8 j hjs
    · exact hel j (by omega) hj
  exact ⟨m, by rw [wr_ne (by omega)]; exact m1, full.putF hI (by decide) m2⟩
theorem shr1 : ∀ n : Nat, n < 61 → 0 ≤ (Int32.ofInt (n : Int) >>> (Int32.ofInt 1 &&& 31)).toInt ∧ (Int32.ofInt (n : Int) >>> (Int32.ofInt 1 &&& 31)).toInt ≤ 60 := by decide +kernel
section TOL
variable {l : Launch} {E : ME} {pc : Nat} {L : LL} {st : List V} {h : Hp} {k z : Nat} {F : Option V → Hp → Nat → Nat → Prop}
theorem to_ishr1 {n : Nat} (hn : n < 61) (hd : decode E.1 pc = .ok (.ishr, 1)) (k0 : ∀ y : Int, 0 ≤ y ∧ y ≤ 60 → To l E (pc + 1, L, .inl y :: st, h, k, z) F) : To l E (pc, L, .inl 1 :: .inl (n : Int) :: st, h, k, z) F :=
  to_someI (P := fun y => 0 ≤ y ∧ y ≤ 60) (Int32.ofInt (n : Int) >>> (Int32.ofInt 1 &&& 31)) (shr1 n hn) (fun g HB p e R s m args below meth c Q H locs ls hC hl kk => lv_ishr hC.1.1 hC.1.2.1 hd kk) (fun y _ hy => k0 y hy)
theorem to_anewarrayZ {idx : Nat} (w : Nat) {i : Int} (hw : w % 10 = 4) (hcl : Cond.classLink E.2.2.1 idx "java/lang/Object" ∈ wsG) (hover : Cond.arrayOver (.object "java/lang/Object") ∈ nwL) (hd : decode E.1 pc = .ok (.anewarray idx, 3)) (hi : 0 ≤ i ∧ i ≤ 67108864) (hlt : h.1 < 1000000) (k0 : To l E (pc + 3, L, .inr (.inr h.1) :: st, row (al h (.inl (w, i.toNat))) h.1 (fun _ => 0), k + 1, z + i.toNat) F) : To l E (pc, L, .inl i :: st, h, k, z) F :=
  to_clean (to_anewarray w hw hcl hover hd hi hlt k0)
end TOL
/-- a copy of the list's row: its own name, its length, what it holds -/
def CopyR (h : Hp) (a n N : Nat) : Nat → Hp → Nat → Nat → Prop := fun x H mc ms => x = h.1 ∧ mc = 1 ∧ ms = N ∧ ∃ f : Nat → Int, H = row (al h (.inl (34, N))) h.1 f ∧ ∀ j, j < n → f j = h.2.2 a j
set_option maxRecDepth 100000 in
theorem ct_J7_copyOf_6403c (l : Launch) (h : Hp) (hI : Inv h) (a n : Nat) (ta : h.2.1 a = some (.inl (34, n))) (N : Nat) (hN : n ≤ N ∧ N ≤ 1000) (hel : ∀ i, i < n → ∃ x : Nat, h.2.2 a i = (x : Int) ∧ full h x) (hlt : h.1 + 1 ≤ 900000) : Ct l D_J7_copyOf_6403c 1 80 [.inr (.inr a), .inl (N : Int), .inr (.inr 1000051)] h (RRa (CopyR h a n N)) := by
  refine ct_of pn_J7_copyOf_6403c (Nat.le_of_ble_eq_true rfl) ?_
  show To l E_J7_copyOf_6403c (0, [(0, .inr (.inr a)), (1, .inl (N : Int)), (2, .inr (.inr 1000051))], [], h, 0, 0) _
  have hpos := hI.posN ta
  have hal := hI.ltN ta
  have hp1 := hI.1.1
  refine to_aload_n (dat dk_J7_copyOf_6403c 0 rfl) rfl (to_ldcM (tin 5 135 (by decide +kernel) rfl) (dat dk_J7_copyOf_6403c 1 rfl) (to_acmp_neT (t := 13) (dat dk_J7_copyOf_6403c 2 rfl) rfl (to_iload_n (dat dk_J7_copyOf_6403c 3 rfl) rfl ?_)))
  refine to_anewarrayZ 34 rfl (tin 5 137 (by decide +kernel) rfl) (tinN 5 136 (by decide +kernel) rfl) (dat dk_J7_copyOf_6403c 4 rfl) (by omega) (by omega) ?_
  rw [Int.toNat_natCast]
  obtain ⟨h1, e1⟩ : ∃ h1 : Hp, h1 = row (al h (.inl (34, N))) h.1 (fun _ => 0) := ⟨_, rfl⟩
  rw [← e1]
  have tn : h1.2.1 h.1 = some (.inl (34, N)) := by rw [e1]; exact al_new h _
  have old : ∀ b t, h.2.1 b = some t → h1.2.1 b = some t := fun b t ht => by rw [e1]; exact newA_old hI ht
  have ta1 := old _ _ ta
  have va1 : h1.2.2 a = h.2.2 a := by rw [e1]; exact newA_val hI ta
  refine to_goto (t := 24) (dat dk_J7_copyOf_6403c 5 rfl) rfl ?_
  refine to_astore_n (L' := [(0, .inr (.inr a)), (1, .inl (N : Int)), (2, .inr (.inr 1000051)), (3, .inr (.inr h.1))]) (dat dk_J7_copyOf_6403c 11 rfl) (by omega) (by decide) rfl ?_
  refine to_aload_np (dat dk_J7_copyOf_6403c 12 rfl) hpos rfl (to_iconst (dat dk_J7_copyOf_6403c 13 rfl) (to_aload_np (dat dk_J7_copyOf_6403c 14 rfl) (by omega) rfl (to_iconst (dat dk_J7_copyOf_6403c 15 rfl) (to_aload_np (dat dk_J7_copyOf_6403c 16 rfl) hpos rfl (to_alen (dat dk_J7_copyOf_6403c 17 rfl) ta1 (by omega) (to_iload_n (dat dk_J7_copyOf_6403c 18 rfl) rfl ?_))))))
  refine to_mmin (tin 4 146 (by decide +kernel) rfl) (tin 3 170 (by decide +kernel) rfl) (tin 1 18 (by decide +kernel) rfl) (tin 3 171 (by decide +kernel) rfl) (dat dk_J7_copyOf_6403c 19 rfl) (by omega) (by omega) rfl (fun r ar br => ?_)
  refine to_copyR (a := h.1) (b := a) (tin 4 147 (by decide +kernel) rfl) (tin 4 149 (by decide +kernel) rfl) (tin 4 148 (by decide +kernel) rfl) (tin 1 25 (by decide +kernel) rfl) (dat dk_J7_copyOf_6403c 20 rfl) tn rfl ta1 rfl (by omega) (by omega) (by decide) (by decide) (by omega) (by omega) (by omega) (tinN 9 47 (by decide +kernel) rfl) (fun i hi => by
    obtain ⟨x, x1, x2⟩ := hel i (by omega)
    exact Or.inr ⟨x, by rw [va1]; show h.2.2 a (0 + i) = _; rw [Nat.zero_add]; exact x1, old _ _ x2.1⟩) rfl (fun h2 e2 => ?_)
  have e4 : ∀ f, row h1 h.1 f = row (al h (.inl (34, N))) h.1 f := fun f => by rw [e1, row_row]
  refine to_aload_np (dat dk_J7_copyOf_6403c 21 rfl) (by omega) rfl ?_
  refine to_aret rfl (Or.inr ⟨_, rfl⟩) (dat dk_J7_copyOf_6403c 22 rfl) (rr_mka ⟨rfl, rfl, by omega, cpyF h1 h.1 a 0 0 r.toNat, e2.trans (e4 _), fun j j1 => ?_⟩)
  have e5 : cpyF h1 h.1 a 0 0 r.toNat j = va_cpy (h.2.2 a) (h1.2.2 h.1) 0 0 r.toNat j := by
    unfold cpyF
    rw [va1]
  rw [e5]
  unfold va_cpy
  rw [if_pos (by omega)]
  exact congrArg _ (by omega)
set_option maxRecDepth 100000 in
theorem ct_J7_copyOf_1904c (l : Launch) (h : Hp) (hI : Inv h) (a n : Nat) (ta : h.2.1 a = some (.inl (34, n))) (N : Nat) (hN : n ≤ N ∧ N ≤ 1000) (hel : ∀ i, i < n → ∃ x : Nat, h.2.2 a i = (x : Int) ∧ full h x) (hlt : h.1 + 1 ≤ 900000) : Ct l D_J7_copyOf_1904c 2 103 [.inr (.inr a), .inl (N : Int)] h (RRa (CopyR h a n N)) := by
  refine ct_of pn_J7_copyOf_1904c (Nat.le_of_ble_eq_true rfl) ?_
  show To l E_J7_copyOf_1904c (0, [(0, .inr (.inr a)), (1, .inl (N : Int))], [], h, 0, 0) _
  have hpos := hI.posN ta
  refine to_aload_np (dat dk_J7_copyOf_1904c 0 rfl) hpos rfl (to_iload_n (dat dk_J7_copyOf_1904c 1 rfl) rfl (to_aload_np (dat dk_J7_copyOf_1904c 2 rfl) hpos rfl ?_))
  refine to_getC rfl (tin 5 114 (by decide +kernel) rfl) (tin 9 53 (by decide +kernel) rfl) (tin 5 115 (by decide +kernel) rfl) (tin 5 131 (by decide +kernel) rfl) (dat dk_J7_copyOf_1904c 3 rfl) ta rfl ?_
  refine to_cRa ca_c29_300 (dat dk_J7_copyOf_1904c 4 rfl) (ct_J7_copyOf_6403c l h hI a n ta N hN hel hlt) rfl trivial rfl (fun x H mc ms p => ?_)
  obtain ⟨p1, p2, p3, p4⟩ := p
  exact to_aret rfl (Or.inr ⟨_, rfl⟩) (dat dk_J7_copyOf_1904c 5 rfl) (rr_mka ⟨p1, by omega, by omega, p4⟩)
abbrev Q_J8_newLength_cabcc (h : Hp) (a : Int) (b : Int) (c : Int) : Option V → Hp → Nat → Nat → Prop := RI (fun x H => h = H ∧ (a + 1 ≤ x ∧ x ≤ a + c + 1))
set_option maxRecDepth 100000 in
theorem ct_J8_newLength_cabcc (l : Launch) (h : Hp) (hI : Inv h) (a : Int) (ha : I32 a) (b : Int) (hb : I32 b) (c : Int) (hc : I32 c) (g0 : 0 ≤ a ∧ a ≤ 1000) (g1 : b = 1) (g2 : 0 ≤ c ∧ c ≤ 1000) : Ct l D_J8_newLength_cabcc 1 22 [.inl a, .inl b, .inl c] h (Q_J8_newLength_cabcc h a b c) := by
  refine ct_of pn_J8_newLength_cabcc (Nat.le_of_ble_eq_true rfl) ?_
  show To l E_J8_newLength_cabcc (0, [(0, .inl a), (1, .inl b), (2, .inl c)], [], h, 0, 0) _
  refine to_iload_n (dat dk_J8_newLength_cabcc 0 rfl) rfl (to_iload_n (dat dk_J8_newLength_cabcc 1 rfl) rfl (to_iload_n (dat dk_J8_newLength_cabcc 2 rfl) rfl ?_))
  refine to_mmax (tin 5 104 (by decide +kernel) rfl) (tin 5 105 (by decide +kernel) rfl) (tin 1 18 (by decide +kernel) rfl) (tin 5 106 (by decide +kernel) rfl) (dat dk_J8_newLength_cabcc 3 rfl) hb hc rfl (fun x1 ax1 bx1 => ?_)
  refine to_iadd (dat dk_J8_newLength_cabcc 4 rfl) (to_istore_n (L' := [(0, .inl a), (1, .inl b), (2, .inl c), (3, .inl (a + x1))]) (dat dk_J8_newLength_cabcc 5 rfl) (by decide) rfl (to_iconst (dat dk_J8_newLength_cabcc 6 rfl) (to_iload_n (dat dk_J8_newLength_cabcc 7 rfl) rfl ?_)))
  refine to_ige 21 (dat dk_J8_newLength_cabcc 8 rfl) rfl (by decide) (by omega) (fun c2 => ?_) (fun c2 => ?_)
  · skip
    exfalso; omega
  · skip
    refine to_iload_n (dat dk_J8_newLength_cabcc 9 rfl) rfl (to_ldc (v := 2147483639) (x := 2147483639) (tin 5 107 (by decide +kernel) rfl) (by decide +kernel) (dat dk_J8_newLength_cabcc 10 rfl) ?_)
    refine to_igt 21 (dat dk_J8_newLength_cabcc 11 rfl) rfl (by omega) (by decide) (fun c3 => ?_) (fun c3 => ?_)
    · skip
      exfalso; omega
    · skip
      refine to_iload_n (dat dk_J8_newLength_cabcc 12 rfl) rfl ?_
      exact to_iret rfl (dat dk_J8_newLength_cabcc 13 rfl) (ri_mk (by omega) ⟨rfl, (show a + 1 ≤ (a + x1) ∧ (a + x1) ≤ a + c + 1 by omega)⟩)
